theorem d_M_init_0 : dc b_M_init 0 (.aload_n 0) 1 1 := ⟨by decide +kernel, rfl⟩
theorem d_M_init_1 : dc b_M_init 1 (.invokespecial 1) 3 4 := ⟨by decide +kernel, rfl⟩
theorem d_M_init_4 : dc b_M_init 4 (.aload_n 0) 1 5 := ⟨by decide +kernel, rfl⟩
theorem d_M_init_5 : dc b_M_init 5 (.new 7) 3 8 := ⟨by decide +kernel, rfl⟩
theorem d_M_init_8 : dc b_M_init 8 (.dup) 1 9 := ⟨by decide +kernel, rfl⟩
theorem d_M_init_9 : dc b_M_init 9 (.invokespecial 9) 3 12 := ⟨by decide +kernel, rfl⟩
theorem d_M_init_12 : dc b_M_init 12 (.putfield 10) 3 15 := ⟨by decide +kernel, rfl⟩
theorem d_M_init_15 : dc b_M_init 15 (.aload_n 0) 1 16 := ⟨by decide +kernel, rfl⟩
theorem d_M_init_16 : dc b_M_init 16 (.iconst 4) 1 17 := ⟨by decide +kernel, rfl⟩
theorem d_M_init_17 : dc b_M_init 17 (.newarray .int) 2 19 := ⟨by decide +kernel, rfl⟩
theorem d_M_init_19 : dc b_M_init 19 (.putfield 16) 3 22 := ⟨by decide +kernel, rfl⟩
theorem d_M_init_22 : dc b_M_init 22 (.aload_n 0) 1 23 := ⟨by decide +kernel, rfl⟩
theorem d_M_init_23 : dc b_M_init 23 (.bipush 12) 2 25 := ⟨by decide +kernel, rfl⟩
theorem d_M_init_25 : dc b_M_init 25 (.anewarray 20) 3 28 := ⟨by decide +kernel, rfl⟩
theorem d_M_init_28 : dc b_M_init 28 (.putfield 22) 3 31 := ⟨by decide +kernel, rfl⟩
theorem d_M_init_31 : dc b_M_init 31 (.aload_n 0) 1 32 := ⟨by decide +kernel, rfl⟩
theorem d_M_init_32 : dc b_M_init 32 (.bipush 32) 2 34 := ⟨by decide +kernel, rfl⟩
theorem d_M_init_34 : dc b_M_init 34 (.newarray .int) 2 36 := ⟨by decide +kernel, rfl⟩
theorem d_M_init_36 : dc b_M_init 36 (.putfield 26) 3 39 := ⟨by decide +kernel, rfl⟩
theorem d_M_init_39 : dc b_M_init 39 (.aload_n 0) 1 40 := ⟨by decide +kernel, rfl⟩
theorem d_M_init_40 : dc b_M_init 40 (.bipush 32) 2 42 := ⟨by decide +kernel, rfl⟩
theorem d_M_init_42 : dc b_M_init 42 (.newarray .long) 2 44 := ⟨by decide +kernel, rfl⟩
theorem d_M_init_44 : dc b_M_init 44 (.putfield 29) 3 47 := ⟨by decide +kernel, rfl⟩
theorem d_M_init_47 : dc b_M_init 47 (.aload_n 0) 1 48 := ⟨by decide +kernel, rfl⟩
theorem d_M_init_48 : dc b_M_init 48 (.iconst 3) 1 49 := ⟨by decide +kernel, rfl⟩
theorem d_M_init_49 : dc b_M_init 49 (.anewarray 33) 3 52 := ⟨by decide +kernel, rfl⟩
theorem d_M_init_52 : dc b_M_init 52 (.putfield 35) 3 55 := ⟨by decide +kernel, rfl⟩
theorem d_M_init_55 : dc b_M_init 55 (.aload_n 0) 1 56 := ⟨by decide +kernel, rfl⟩
theorem d_M_init_56 : dc b_M_init 56 (.bipush 16) 2 58 := ⟨by decide +kernel, rfl⟩
theorem d_M_init_58 : dc b_M_init 58 (.anewarray 39) 3 61 := ⟨by decide +kernel, rfl⟩
theorem d_M_init_61 : dc b_M_init 61 (.putfield 41) 3 64 := ⟨by decide +kernel, rfl⟩
theorem d_M_init_64 : dc b_M_init 64 (.aload_n 0) 1 65 := ⟨by decide +kernel, rfl⟩
theorem d_M_init_65 : dc b_M_init 65 (.new 45) 3 68 := ⟨by decide +kernel, rfl⟩
theorem d_M_init_68 : dc b_M_init 68 (.dup) 1 69 := ⟨by decide +kernel, rfl⟩
theorem d_M_init_69 : dc b_M_init 69 (.aload_n 0) 1 70 := ⟨by decide +kernel, rfl⟩
theorem d_M_init_70 : dc b_M_init 70 (.getfield 10) 3 73 := ⟨by decide +kernel, rfl⟩
theorem d_M_init_73 : dc b_M_init 73 (.invokespecial 47) 3 76 := ⟨by decide +kernel, rfl⟩
theorem d_M_init_76 : dc b_M_init 76 (.putfield 50) 3 79 := ⟨by decide +kernel, rfl⟩
theorem d_M_init_79 : dc b_M_init 79 (.aload_n 0) 1 80 := ⟨by decide +kernel, rfl⟩
theorem d_M_init_80 : dc b_M_init 80 (.new 54) 3 83 := ⟨by decide +kernel, rfl⟩
theorem d_M_init_83 : dc b_M_init 83 (.dup) 1 84 := ⟨by decide +kernel, rfl⟩
theorem d_M_init_84 : dc b_M_init 84 (.invokespecial 56) 3 87 := ⟨by decide +kernel, rfl⟩
theorem d_M_init_87 : dc b_M_init 87 (.putfield 57) 3 90 := ⟨by decide +kernel, rfl⟩
theorem d_M_init_90 : dc b_M_init 90 (.aload_n 0) 1 91 := ⟨by decide +kernel, rfl⟩
theorem d_M_init_91 : dc b_M_init 91 (.ldc2_w 61) 3 94 := ⟨by decide +kernel, rfl⟩
theorem d_M_init_94 : dc b_M_init 94 (.putfield 63) 3 97 := ⟨by decide +kernel, rfl⟩
theorem d_M_init_97 : dc b_M_init 97 (.aload_n 0) 1 98 := ⟨by decide +kernel, rfl⟩
theorem d_M_init_98 : dc b_M_init 98 (.iconst 3) 1 99 := ⟨by decide +kernel, rfl⟩
theorem d_M_init_99 : dc b_M_init 99 (.newarray .long) 2 101 := ⟨by decide +kernel, rfl⟩
theorem d_M_init_101 : dc b_M_init 101 (.putfield 67) 3 104 := ⟨by decide +kernel, rfl⟩
theorem d_M_init_104 : dc b_M_init 104 (.aload_n 0) 1 105 := ⟨by decide +kernel, rfl⟩
theorem d_M_init_105 : dc b_M_init 105 (.bipush 9) 2 107 := ⟨by decide +kernel, rfl⟩
theorem d_M_init_107 : dc b_M_init 107 (.newarray .long) 2 109 := ⟨by decide +kernel, rfl⟩
theorem d_M_init_109 : dc b_M_init 109 (.putfield 70) 3 112 := ⟨by decide +kernel, rfl⟩
theorem d_M_init_112 : dc b_M_init 112 (.aload_n 0) 1 113 := ⟨by decide +kernel, rfl⟩
theorem d_M_init_113 : dc b_M_init 113 (.getfield 16) 3 116 := ⟨by decide +kernel, rfl⟩
theorem d_M_init_116 : dc b_M_init 116 (.iconst 0) 1 117 := ⟨by decide +kernel, rfl⟩
theorem d_M_init_117 : dc b_M_init 117 (.iconst (-1)) 1 118 := ⟨by decide +kernel, rfl⟩
theorem d_M_init_118 : dc b_M_init 118 (.iastore) 1 119 := ⟨by decide +kernel, rfl⟩
theorem d_M_init_119 : dc b_M_init 119 (.aload_n 0) 1 120 := ⟨by decide +kernel, rfl⟩
theorem d_M_init_120 : dc b_M_init 120 (.iconst 1) 1 121 := ⟨by decide +kernel, rfl⟩
theorem d_M_init_121 : dc b_M_init 121 (.putfield 73) 3 124 := ⟨by decide +kernel, rfl⟩
theorem d_M_init_124 : dc b_M_init 124 (.aload_n 0) 1 125 := ⟨by decide +kernel, rfl⟩
theorem d_M_init_125 : dc b_M_init 125 (.getfield 35) 3 128 := ⟨by decide +kernel, rfl⟩
theorem d_M_init_128 : dc b_M_init 128 (.iconst 0) 1 129 := ⟨by decide +kernel, rfl⟩
theorem d_M_init_129 : dc b_M_init 129 (.new 33) 3 132 := ⟨by decide +kernel, rfl⟩
theorem d_M_init_132 : dc b_M_init 132 (.dup) 1 133 := ⟨by decide +kernel, rfl⟩
theorem d_M_init_133 : dc b_M_init 133 (.bipush 7) 2 135 := ⟨by decide +kernel, rfl⟩
theorem d_M_init_135 : dc b_M_init 135 (.iconst 0) 1 136 := ⟨by decide +kernel, rfl⟩
theorem d_M_init_136 : dc b_M_init 136 (.bipush 26) 2 138 := ⟨by decide +kernel, rfl⟩
theorem d_M_init_138 : dc b_M_init 138 (.iconst 0) 1 139 := ⟨by decide +kernel, rfl⟩
theorem d_M_init_139 : dc b_M_init 139 (.iconst 5) 1 140 := ⟨by decide +kernel, rfl⟩
theorem d_M_init_140 : dc b_M_init 140 (.invokespecial 77) 3 143 := ⟨by decide +kernel, rfl⟩
theorem d_M_init_143 : dc b_M_init 143 (.aastore) 1 144 := ⟨by decide +kernel, rfl⟩
theorem d_M_init_144 : dc b_M_init 144 (.aload_n 0) 1 145 := ⟨by decide +kernel, rfl⟩
theorem d_M_init_145 : dc b_M_init 145 (.getfield 35) 3 148 := ⟨by decide +kernel, rfl⟩
theorem d_M_init_148 : dc b_M_init 148 (.iconst 1) 1 149 := ⟨by decide +kernel, rfl⟩
theorem d_M_init_149 : dc b_M_init 149 (.new 33) 3 152 := ⟨by decide +kernel, rfl⟩
theorem d_M_init_152 : dc b_M_init 152 (.dup) 1 153 := ⟨by decide +kernel, rfl⟩
theorem d_M_init_153 : dc b_M_init 153 (.bipush 7) 2 155 := ⟨by decide +kernel, rfl⟩
theorem d_M_init_155 : dc b_M_init 155 (.iconst 1) 1 156 := ⟨by decide +kernel, rfl⟩
theorem d_M_init_156 : dc b_M_init 156 (.bipush 27) 2 158 := ⟨by decide +kernel, rfl⟩
theorem d_M_init_158 : dc b_M_init 158 (.bipush 7) 2 160 := ⟨by decide +kernel, rfl⟩
theorem d_M_init_160 : dc b_M_init 160 (.iconst 1) 1 161 := ⟨by decide +kernel, rfl⟩
theorem d_M_init_161 : dc b_M_init 161 (.invokespecial 77) 3 164 := ⟨by decide +kernel, rfl⟩
theorem d_M_init_164 : dc b_M_init 164 (.aastore) 1 165 := ⟨by decide +kernel, rfl⟩
theorem d_M_init_165 : dc b_M_init 165 (.aload_n 0) 1 166 := ⟨by decide +kernel, rfl⟩
theorem d_M_init_166 : dc b_M_init 166 (.getfield 35) 3 169 := ⟨by decide +kernel, rfl⟩
theorem d_M_init_169 : dc b_M_init 169 (.iconst 2) 1 170 := ⟨by decide +kernel, rfl⟩
theorem d_M_init_170 : dc b_M_init 170 (.new 33) 3 173 := ⟨by decide +kernel, rfl⟩
theorem d_M_init_173 : dc b_M_init 173 (.dup) 1 174 := ⟨by decide +kernel, rfl⟩
theorem d_M_init_174 : dc b_M_init 174 (.bipush 7) 2 176 := ⟨by decide +kernel, rfl⟩
theorem d_M_init_176 : dc b_M_init 176 (.iconst 2) 1 177 := ⟨by decide +kernel, rfl⟩
theorem d_M_init_177 : dc b_M_init 177 (.bipush 28) 2 179 := ⟨by decide +kernel, rfl⟩
theorem d_M_init_179 : dc b_M_init 179 (.iconst 0) 1 180 := ⟨by decide +kernel, rfl⟩
theorem d_M_init_180 : dc b_M_init 180 (.bipush 7) 2 182 := ⟨by decide +kernel, rfl⟩
theorem d_M_init_182 : dc b_M_init 182 (.invokespecial 77) 3 185 := ⟨by decide +kernel, rfl⟩
theorem d_M_init_185 : dc b_M_init 185 (.aastore) 1 186 := ⟨by decide +kernel, rfl⟩
theorem d_M_init_186 : dc b_M_init 186 (.aload_n 0) 1 187 := ⟨by decide +kernel, rfl⟩
theorem d_M_init_187 : dc b_M_init 187 (.getfield 70) 3 190 := ⟨by decide +kernel, rfl⟩
theorem d_M_init_190 : dc b_M_init 190 (.ldc2_w 61) 3 193 := ⟨by decide +kernel, rfl⟩
theorem d_M_init_193 : dc b_M_init 193 (.invokestatic 80) 3 196 := ⟨by decide +kernel, rfl⟩
theorem d_M_init_196 : dc b_M_init 196 (.return_) 1 197 := ⟨by decide +kernel, rfl⟩
set_option maxRecDepth 100000 in
def f_M_init (S : gS) (d : gD) (o : Nat) : Option ((Unit × gS × gD) × Nat × Nat) :=
  ac 1 2 <|
  lt_ (nS S 8 0) fun S1 =>
  lt_ (nD S d) fun d2 =>
  lt_ (sZ S) fun a3 =>
  bdA (f_Ty_init S1 d2 a3) fun _ S9 d10 =>
  kd S9 o 1 <|
  lt_ (wP S9 o 0 (some a3)) fun S16 =>
  nl 4 <|
  ac 1 ((4 : Int32).toNatClampNeg) <|
  lt_ (nS S16 50 ((4 : Int32).toNatClampNeg)) fun S17 =>
  lt_ (nD S16 d10) fun d18 =>
  lt_ (sZ S16) fun a19 =>
  kd S17 o 1 <|
  lt_ (wP S17 o 1 (some a19)) fun S25 =>
  nl 12 <|
  ac 1 ((12 : Int32).toNatClampNeg) <|
  lt_ (nS S25 60 ((12 : Int32).toNatClampNeg)) fun S26 =>
  lt_ (nD S25 d18) fun d27 =>
  lt_ (sZ S25) fun a28 =>
  kd S26 o 1 <|
  lt_ (wP S26 o 3 (some a28)) fun S34 =>
  nl 32 <|
  ac 1 ((32 : Int32).toNatClampNeg) <|
  lt_ (nS S34 50 ((32 : Int32).toNatClampNeg)) fun S35 =>
  lt_ (nD S34 d27) fun d36 =>
  lt_ (sZ S34) fun a37 =>
  kd S35 o 1 <|
  lt_ (wP S35 o 5 (some a37)) fun S43 =>
  nl 32 <|
  ac 1 ((32 : Int32).toNatClampNeg) <|
  lt_ (nS S43 51 ((32 : Int32).toNatClampNeg)) fun S44 =>
  lt_ (nD S43 d36) fun d45 =>
  lt_ (sZ S43) fun a46 =>
  kd S44 o 1 <|
  lt_ (wP S44 o 6 (some a46)) fun S52 =>
  nl 3 <|
  ac 1 ((3 : Int32).toNatClampNeg) <|
  lt_ (nS S52 61 ((3 : Int32).toNatClampNeg)) fun S53 =>
  lt_ (nD S52 d45) fun d54 =>
  lt_ (sZ S52) fun a55 =>
  kd S53 o 1 <|
  lt_ (wP S53 o 8 (some a55)) fun S61 =>
  nl 16 <|
  ac 1 ((16 : Int32).toNatClampNeg) <|
  lt_ (nS S61 62 ((16 : Int32).toNatClampNeg)) fun S62 =>
  lt_ (nD S61 d54) fun d63 =>
  lt_ (sZ S61) fun a64 =>
  kd S62 o 1 <|
  lt_ (wP S62 o 9 (some a64)) fun S70 =>
  ac 1 4 <|
  lt_ (nS S70 3 0) fun S71 =>
  lt_ (nD S70 d63) fun d72 =>
  lt_ (sZ S70) fun a73 =>
  kd S71 o 1 <|
  lt_ (sP S71 o 0) fun x78 =>
  bdA (f_Dr_init S71 d72 a73 x78) fun _ S81 d82 =>
  kd S81 o 1 <|
  lt_ (wP S81 o 11 (some a73)) fun S88 =>
  ac 1 6 <|
  lt_ (nS S88 9 0) fun S89 =>
  lt_ (nD S88 d82) fun d90 =>
  lt_ (sZ S88) fun a91 =>
  bdA (f_Uw_init S89 d90 a91) fun _ S97 d98 =>
  kd S97 o 1 <|
  lt_ (wP S97 o 12 (some a91)) fun S104 =>
  lt_ (wL d98 o 15 (-1)) fun d105 =>
  nl 3 <|
  ac 1 ((3 : Int32).toNatClampNeg) <|
  lt_ (nS S104 51 ((3 : Int32).toNatClampNeg)) fun S106 =>
  lt_ (nD S104 d105) fun d107 =>
  lt_ (sZ S104) fun a108 =>
  kd S106 o 1 <|
  lt_ (wP S106 o 16 (some a108)) fun S114 =>
  nl 9 <|
  ac 1 ((9 : Int32).toNatClampNeg) <|
  lt_ (nS S114 51 ((9 : Int32).toNatClampNeg)) fun S115 =>
  lt_ (nD S114 d107) fun d116 =>
  lt_ (sZ S114) fun a117 =>
  kd S115 o 1 <|
  lt_ (wP S115 o 17 (some a117)) fun S123 =>
  lt_ (sP S123 o 1) fun x124 =>
  nn x124 fun a125 =>
  kd S123 a125 50 <|
  gi 0 (sN S123 a125) <|
  lt_ (wI d116 a125 (0 : Int32).toNatClampNeg (-1)) fun d128 =>
  lt_ (wI d128 o 2 1) fun d129 =>
  lt_ (sP S123 o 8) fun x130 =>
  ac 1 6 <|
  lt_ (nS S123 5 0) fun S131 =>
  lt_ (nD S123 d129) fun d132 =>
  lt_ (sZ S123) fun a133 =>
  bdA (f_Om_init S131 d132 a133 7 0 26 0 5) fun _ S139 d140 =>
  nn x130 fun a145 =>
  kd S139 a145 61 <|
  gi 0 (sN S139 a145) <|
  kd S139 a133 5 <|
  lt_ (wP S139 a145 (0 : Int32).toNatClampNeg (some a133)) fun S148 =>
  kd S148 o 1 <|
  lt_ (sP S148 o 8) fun x151 =>
  ac 1 6 <|
  lt_ (nS S148 5 0) fun S152 =>
  lt_ (nD S148 d140) fun d153 =>
  lt_ (sZ S148) fun a154 =>
  bdA (f_Om_init S152 d153 a154 7 1 27 7 1) fun _ S160 d161 =>
  nn x151 fun a166 =>
  kd S160 a166 61 <|
  gi 1 (sN S160 a166) <|
  kd S160 a154 5 <|
  lt_ (wP S160 a166 (1 : Int32).toNatClampNeg (some a154)) fun S169 =>
  kd S169 o 1 <|
  lt_ (sP S169 o 8) fun x172 =>
  ac 1 6 <|
  lt_ (nS S169 5 0) fun S173 =>
  lt_ (nD S169 d161) fun d174 =>
  lt_ (sZ S169) fun a175 =>
  bdA (f_Om_init S173 d174 a175 7 2 28 0 7) fun _ S181 d182 =>
  nn x172 fun a187 =>
  kd S181 a187 61 <|
  gi 2 (sN S181 a187) <|
  kd S181 a175 5 <|
  lt_ (wP S181 a187 (2 : Int32).toNatClampNeg (some a175)) fun S190 =>
  kd S190 o 1 <|
  lt_ (sP S190 o 17) fun x193 =>
  bdD (f_Ar_fillJ S190 d182 x193 (-1)) fun _ d196 =>
  some (((), S190, d196), 0, 0)
set_option maxRecDepth 100000 in
set_option maxHeartbeats 4000000 in
theorem c_M_init (l : Launch) (G : gG) {S : gS} {d : gD} {o : Nat} {r : Unit} {d' : gD} {S' : gS} {dc ds : Nat} (h : f_M_init S d o = some ((r, S', d'), dc, ds)) : GM l G y_M_init b_M_init 1 none 3 66 dc ds [.inr (.inr (some o))] S d (none) S' d' := by
  refine GM.of (by decide) (Nat.le_of_ble_eq_true rfl) ?_
  intro X hl0 hG0 hR0 hE0
  have hE : gE X b_M_init 1 "StandInMill" none "<init>" 3 66 := hE0
  have hmc : (xR X).cells = dc := by rw [hR0]
  have hms : (xR X).slots = ds := by rw [hR0]
  obtain ⟨mc, emc⟩ : ∃ z, z = dc := ⟨_, rfl⟩
  obtain ⟨ms, ems⟩ : ∃ z, z = ds := ⟨_, rfl⟩
  rw [← emc] at hmc
  rw [← ems] at hms
  have hc : 0 + dc = mc := by omega
  have hs : 0 + ds = ms := by omega
  show gw X 0 0 (gQ X _ _ _ dc ds) _ _ _ _ _
  rw [← emc, ← ems]
  clear hR0 emc ems
  unfold f_M_init at h
  refine gw.less (lv' := [some (va_rf (some o))]) (And.intro rfl trivial) ?_
  refine g_aload_n (i := 0) hE d_M_init_0 rfl rfl ?_
  refine g_objInit hE m_35 m_1 m_2 ⟨Nat.le_of_ble_eq_true rfl, Nat.le_of_ble_eq_true rfl⟩ ct_0 d_M_init_1 ?_
  refine g_aload_n (i := 0) hE d_M_init_4 rfl rfl ?_
  obtain ⟨dc0, ds0, h, hc0, hs0⟩ := ac_s h
  refine g_new hE kc_Ty kn_Ty m_36 m_37 m_38 (cnt_room hmc hc hc0) (cnt_room hms hs hs0) d_M_init_5 (fun S1 d2 a3 e1 e2 e3 => ?_)
  have k4 : sK S1 a3 = 8 := by rw [← e1, ← e3]; exact nS_new
  replace h := lt_i e1 h; replace h := lt_i e2 h; replace h := lt_i e3 h; clear e1 e2 e3
  refine gw.gen (fun c5 s6 ec es => ?_)
  replace hc := cnt_step hc hc0 ec; replace hs := cnt_step hs hs0 es; clear hc0 hs0 ec es
  refine g_dupr hE d_M_init_8 ?_
  obtain ⟨x7, S9, d10, n11, n12, dc0, ds0, e8, h, hc0, hs0⟩ := bdA_s h
  refine g_callI (av := [.inr (.inr (some a3))]) (as := []) (stk := [va_rf (some a3), va_rf (some o)]) [va_rf (some a3), va_rf (some o)] hE (c_Ty_init (xl X) (xG X) e8) ky_Ty_init ⟨Nat.le_of_ble_eq_true rfl, Nat.le_of_ble_eq_true rfl⟩ rfl m_39 m_40 rfl rfl d_M_init_9 rfl rfl (Nat.le_trans (ct_r (ct_r ct_n)) (Nat.le_of_ble_eq_true rfl)) (cnt_room hmc hc hc0) (cnt_room hms hs hs0) ?_
  refine gw.gen (fun c13 s14 ec es => ?_)
  replace hc := cnt_step hc hc0 ec; replace hs := cnt_step hs hs0 es; clear hc0 hs0 ec es
  obtain ⟨k15, h⟩ := kd_s h
  refine g_putRF (fty := .object "StandInMill$Types") 0 hE kc_M k15 (Nat.le_of_ble_eq_true rfl) rfl m_41 rfl (by decide +kernel) rfl d_M_init_12 rfl rfl (fun S16 e => ?_)
  replace k15 : sK S16 o = 1 := by rw [← e]; exact k15
  replace h := lt_i e h; clear e
  refine g_aload_n (i := 0) hE d_M_init_15 rfl rfl ?_
  refine g_iconst hE d_M_init_16 ki_4 ?_
  obtain ⟨g20, h⟩ := nl_s h
  obtain ⟨dc0, ds0, h, hc0, hs0⟩ := ac_s h
  refine g_newa (κ := 50) hE rfl (by decide) (fun _ => rfl) (fun _ _ h => h) (by decide) m_9 g20 (cnt_room hmc hc hc0) (cnt_room hms hs hs0) d_M_init_17 (fun S17 d18 a19 e1 e2 e3 => ?_)
  have k21 : sK S17 a19 = 50 := by rw [← e1, ← e3]; exact nS_new
  replace h := lt_i e1 h; replace h := lt_i e2 h; replace h := lt_i e3 h; clear e1 e2 e3
  refine gw.gen (fun c22 s23 ec es => ?_)
  replace hc := cnt_step hc hc0 ec; replace hs := cnt_step hs hs0 es; clear hc0 hs0 ec es
  obtain ⟨k24, h⟩ := kd_s h
  refine g_putRF (fty := .array (.int)) 1 hE kc_M k24 (Nat.le_of_ble_eq_true rfl) rfl m_42 rfl (by decide +kernel) rfl d_M_init_19 rfl rfl (fun S25 e => ?_)
  replace k21 : sK S25 a19 = 50 := by rw [← e]; exact k21
  replace k24 : sK S25 o = 1 := by rw [← e]; exact k24
  replace h := lt_i e h; clear e
  refine g_aload_n (i := 0) hE d_M_init_22 rfl rfl ?_
  refine g_bipush hE d_M_init_23 kb_12 ?_
  obtain ⟨g29, h⟩ := nl_s h
  obtain ⟨dc0, ds0, h, hc0, hs0⟩ := ac_s h
  refine g_newq (κ := 60) hE rfl (by decide) (fun _ => rfl) (by decide) m_43 g29 (cnt_room hmc hc hc0) (cnt_room hms hs hs0) d_M_init_25 (fun S26 d27 a28 e1 e2 e3 => ?_)
  have k30 : sK S26 a28 = 60 := by rw [← e1, ← e3]; exact nS_new
  replace h := lt_i e1 h; replace h := lt_i e2 h; replace h := lt_i e3 h; clear e1 e2 e3
  refine gw.gen (fun c31 s32 ec es => ?_)
  replace hc := cnt_step hc hc0 ec; replace hs := cnt_step hs hs0 es; clear hc0 hs0 ec es
  obtain ⟨k33, h⟩ := kd_s h
  refine g_putRF (fty := .array (.object "StandInMill$Face")) 3 hE kc_M k33 (Nat.le_of_ble_eq_true rfl) rfl m_44 rfl (by decide +kernel) rfl d_M_init_28 rfl rfl (fun S34 e => ?_)
  replace k30 : sK S34 a28 = 60 := by rw [← e]; exact k30
  replace k33 : sK S34 o = 1 := by rw [← e]; exact k33
  replace h := lt_i e h; clear e
  refine g_aload_n (i := 0) hE d_M_init_31 rfl rfl ?_
  refine g_bipush hE d_M_init_32 kb_32 ?_
  obtain ⟨g38, h⟩ := nl_s h
  obtain ⟨dc0, ds0, h, hc0, hs0⟩ := ac_s h
  refine g_newa (κ := 50) hE rfl (by decide) (fun _ => rfl) (fun _ _ h => h) (by decide) m_9 g38 (cnt_room hmc hc hc0) (cnt_room hms hs hs0) d_M_init_34 (fun S35 d36 a37 e1 e2 e3 => ?_)
  have k39 : sK S35 a37 = 50 := by rw [← e1, ← e3]; exact nS_new
  replace h := lt_i e1 h; replace h := lt_i e2 h; replace h := lt_i e3 h; clear e1 e2 e3
  refine gw.gen (fun c40 s41 ec es => ?_)
  replace hc := cnt_step hc hc0 ec; replace hs := cnt_step hs hs0 es; clear hc0 hs0 ec es
  obtain ⟨k42, h⟩ := kd_s h
  refine g_putRF (fty := .array (.int)) 5 hE kc_M k42 (Nat.le_of_ble_eq_true rfl) rfl m_45 rfl (by decide +kernel) rfl d_M_init_36 rfl rfl (fun S43 e => ?_)
  replace k39 : sK S43 a37 = 50 := by rw [← e]; exact k39
  replace k42 : sK S43 o = 1 := by rw [← e]; exact k42
  replace h := lt_i e h; clear e
  refine g_aload_n (i := 0) hE d_M_init_39 rfl rfl ?_
  refine g_bipush hE d_M_init_40 kb_32 ?_
  obtain ⟨g47, h⟩ := nl_s h
  obtain ⟨dc0, ds0, h, hc0, hs0⟩ := ac_s h
  refine g_newa (κ := 51) hE rfl (by decide) (fun _ => rfl) (fun _ _ h => h) (by decide) m_3 g47 (cnt_room hmc hc hc0) (cnt_room hms hs hs0) d_M_init_42 (fun S44 d45 a46 e1 e2 e3 => ?_)
  have k48 : sK S44 a46 = 51 := by rw [← e1, ← e3]; exact nS_new
  replace h := lt_i e1 h; replace h := lt_i e2 h; replace h := lt_i e3 h; clear e1 e2 e3
  refine gw.gen (fun c49 s50 ec es => ?_)
  replace hc := cnt_step hc hc0 ec; replace hs := cnt_step hs hs0 es; clear hc0 hs0 ec es
  obtain ⟨k51, h⟩ := kd_s h
  refine g_putRF (fty := .array (.long)) 6 hE kc_M k51 (Nat.le_of_ble_eq_true rfl) rfl m_46 rfl (by decide +kernel) rfl d_M_init_44 rfl rfl (fun S52 e => ?_)
  replace k48 : sK S52 a46 = 51 := by rw [← e]; exact k48
  replace k51 : sK S52 o = 1 := by rw [← e]; exact k51
  replace h := lt_i e h; clear e
  refine g_aload_n (i := 0) hE d_M_init_47 rfl rfl ?_
  refine g_iconst hE d_M_init_48 ki_3 ?_
  obtain ⟨g56, h⟩ := nl_s h
  obtain ⟨dc0, ds0, h, hc0, hs0⟩ := ac_s h
  refine g_newq (κ := 61) hE rfl (by decide) (fun _ => rfl) (by decide) m_47 g56 (cnt_room hmc hc hc0) (cnt_room hms hs hs0) d_M_init_49 (fun S53 d54 a55 e1 e2 e3 => ?_)
  have k57 : sK S53 a55 = 61 := by rw [← e1, ← e3]; exact nS_new
  replace h := lt_i e1 h; replace h := lt_i e2 h; replace h := lt_i e3 h; clear e1 e2 e3
  refine gw.gen (fun c58 s59 ec es => ?_)
  replace hc := cnt_step hc hc0 ec; replace hs := cnt_step hs hs0 es; clear hc0 hs0 ec es
  obtain ⟨k60, h⟩ := kd_s h
  refine g_putRF (fty := .array (.object "StandInMill$OwnMethod")) 8 hE kc_M k60 (Nat.le_of_ble_eq_true rfl) rfl m_48 rfl (by decide +kernel) rfl d_M_init_52 rfl rfl (fun S61 e => ?_)
  replace k57 : sK S61 a55 = 61 := by rw [← e]; exact k57
  replace k60 : sK S61 o = 1 := by rw [← e]; exact k60
  replace h := lt_i e h; clear e
  refine g_aload_n (i := 0) hE d_M_init_55 rfl rfl ?_
  refine g_bipush hE d_M_init_56 kb_16 ?_
  obtain ⟨g65, h⟩ := nl_s h
  obtain ⟨dc0, ds0, h, hc0, hs0⟩ := ac_s h
  refine g_newq (κ := 62) hE rfl (by decide) (fun _ => rfl) (by decide) m_49 g65 (cnt_room hmc hc hc0) (cnt_room hms hs hs0) d_M_init_58 (fun S62 d63 a64 e1 e2 e3 => ?_)
  have k66 : sK S62 a64 = 62 := by rw [← e1, ← e3]; exact nS_new
  replace h := lt_i e1 h; replace h := lt_i e2 h; replace h := lt_i e3 h; clear e1 e2 e3
  refine gw.gen (fun c67 s68 ec es => ?_)
  replace hc := cnt_step hc hc0 ec; replace hs := cnt_step hs hs0 es; clear hc0 hs0 ec es
  obtain ⟨k69, h⟩ := kd_s h
  refine g_putRF (fty := .array (.object "StandInMill$StandIn")) 9 hE kc_M k69 (Nat.le_of_ble_eq_true rfl) rfl m_50 rfl (by decide +kernel) rfl d_M_init_61 rfl rfl (fun S70 e => ?_)
  replace k66 : sK S70 a64 = 62 := by rw [← e]; exact k66
  replace k69 : sK S70 o = 1 := by rw [← e]; exact k69
  replace h := lt_i e h; clear e
  refine g_aload_n (i := 0) hE d_M_init_64 rfl rfl ?_
  obtain ⟨dc0, ds0, h, hc0, hs0⟩ := ac_s h
  refine g_new hE kc_Dr kn_Dr m_51 m_52 m_53 (cnt_room hmc hc hc0) (cnt_room hms hs hs0) d_M_init_65 (fun S71 d72 a73 e1 e2 e3 => ?_)
  have k74 : sK S71 a73 = 3 := by rw [← e1, ← e3]; exact nS_new
  replace h := lt_i e1 h; replace h := lt_i e2 h; replace h := lt_i e3 h; clear e1 e2 e3
  refine gw.gen (fun c75 s76 ec es => ?_)
  replace hc := cnt_step hc hc0 ec; replace hs := cnt_step hs hs0 es; clear hc0 hs0 ec es
  refine g_dupr hE d_M_init_68 ?_
  refine g_aload_n (i := 0) hE d_M_init_69 rfl rfl ?_
  obtain ⟨k77, h⟩ := kd_s h
  refine g_getR 0 hE kc_M k77 (Nat.le_of_ble_eq_true rfl) rfl m_41 d_M_init_70 (fun x78 e => ?_)
  replace h := lt_i e h; clear e
  obtain ⟨x79, S81, d82, n83, n84, dc0, ds0, e80, h, hc0, hs0⟩ := bdA_s h
  refine g_callI (av := [.inr (.inr (some a73)), .inr (.inr x78)]) (as := [.inr (.inr x78)]) (stk := [va_rf (some a73), va_rf (some o)]) [va_rf (some a73), va_rf (some o)] hE (c_Dr_init (xl X) (xG X) e80) ky_Dr_init ⟨Nat.le_of_ble_eq_true rfl, Nat.le_of_ble_eq_true rfl⟩ rfl m_54 m_55 rfl rfl d_M_init_73 rfl rfl (Nat.le_trans (ct_r (ct_r ct_n)) (Nat.le_of_ble_eq_true rfl)) (cnt_room hmc hc hc0) (cnt_room hms hs hs0) ?_
  refine gw.gen (fun c85 s86 ec es => ?_)
  replace hc := cnt_step hc hc0 ec; replace hs := cnt_step hs hs0 es; clear hc0 hs0 ec es
  obtain ⟨k87, h⟩ := kd_s h
  refine g_putRF (fty := .object "StandInMill$Draft") 11 hE kc_M k87 (Nat.le_of_ble_eq_true rfl) rfl m_56 rfl (by decide +kernel) rfl d_M_init_76 rfl rfl (fun S88 e => ?_)
  replace k87 : sK S88 o = 1 := by rw [← e]; exact k87
  replace h := lt_i e h; clear e
  refine g_aload_n (i := 0) hE d_M_init_79 rfl rfl ?_
  obtain ⟨dc0, ds0, h, hc0, hs0⟩ := ac_s h
  refine g_new hE kc_Uw kn_Uw m_57 m_58 m_59 (cnt_room hmc hc hc0) (cnt_room hms hs hs0) d_M_init_80 (fun S89 d90 a91 e1 e2 e3 => ?_)
  have k92 : sK S89 a91 = 9 := by rw [← e1, ← e3]; exact nS_new
  replace h := lt_i e1 h; replace h := lt_i e2 h; replace h := lt_i e3 h; clear e1 e2 e3
  refine gw.gen (fun c93 s94 ec es => ?_)
  replace hc := cnt_step hc hc0 ec; replace hs := cnt_step hs hs0 es; clear hc0 hs0 ec es
  refine g_dupr hE d_M_init_83 ?_
  obtain ⟨x95, S97, d98, n99, n100, dc0, ds0, e96, h, hc0, hs0⟩ := bdA_s h
  refine g_callIN (av := [.inr (.inr (some a91))]) (as := []) (stk := [va_rf (some a91), va_rf (some o)]) [va_rf (some a91), va_rf (some o)] hE (c_Uw_init (xl X) (xG X) e96) ky_Uw_init ⟨Nat.le_of_ble_eq_true rfl, Nat.le_of_ble_eq_true rfl⟩ rfl nm_0 m_60 rfl rfl d_M_init_84 rfl rfl (Nat.le_trans (ct_r (ct_r ct_n)) (Nat.le_of_ble_eq_true rfl)) (cnt_room hmc hc hc0) (cnt_room hms hs hs0) ?_
  refine gw.gen (fun c101 s102 ec es => ?_)
  replace hc := cnt_step hc hc0 ec; replace hs := cnt_step hs hs0 es; clear hc0 hs0 ec es
  obtain ⟨k103, h⟩ := kd_s h
  refine g_putRF (fty := .object "StandInMill$UnitWriter") 12 hE kc_M k103 (Nat.le_of_ble_eq_true rfl) rfl m_61 rfl (by decide +kernel) rfl d_M_init_87 rfl rfl (fun S104 e => ?_)
  replace k103 : sK S104 o = 1 := by rw [← e]; exact k103
  replace h := lt_i e h; clear e
  refine g_aload_n (i := 0) hE d_M_init_90 rfl rfl ?_
  refine g_ldc2 hE d_M_init_91 m_62 ?_
  refine g_putL 15 hE kc_M k103 (Nat.le_of_ble_eq_true rfl) rfl m_63 rfl (by decide +kernel) d_M_init_94 (fun d105 e => ?_)
  replace h := lt_i e h; clear e
  refine g_aload_n (i := 0) hE d_M_init_97 rfl rfl ?_
  refine g_iconst hE d_M_init_98 ki_3 ?_
  obtain ⟨g109, h⟩ := nl_s h
  obtain ⟨dc0, ds0, h, hc0, hs0⟩ := ac_s h
  refine g_newa (κ := 51) hE rfl (by decide) (fun _ => rfl) (fun _ _ h => h) (by decide) m_3 g109 (cnt_room hmc hc hc0) (cnt_room hms hs hs0) d_M_init_99 (fun S106 d107 a108 e1 e2 e3 => ?_)
  have k110 : sK S106 a108 = 51 := by rw [← e1, ← e3]; exact nS_new
  replace h := lt_i e1 h; replace h := lt_i e2 h; replace h := lt_i e3 h; clear e1 e2 e3
  refine gw.gen (fun c111 s112 ec es => ?_)
  replace hc := cnt_step hc hc0 ec; replace hs := cnt_step hs hs0 es; clear hc0 hs0 ec es
  obtain ⟨k113, h⟩ := kd_s h
  refine g_putRF (fty := .array (.long)) 16 hE kc_M k113 (Nat.le_of_ble_eq_true rfl) rfl m_64 rfl (by decide +kernel) rfl d_M_init_101 rfl rfl (fun S114 e => ?_)
  replace k110 : sK S114 a108 = 51 := by rw [← e]; exact k110
  replace k113 : sK S114 o = 1 := by rw [← e]; exact k113
  replace h := lt_i e h; clear e
  refine g_aload_n (i := 0) hE d_M_init_104 rfl rfl ?_
  refine g_bipush hE d_M_init_105 kb_9 ?_
  obtain ⟨g118, h⟩ := nl_s h
  obtain ⟨dc0, ds0, h, hc0, hs0⟩ := ac_s h
  refine g_newa (κ := 51) hE rfl (by decide) (fun _ => rfl) (fun _ _ h => h) (by decide) m_3 g118 (cnt_room hmc hc hc0) (cnt_room hms hs hs0) d_M_init_107 (fun S115 d116 a117 e1 e2 e3 => ?_)
  have k119 : sK S115 a117 = 51 := by rw [← e1, ← e3]; exact nS_new
  replace h := lt_i e1 h; replace h := lt_i e2 h; replace h := lt_i e3 h; clear e1 e2 e3
  refine gw.gen (fun c120 s121 ec es => ?_)
  replace hc := cnt_step hc hc0 ec; replace hs := cnt_step hs hs0 es; clear hc0 hs0 ec es
  obtain ⟨k122, h⟩ := kd_s h
  refine g_putRF (fty := .array (.long)) 17 hE kc_M k122 (Nat.le_of_ble_eq_true rfl) rfl m_65 rfl (by decide +kernel) rfl d_M_init_109 rfl rfl (fun S123 e => ?_)
  replace k119 : sK S123 a117 = 51 := by rw [← e]; exact k119
  replace k122 : sK S123 o = 1 := by rw [← e]; exact k122
  replace h := lt_i e h; clear e
  refine g_aload_n (i := 0) hE d_M_init_112 rfl rfl ?_
  refine g_getR 1 hE kc_M k122 (Nat.le_of_ble_eq_true rfl) rfl m_42 d_M_init_113 (fun x124 e => ?_)
  replace h := lt_i e h; clear e
  refine g_iconst hE d_M_init_116 ki_0 ?_
  refine g_iconst hE d_M_init_117 ki_m1 ?_
  obtain ⟨a125, rfl, h⟩ := nn_s h
  obtain ⟨k126, h⟩ := kd_s h
  obtain ⟨g127, h⟩ := gi_s h
  refine g_iast hE k126 g127 d_M_init_118 (fun d128 e => ?_)
  replace h := lt_i e h; clear e
  refine g_aload_n (i := 0) hE d_M_init_119 rfl rfl ?_
  refine g_iconst hE d_M_init_120 ki_1 ?_
  refine g_putI 2 hE kc_M k122 (Nat.le_of_ble_eq_true rfl) rfl m_66 rfl (by decide +kernel) d_M_init_121 (fun d129 e => ?_)
  replace h := lt_i e h; clear e
  refine g_aload_n (i := 0) hE d_M_init_124 rfl rfl ?_
  refine g_getR 8 hE kc_M k122 (Nat.le_of_ble_eq_true rfl) rfl m_48 d_M_init_125 (fun x130 e => ?_)
  replace h := lt_i e h; clear e
  refine g_iconst hE d_M_init_128 ki_0 ?_
  obtain ⟨dc0, ds0, h, hc0, hs0⟩ := ac_s h
  refine g_new hE kc_Om kn_Om m_47 m_67 m_68 (cnt_room hmc hc hc0) (cnt_room hms hs hs0) d_M_init_129 (fun S131 d132 a133 e1 e2 e3 => ?_)
  have k134 : sK S131 a133 = 5 := by rw [← e1, ← e3]; exact nS_new
  replace h := lt_i e1 h; replace h := lt_i e2 h; replace h := lt_i e3 h; clear e1 e2 e3
  refine gw.gen (fun c135 s136 ec es => ?_)
  replace hc := cnt_step hc hc0 ec; replace hs := cnt_step hs hs0 es; clear hc0 hs0 ec es
  refine g_dupr hE d_M_init_132 ?_
  refine g_bipush hE d_M_init_133 kb_7 ?_
  refine g_iconst hE d_M_init_135 ki_0 ?_
  refine g_bipush hE d_M_init_136 kb_26 ?_
  refine g_iconst hE d_M_init_138 ki_0 ?_
  refine g_iconst hE d_M_init_139 ki_5 ?_
  obtain ⟨x137, S139, d140, n141, n142, dc0, ds0, e138, h, hc0, hs0⟩ := bdA_s h
  refine g_callI (av := [.inr (.inr (some a133)), .inl 7, .inl 0, .inl 26, .inl 0, .inl 5]) (as := [.inl 7, .inl 0, .inl 26, .inl 0, .inl 5]) (stk := [va_rf (some a133), .int 0, va_rf x130]) [va_rf (some a133), .int 0, va_rf x130] hE (c_Om_init (xl X) (xG X) e138) ky_Om_init ⟨Nat.le_of_ble_eq_true rfl, Nat.le_of_ble_eq_true rfl⟩ rfl m_69 m_70 rfl rfl d_M_init_140 rfl rfl (Nat.le_trans (ct_r (ct_i (ct_r ct_n))) (Nat.le_of_ble_eq_true rfl)) (cnt_room hmc hc hc0) (cnt_room hms hs hs0) ?_
  refine gw.gen (fun c143 s144 ec es => ?_)
  replace hc := cnt_step hc hc0 ec; replace hs := cnt_step hs hs0 es; clear hc0 hs0 ec es
  obtain ⟨a145, rfl, h⟩ := nn_s h
  obtain ⟨k146, h⟩ := kd_s h
  obtain ⟨g147, h⟩ := gi_s h
  obtain ⟨k149, h⟩ := kd_s h
  refine g_aast hE k146 (by decide) (fun _ => rfl) rfl kc_Om k149 g147 d_M_init_143 (fun S148 e => ?_)
  replace k146 : sK S148 a145 = 61 := by rw [← e]; exact k146
  replace k149 : sK S148 a133 = 5 := by rw [← e]; exact k149
  replace h := lt_i e h; clear e
  refine g_aload_n (i := 0) hE d_M_init_144 rfl rfl ?_
  obtain ⟨k150, h⟩ := kd_s h
  refine g_getR 8 hE kc_M k150 (Nat.le_of_ble_eq_true rfl) rfl m_48 d_M_init_145 (fun x151 e => ?_)
  replace h := lt_i e h; clear e
  refine g_iconst hE d_M_init_148 ki_1 ?_
  obtain ⟨dc0, ds0, h, hc0, hs0⟩ := ac_s h
  refine g_new hE kc_Om kn_Om m_47 m_67 m_68 (cnt_room hmc hc hc0) (cnt_room hms hs hs0) d_M_init_149 (fun S152 d153 a154 e1 e2 e3 => ?_)
  have k155 : sK S152 a154 = 5 := by rw [← e1, ← e3]; exact nS_new
  replace h := lt_i e1 h; replace h := lt_i e2 h; replace h := lt_i e3 h; clear e1 e2 e3
  refine gw.gen (fun c156 s157 ec es => ?_)
  replace hc := cnt_step hc hc0 ec; replace hs := cnt_step hs hs0 es; clear hc0 hs0 ec es
  refine g_dupr hE d_M_init_152 ?_
  refine g_bipush hE d_M_init_153 kb_7 ?_
  refine g_iconst hE d_M_init_155 ki_1 ?_
  refine g_bipush hE d_M_init_156 kb_27 ?_
  refine g_bipush hE d_M_init_158 kb_7 ?_
  refine g_iconst hE d_M_init_160 ki_1 ?_
  obtain ⟨x158, S160, d161, n162, n163, dc0, ds0, e159, h, hc0, hs0⟩ := bdA_s h
  refine g_callI (av := [.inr (.inr (some a154)), .inl 7, .inl 1, .inl 27, .inl 7, .inl 1]) (as := [.inl 7, .inl 1, .inl 27, .inl 7, .inl 1]) (stk := [va_rf (some a154), .int 1, va_rf x151]) [va_rf (some a154), .int 1, va_rf x151] hE (c_Om_init (xl X) (xG X) e159) ky_Om_init ⟨Nat.le_of_ble_eq_true rfl, Nat.le_of_ble_eq_true rfl⟩ rfl m_69 m_70 rfl rfl d_M_init_161 rfl rfl (Nat.le_trans (ct_r (ct_i (ct_r ct_n))) (Nat.le_of_ble_eq_true rfl)) (cnt_room hmc hc hc0) (cnt_room hms hs hs0) ?_
  refine gw.gen (fun c164 s165 ec es => ?_)
  replace hc := cnt_step hc hc0 ec; replace hs := cnt_step hs hs0 es; clear hc0 hs0 ec es
  obtain ⟨a166, rfl, h⟩ := nn_s h
  obtain ⟨k167, h⟩ := kd_s h
  obtain ⟨g168, h⟩ := gi_s h
  obtain ⟨k170, h⟩ := kd_s h
  refine g_aast hE k167 (by decide) (fun _ => rfl) rfl kc_Om k170 g168 d_M_init_164 (fun S169 e => ?_)
  replace k167 : sK S169 a166 = 61 := by rw [← e]; exact k167
  replace k170 : sK S169 a154 = 5 := by rw [← e]; exact k170
  replace h := lt_i e h; clear e
  refine g_aload_n (i := 0) hE d_M_init_165 rfl rfl ?_
  obtain ⟨k171, h⟩ := kd_s h
  refine g_getR 8 hE kc_M k171 (Nat.le_of_ble_eq_true rfl) rfl m_48 d_M_init_166 (fun x172 e => ?_)
  replace h := lt_i e h; clear e
  refine g_iconst hE d_M_init_169 ki_2 ?_
  obtain ⟨dc0, ds0, h, hc0, hs0⟩ := ac_s h
  refine g_new hE kc_Om kn_Om m_47 m_67 m_68 (cnt_room hmc hc hc0) (cnt_room hms hs hs0) d_M_init_170 (fun S173 d174 a175 e1 e2 e3 => ?_)
  have k176 : sK S173 a175 = 5 := by rw [← e1, ← e3]; exact nS_new
  replace h := lt_i e1 h; replace h := lt_i e2 h; replace h := lt_i e3 h; clear e1 e2 e3
  refine gw.gen (fun c177 s178 ec es => ?_)
  replace hc := cnt_step hc hc0 ec; replace hs := cnt_step hs hs0 es; clear hc0 hs0 ec es
  refine g_dupr hE d_M_init_173 ?_
  refine g_bipush hE d_M_init_174 kb_7 ?_
  refine g_iconst hE d_M_init_176 ki_2 ?_
  refine g_bipush hE d_M_init_177 kb_28 ?_
  refine g_iconst hE d_M_init_179 ki_0 ?_
  refine g_bipush hE d_M_init_180 kb_7 ?_
  obtain ⟨x179, S181, d182, n183, n184, dc0, ds0, e180, h, hc0, hs0⟩ := bdA_s h
  refine g_callI (av := [.inr (.inr (some a175)), .inl 7, .inl 2, .inl 28, .inl 0, .inl 7]) (as := [.inl 7, .inl 2, .inl 28, .inl 0, .inl 7]) (stk := [va_rf (some a175), .int 2, va_rf x172]) [va_rf (some a175), .int 2, va_rf x172] hE (c_Om_init (xl X) (xG X) e180) ky_Om_init ⟨Nat.le_of_ble_eq_true rfl, Nat.le_of_ble_eq_true rfl⟩ rfl m_69 m_70 rfl rfl d_M_init_182 rfl rfl (Nat.le_trans (ct_r (ct_i (ct_r ct_n))) (Nat.le_of_ble_eq_true rfl)) (cnt_room hmc hc hc0) (cnt_room hms hs hs0) ?_
  refine gw.gen (fun c185 s186 ec es => ?_)
  replace hc := cnt_step hc hc0 ec; replace hs := cnt_step hs hs0 es; clear hc0 hs0 ec es
  obtain ⟨a187, rfl, h⟩ := nn_s h
  obtain ⟨k188, h⟩ := kd_s h
  obtain ⟨g189, h⟩ := gi_s h
  obtain ⟨k191, h⟩ := kd_s h
  refine g_aast hE k188 (by decide) (fun _ => rfl) rfl kc_Om k191 g189 d_M_init_185 (fun S190 e => ?_)
  replace k188 : sK S190 a187 = 61 := by rw [← e]; exact k188
  replace k191 : sK S190 a175 = 5 := by rw [← e]; exact k191
  replace h := lt_i e h; clear e
  refine g_aload_n (i := 0) hE d_M_init_186 rfl rfl ?_
  obtain ⟨k192, h⟩ := kd_s h
  refine g_getR 17 hE kc_M k192 (Nat.le_of_ble_eq_true rfl) rfl m_65 d_M_init_187 (fun x193 e => ?_)
  replace h := lt_i e h; clear e
  refine g_ldc2 hE d_M_init_190 m_62 ?_
  obtain ⟨x194, d196, e195, h⟩ := bdD_s h
  refine g_callS (av := [.inr (.inr x193), .inr (.inl (-1))]) (stk := []) [] hE (c_Ar_fillJ (xl X) (xG X) e195) ky_Ar_fillJ ⟨Nat.le_of_ble_eq_true rfl, Nat.le_of_ble_eq_true rfl⟩ m_71 m_72 rfl d_M_init_193 rfl rfl ct_0 (cnt_room0 hmc hc) (cnt_room0 hms hs) ?_
  refine gw.cs (c2 := c185) (s2 := s186) rfl rfl ?_
  cases h
  exact g_vret hE d_M_init_196 hc hs
theorem d_M_isWithin_0 : dc b_M_isWithin 0 (.iload_n 0) 1 1 := ⟨by decide +kernel, rfl⟩
theorem d_M_isWithin_1 : db b_M_isWithin 1 (.ifCond .lt 12) 12 13 4 := ⟨by decide +kernel, by decide, rfl⟩
theorem d_M_isWithin_4 : dc b_M_isWithin 4 (.iload_n 0) 1 5 := ⟨by decide +kernel, rfl⟩
theorem d_M_isWithin_5 : dc b_M_isWithin 5 (.iload_n 1) 1 6 := ⟨by decide +kernel, rfl⟩
theorem d_M_isWithin_6 : db b_M_isWithin 6 (.if_icmp .ge 7) 7 13 9 := ⟨by decide +kernel, by decide, rfl⟩
theorem d_M_isWithin_9 : dc b_M_isWithin 9 (.iconst 1) 1 10 := ⟨by decide +kernel, rfl⟩
theorem d_M_isWithin_10 : db b_M_isWithin 10 (.goto 4) 4 14 13 := ⟨by decide +kernel, by decide, rfl⟩
theorem d_M_isWithin_13 : dc b_M_isWithin 13 (.iconst 0) 1 14 := ⟨by decide +kernel, rfl⟩
theorem d_M_isWithin_14 : dc b_M_isWithin 14 (.ireturn) 1 15 := ⟨by decide +kernel, rfl⟩
set_option maxRecDepth 100000 in
def f_M_isWithin (S : gS) (d : gD) (v0 : Int32) (v1 : Int32) : Option (Int32) :=
  if v0 < 0 then (
    some 0)
  else (
    if v1 ≤ v0 then (
      some 0)
    else (
      some 1))
set_option maxRecDepth 100000 in
set_option maxHeartbeats 4000000 in
theorem c_M_isWithin (l : Launch) (G : gG) {S : gS} {d : gD} {v0 : Int32} {v1 : Int32} {r : Int32} (h : f_M_isWithin S d v0 v1 = some r) : GM l G y_M_isWithin b_M_isWithin 2 (some (.boolean)) 0 0 0 0 [.inl v0, .inl v1] S d (some (.int r)) S d := by
  refine GM.of (by decide) (Nat.le_of_ble_eq_true rfl) ?_
  intro X hl0 hG0 hR0 hE0
  have hE : gE X b_M_isWithin 2 "StandInMill" (some (.boolean)) "isWithin" 0 0 := hE0
  unfold f_M_isWithin at h
  refine gw.less (lv' := [some (.int v0), some (.int v1)]) (And.intro rfl (And.intro rfl trivial)) ?_
  refine g_iload_n (i := 0) hE d_M_isWithin_0 rfl rfl ?_
  refine g_if_lt hE d_M_isWithin_1 (fun c2 => ?_) (fun c2 => ?_)
  · replace h := if_t c2 h
    refine g_iconst hE d_M_isWithin_13 ki_0 ?_
    cases h
    exact g_zret hE (Or.inl rfl) d_M_isWithin_14 rfl rfl
  · replace h := if_f c2 h
    refine g_iload_n (i := 0) hE d_M_isWithin_4 rfl rfl ?_
    refine g_iload_n (i := 1) hE d_M_isWithin_5 rfl rfl ?_
    refine g_icmp_ge hE d_M_isWithin_6 (fun c1 => ?_) (fun c1 => ?_)
    · replace h := if_t c1 h
      refine g_iconst hE d_M_isWithin_13 ki_0 ?_
      cases h
      exact g_zret hE (Or.inl rfl) d_M_isWithin_14 rfl rfl
    · replace h := if_f c1 h
      refine g_iconst hE d_M_isWithin_9 ki_1 ?_
      refine g_goto hE d_M_isWithin_10 ?_
      cases h
      exact g_zret hE (Or.inr rfl) d_M_isWithin_14 rfl rfl
theorem d_M_isLoader_0 : dc b_M_isLoader 0 (.iload_n 1) 1 1 := ⟨by decide +kernel, rfl⟩
theorem d_M_isLoader_1 : dc b_M_isLoader 1 (.aload_n 0) 1 2 := ⟨by decide +kernel, rfl⟩
theorem d_M_isLoader_2 : dc b_M_isLoader 2 (.getfield 73) 3 5 := ⟨by decide +kernel, rfl⟩
theorem d_M_isLoader_5 : dc b_M_isLoader 5 (.invokestatic 94) 3 8 := ⟨by decide +kernel, rfl⟩
theorem d_M_isLoader_8 : dc b_M_isLoader 8 (.ireturn) 1 9 := ⟨by decide +kernel, rfl⟩
set_option maxRecDepth 100000 in
def f_M_isLoader (S : gS) (d : gD) (o : Nat) (v1 : Int32) : Option (Int32) :=
  kd S o 1 <|
  lt_ (dI d o 2) fun x2 =>
  bd (f_M_isWithin S d v1 x2) fun x3 =>
  nb x3 <|
  some x3
set_option maxRecDepth 100000 in
set_option maxHeartbeats 4000000 in
theorem c_M_isLoader (l : Launch) (G : gG) {S : gS} {d : gD} {o : Nat} {v1 : Int32} {r : Int32} (h : f_M_isLoader S d o v1 = some r) : GM l G y_M_isLoader b_M_isLoader 2 (some (.boolean)) 1 21 0 0 [.inr (.inr (some o)), .inl v1] S d (some (.int r)) S d := by
  refine GM.of (by decide) (Nat.le_of_ble_eq_true rfl) ?_
  intro X hl0 hG0 hR0 hE0
  have hE : gE X b_M_isLoader 2 "StandInMill" (some (.boolean)) "isLoader" 1 21 := hE0
  unfold f_M_isLoader at h
  refine gw.less (lv' := [some (va_rf (some o)), some (.int v1)]) (And.intro rfl (And.intro rfl trivial)) ?_
  refine g_iload_n (i := 1) hE d_M_isLoader_0 rfl rfl ?_
  refine g_aload_n (i := 0) hE d_M_isLoader_1 rfl rfl ?_
  obtain ⟨k1, h⟩ := kd_s h
  refine g_getI 2 hE kc_M k1 (Nat.le_of_ble_eq_true rfl) rfl m_66 d_M_isLoader_2 (fun x2 e => ?_)
  replace h := lt_i e h; clear e
  obtain ⟨x3, e4, h⟩ := bd_s h
  refine g_callS (av := [.inl v1, .inl x2]) (stk := [.int x3]) [] hE (c_M_isWithin (xl X) (xG X) e4) ky_M_isWithin ⟨Nat.le_of_ble_eq_true rfl, Nat.le_of_ble_eq_true rfl⟩ m_73 m_74 rfl d_M_isLoader_5 rfl rfl ct_0 (Nat.zero_le _) (Nat.zero_le _) ?_
  refine gw.cs (c2 := 0) (s2 := 0) rfl rfl ?_
  obtain ⟨g5, h⟩ := nb_s h
  cases h
  exact g_zret hE g5 d_M_isLoader_8 rfl rfl
theorem d_M_loader_0 : dc b_M_loader 0 (.aload_n 0) 1 1 := ⟨by decide +kernel, rfl⟩
theorem d_M_loader_1 : dc b_M_loader 1 (.iload_n 1) 1 2 := ⟨by decide +kernel, rfl⟩
theorem d_M_loader_2 : dc b_M_loader 2 (.invokevirtual 86) 3 5 := ⟨by decide +kernel, rfl⟩
theorem d_M_loader_5 : db b_M_loader 5 (.ifCond .eq 11) 11 16 8 := ⟨by decide +kernel, by decide, rfl⟩
theorem d_M_loader_8 : dc b_M_loader 8 (.aload_n 0) 1 9 := ⟨by decide +kernel, rfl⟩
theorem d_M_loader_9 : dc b_M_loader 9 (.getfield 73) 3 12 := ⟨by decide +kernel, rfl⟩
theorem d_M_loader_12 : dc b_M_loader 12 (.iconst 4) 1 13 := ⟨by decide +kernel, rfl⟩
theorem d_M_loader_13 : db b_M_loader 13 (.if_icmp .ne 5) 5 18 16 := ⟨by decide +kernel, by decide, rfl⟩
theorem d_M_loader_16 : dc b_M_loader 16 (.iconst (-1)) 1 17 := ⟨by decide +kernel, rfl⟩
theorem d_M_loader_17 : dc b_M_loader 17 (.ireturn) 1 18 := ⟨by decide +kernel, rfl⟩
theorem d_M_loader_18 : dc b_M_loader 18 (.aload_n 0) 1 19 := ⟨by decide +kernel, rfl⟩
theorem d_M_loader_19 : dc b_M_loader 19 (.getfield 16) 3 22 := ⟨by decide +kernel, rfl⟩
theorem d_M_loader_22 : dc b_M_loader 22 (.aload_n 0) 1 23 := ⟨by decide +kernel, rfl⟩
theorem d_M_loader_23 : dc b_M_loader 23 (.getfield 73) 3 26 := ⟨by decide +kernel, rfl⟩
theorem d_M_loader_26 : dc b_M_loader 26 (.iload_n 1) 1 27 := ⟨by decide +kernel, rfl⟩
theorem d_M_loader_27 : dc b_M_loader 27 (.iastore) 1 28 := ⟨by decide +kernel, rfl⟩
theorem d_M_loader_28 : dc b_M_loader 28 (.aload_n 0) 1 29 := ⟨by decide +kernel, rfl⟩
theorem d_M_loader_29 : dc b_M_loader 29 (.dup) 1 30 := ⟨by decide +kernel, rfl⟩
theorem d_M_loader_30 : dc b_M_loader 30 (.getfield 73) 3 33 := ⟨by decide +kernel, rfl⟩
theorem d_M_loader_33 : dc b_M_loader 33 (.iconst 1) 1 34 := ⟨by decide +kernel, rfl⟩
theorem d_M_loader_34 : dc b_M_loader 34 (.iadd) 1 35 := ⟨by decide +kernel, rfl⟩
theorem d_M_loader_35 : dc b_M_loader 35 (.putfield 73) 3 38 := ⟨by decide +kernel, rfl⟩
theorem d_M_loader_38 : dc b_M_loader 38 (.aload_n 0) 1 39 := ⟨by decide +kernel, rfl⟩
theorem d_M_loader_39 : dc b_M_loader 39 (.getfield 73) 3 42 := ⟨by decide +kernel, rfl⟩
theorem d_M_loader_42 : dc b_M_loader 42 (.iconst 1) 1 43 := ⟨by decide +kernel, rfl⟩
theorem d_M_loader_43 : dc b_M_loader 43 (.isub) 1 44 := ⟨by decide +kernel, rfl⟩
theorem d_M_loader_44 : dc b_M_loader 44 (.ireturn) 1 45 := ⟨by decide +kernel, rfl⟩
set_option maxRecDepth 100000 in
def f_M_loader (S : gS) (d : gD) (o : Nat) (v1 : Int32) : Option (Int32 × gD) :=
  kd S o 1 <|
  bd (f_M_isLoader S d o v1) fun x2 =>
  if x2 = 0 then (
    some ((-1), d))
  else (
    lt_ (dI d o 2) fun x4 =>
    if x4 = 4 then (
      some ((-1), d))
    else (
      lt_ (sP S o 1) fun x5 =>
      lt_ (dI d o 2) fun x6 =>
      nn x5 fun a7 =>
      kd S a7 50 <|
      gi x6 (sN S a7) <|
      lt_ (wI d a7 x6.toNatClampNeg v1) fun d10 =>
      lt_ (dI d10 o 2) fun x11 =>
      lt_ (wI d10 o 2 (x11 + 1)) fun d12 =>
      lt_ (dI d12 o 2) fun x13 =>
      some (x13 - 1, d12)))
set_option maxRecDepth 100000 in
set_option maxHeartbeats 4000000 in
theorem c_M_loader (l : Launch) (G : gG) {S : gS} {d : gD} {o : Nat} {v1 : Int32} {r : Int32} {d' : gD} (h : f_M_loader S d o v1 = some (r, d')) : GM l G y_M_loader b_M_loader 2 (some (.int)) 2 42 0 0 [.inr (.inr (some o)), .inl v1] S d (some (.int r)) S d' := by
  refine GM.of (by decide) (Nat.le_of_ble_eq_true rfl) ?_
  intro X hl0 hG0 hR0 hE0
  have hE : gE X b_M_loader 2 "StandInMill" (some (.int)) "loader" 2 42 := hE0
  unfold f_M_loader at h
  refine gw.less (lv' := [some (va_rf (some o)), some (.int v1)]) (And.intro rfl (And.intro rfl trivial)) ?_
  refine g_aload_n (i := 0) hE d_M_loader_0 rfl rfl ?_
  refine g_iload_n (i := 1) hE d_M_loader_1 rfl rfl ?_
  obtain ⟨k1, h⟩ := kd_s h
  obtain ⟨x2, e3, h⟩ := bd_s h
  refine g_callV (av := [.inr (.inr (some o)), .inl v1]) (as := [.inl v1]) (stk := [.int x2]) [] hE (c_M_isLoader (xl X) (xG X) e3) ky_M_isLoader ⟨Nat.le_of_ble_eq_true rfl, Nat.le_of_ble_eq_true rfl⟩ rfl kc_M k1 m_75 m_76 m_77 rfl d_M_loader_2 rfl rfl ct_0 (Nat.zero_le _) (Nat.zero_le _) ?_
  refine gw.cs (c2 := 0) (s2 := 0) rfl rfl ?_
  refine g_if_eq hE d_M_loader_5 (fun c15 => ?_) (fun c15 => ?_)
  · replace h := if_t c15 h
    refine g_iconst hE d_M_loader_16 ki_m1 ?_
    cases h
    exact g_iret hE d_M_loader_17 rfl rfl
  · replace h := if_f c15 h
    refine g_aload_n (i := 0) hE d_M_loader_8 rfl rfl ?_
    refine g_getI 2 hE kc_M k1 (Nat.le_of_ble_eq_true rfl) rfl m_66 d_M_loader_9 (fun x4 e => ?_)
    replace h := lt_i e h; clear e
    refine g_iconst hE d_M_loader_12 ki_4 ?_
    refine g_icmp_ne hE d_M_loader_13 (fun c14 => ?_) (fun c14 => ?_)
    · replace h := if_f c14 h
      refine g_aload_n (i := 0) hE d_M_loader_18 rfl rfl ?_
      refine g_getR 1 hE kc_M k1 (Nat.le_of_ble_eq_true rfl) rfl m_42 d_M_loader_19 (fun x5 e => ?_)
      replace h := lt_i e h; clear e
      refine g_aload_n (i := 0) hE d_M_loader_22 rfl rfl ?_
      refine g_getI 2 hE kc_M k1 (Nat.le_of_ble_eq_true rfl) rfl m_66 d_M_loader_23 (fun x6 e => ?_)
      replace h := lt_i e h; clear e
      refine g_iload_n (i := 1) hE d_M_loader_26 rfl rfl ?_
      obtain ⟨a7, rfl, h⟩ := nn_s h
      obtain ⟨k8, h⟩ := kd_s h
      obtain ⟨g9, h⟩ := gi_s h
      refine g_iast hE k8 g9 d_M_loader_27 (fun d10 e => ?_)
      replace h := lt_i e h; clear e
      refine g_aload_n (i := 0) hE d_M_loader_28 rfl rfl ?_
      refine g_dupr hE d_M_loader_29 ?_
      refine g_getI 2 hE kc_M k1 (Nat.le_of_ble_eq_true rfl) rfl m_66 d_M_loader_30 (fun x11 e => ?_)
      replace h := lt_i e h; clear e
      refine g_iconst hE d_M_loader_33 ki_1 ?_
      refine g_iadd hE d_M_loader_34 ?_
      refine g_putI 2 hE kc_M k1 (Nat.le_of_ble_eq_true rfl) rfl m_66 rfl (by decide +kernel) d_M_loader_35 (fun d12 e => ?_)
      replace h := lt_i e h; clear e
      refine g_aload_n (i := 0) hE d_M_loader_38 rfl rfl ?_
      refine g_getI 2 hE kc_M k1 (Nat.le_of_ble_eq_true rfl) rfl m_66 d_M_loader_39 (fun x13 e => ?_)
      replace h := lt_i e h; clear e
      refine g_iconst hE d_M_loader_42 ki_1 ?_
      refine g_isub hE d_M_loader_43 ?_
      cases h
      exact g_iret hE d_M_loader_44 rfl rfl
    · replace h := if_t c14 h
      refine g_iconst hE d_M_loader_16 ki_m1 ?_
      cases h
      exact g_iret hE d_M_loader_17 rfl rfl
theorem d_Ty_isClass_0 : dc b_Ty_isClass 0 (.iload_n 1) 1 1 := ⟨by decide +kernel, rfl⟩
theorem d_Ty_isClass_1 : dc b_Ty_isClass 1 (.bipush 8) 2 3 := ⟨by decide +kernel, rfl⟩
theorem d_Ty_isClass_3 : db b_Ty_isClass 3 (.if_icmp .lt 15) 15 18 6 := ⟨by decide +kernel, by decide, rfl⟩
theorem d_Ty_isClass_6 : dc b_Ty_isClass 6 (.iload_n 1) 1 7 := ⟨by decide +kernel, rfl⟩
theorem d_Ty_isClass_7 : dc b_Ty_isClass 7 (.aload_n 0) 1 8 := ⟨by decide +kernel, rfl⟩
theorem d_Ty_isClass_8 : dc b_Ty_isClass 8 (.getfield 15) 3 11 := ⟨by decide +kernel, rfl⟩
theorem d_Ty_isClass_11 : db b_Ty_isClass 11 (.if_icmp .ge 7) 7 18 14 := ⟨by decide +kernel, by decide, rfl⟩
theorem d_Ty_isClass_14 : dc b_Ty_isClass 14 (.iconst 1) 1 15 := ⟨by decide +kernel, rfl⟩
theorem d_Ty_isClass_15 : db b_Ty_isClass 15 (.goto 4) 4 19 18 := ⟨by decide +kernel, by decide, rfl⟩
theorem d_Ty_isClass_18 : dc b_Ty_isClass 18 (.iconst 0) 1 19 := ⟨by decide +kernel, rfl⟩
theorem d_Ty_isClass_19 : dc b_Ty_isClass 19 (.ireturn) 1 20 := ⟨by decide +kernel, rfl⟩
set_option maxRecDepth 100000 in
def f_Ty_isClass (S : gS) (d : gD) (o : Nat) (v1 : Int32) : Option (Int32) :=
  if v1 < 8 then (
    some 0)
  else (
    kd S o 8 <|
    lt_ (dI d o 1) fun x2 =>
    if x2 ≤ v1 then (
      some 0)
    else (
      some 1))
set_option maxRecDepth 100000 in
set_option maxHeartbeats 4000000 in
theorem c_Ty_isClass (l : Launch) (G : gG) {S : gS} {d : gD} {o : Nat} {v1 : Int32} {r : Int32} (h : f_Ty_isClass S d o v1 = some r) : GM l G y_Ty_isClass b_Ty_isClass 2 (some (.boolean)) 0 0 0 0 [.inr (.inr (some o)), .inl v1] S d (some (.int r)) S d := by
  refine GM.of (by decide) (Nat.le_of_ble_eq_true rfl) ?_
  intro X hl0 hG0 hR0 hE0
  have hE : gE X b_Ty_isClass 2 "StandInMill$Types" (some (.boolean)) "isClass" 0 0 := hE0
  unfold f_Ty_isClass at h
  refine gw.less (lv' := [some (va_rf (some o)), some (.int v1)]) (And.intro rfl (And.intro rfl trivial)) ?_
  refine g_iload_n (i := 1) hE d_Ty_isClass_0 rfl rfl ?_
  refine g_bipush hE d_Ty_isClass_1 kb_8 ?_
  refine g_icmp_lt hE d_Ty_isClass_3 (fun c4 => ?_) (fun c4 => ?_)
  · replace h := if_t c4 h
    refine g_iconst hE d_Ty_isClass_18 ki_0 ?_
    cases h
    exact g_zret hE (Or.inl rfl) d_Ty_isClass_19 rfl rfl
  · replace h := if_f c4 h
    refine g_iload_n (i := 1) hE d_Ty_isClass_6 rfl rfl ?_
    refine g_aload_n (i := 0) hE d_Ty_isClass_7 rfl rfl ?_
    obtain ⟨k1, h⟩ := kd_s h
    refine g_getI 1 hE kc_Ty k1 (Nat.le_of_ble_eq_true rfl) rfl m_5 d_Ty_isClass_8 (fun x2 e => ?_)
    replace h := lt_i e h; clear e
    refine g_icmp_ge hE d_Ty_isClass_11 (fun c3 => ?_) (fun c3 => ?_)
    · replace h := if_t c3 h
      refine g_iconst hE d_Ty_isClass_18 ki_0 ?_
      cases h
      exact g_zret hE (Or.inl rfl) d_Ty_isClass_19 rfl rfl
    · replace h := if_f c3 h
      refine g_iconst hE d_Ty_isClass_14 ki_1 ?_
      refine g_goto hE d_Ty_isClass_15 ?_
      cases h
      exact g_zret hE (Or.inr rfl) d_Ty_isClass_19 rfl rfl
theorem d_Ty_addClass_0 : dc b_Ty_addClass 0 (.iload_n 1) 1 1 := ⟨by decide +kernel, rfl⟩
theorem d_Ty_addClass_1 : dc b_Ty_addClass 1 (.bipush 7) 2 3 := ⟨by decide +kernel, rfl⟩
theorem d_Ty_addClass_3 : db b_Ty_addClass 3 (.if_icmp .eq 11) 11 14 6 := ⟨by decide +kernel, by decide, rfl⟩
theorem d_Ty_addClass_6 : dc b_Ty_addClass 6 (.aload_n 0) 1 7 := ⟨by decide +kernel, rfl⟩
theorem d_Ty_addClass_7 : dc b_Ty_addClass 7 (.iload_n 1) 1 8 := ⟨by decide +kernel, rfl⟩
theorem d_Ty_addClass_8 : dc b_Ty_addClass 8 (.invokevirtual 23) 3 11 := ⟨by decide +kernel, rfl⟩
theorem d_Ty_addClass_11 : db b_Ty_addClass 11 (.ifCond .eq 12) 12 23 14 := ⟨by decide +kernel, by decide, rfl⟩
theorem d_Ty_addClass_14 : dc b_Ty_addClass 14 (.aload_n 0) 1 15 := ⟨by decide +kernel, rfl⟩
theorem d_Ty_addClass_15 : dc b_Ty_addClass 15 (.getfield 15) 3 18 := ⟨by decide +kernel, rfl⟩
theorem d_Ty_addClass_18 : dc b_Ty_addClass 18 (.bipush 23) 2 20 := ⟨by decide +kernel, rfl⟩
theorem d_Ty_addClass_20 : db b_Ty_addClass 20 (.if_icmp .le 5) 5 25 23 := ⟨by decide +kernel, by decide, rfl⟩
theorem d_Ty_addClass_23 : dc b_Ty_addClass 23 (.iconst (-1)) 1 24 := ⟨by decide +kernel, rfl⟩
theorem d_Ty_addClass_24 : dc b_Ty_addClass 24 (.ireturn) 1 25 := ⟨by decide +kernel, rfl⟩
theorem d_Ty_addClass_25 : dc b_Ty_addClass 25 (.aload_n 0) 1 26 := ⟨by decide +kernel, rfl⟩
theorem d_Ty_addClass_26 : dc b_Ty_addClass 26 (.getfield 11) 3 29 := ⟨by decide +kernel, rfl⟩
theorem d_Ty_addClass_29 : dc b_Ty_addClass 29 (.aload_n 0) 1 30 := ⟨by decide +kernel, rfl⟩
theorem d_Ty_addClass_30 : dc b_Ty_addClass 30 (.getfield 15) 3 33 := ⟨by decide +kernel, rfl⟩
theorem d_Ty_addClass_33 : dc b_Ty_addClass 33 (.aload_n 0) 1 34 := ⟨by decide +kernel, rfl⟩
theorem d_Ty_addClass_34 : dc b_Ty_addClass 34 (.getfield 15) 3 37 := ⟨by decide +kernel, rfl⟩
theorem d_Ty_addClass_37 : dc b_Ty_addClass 37 (.invokestatic 19) 3 40 := ⟨by decide +kernel, rfl⟩
theorem d_Ty_addClass_40 : dc b_Ty_addClass 40 (.aload_n 0) 1 41 := ⟨by decide +kernel, rfl⟩
theorem d_Ty_addClass_41 : dc b_Ty_addClass 41 (.getfield 11) 3 44 := ⟨by decide +kernel, rfl⟩
theorem d_Ty_addClass_44 : dc b_Ty_addClass 44 (.iload_n 1) 1 45 := ⟨by decide +kernel, rfl⟩
theorem d_Ty_addClass_45 : dc b_Ty_addClass 45 (.laload) 1 46 := ⟨by decide +kernel, rfl⟩
theorem d_Ty_addClass_46 : dc b_Ty_addClass 46 (.lor) 1 47 := ⟨by decide +kernel, rfl⟩
theorem d_Ty_addClass_47 : dc b_Ty_addClass 47 (.lastore) 1 48 := ⟨by decide +kernel, rfl⟩
theorem d_Ty_addClass_48 : dc b_Ty_addClass 48 (.aload_n 0) 1 49 := ⟨by decide +kernel, rfl⟩
theorem d_Ty_addClass_49 : dc b_Ty_addClass 49 (.dup) 1 50 := ⟨by decide +kernel, rfl⟩
theorem d_Ty_addClass_50 : dc b_Ty_addClass 50 (.getfield 15) 3 53 := ⟨by decide +kernel, rfl⟩
theorem d_Ty_addClass_53 : dc b_Ty_addClass 53 (.iconst 1) 1 54 := ⟨by decide +kernel, rfl⟩
theorem d_Ty_addClass_54 : dc b_Ty_addClass 54 (.iadd) 1 55 := ⟨by decide +kernel, rfl⟩
theorem d_Ty_addClass_55 : dc b_Ty_addClass 55 (.putfield 15) 3 58 := ⟨by decide +kernel, rfl⟩
theorem d_Ty_addClass_58 : dc b_Ty_addClass 58 (.aload_n 0) 1 59 := ⟨by decide +kernel, rfl⟩
theorem d_Ty_addClass_59 : dc b_Ty_addClass 59 (.getfield 15) 3 62 := ⟨by decide +kernel, rfl⟩
theorem d_Ty_addClass_62 : dc b_Ty_addClass 62 (.iconst 1) 1 63 := ⟨by decide +kernel, rfl⟩
theorem d_Ty_addClass_63 : dc b_Ty_addClass 63 (.isub) 1 64 := ⟨by decide +kernel, rfl⟩
theorem d_Ty_addClass_64 : dc b_Ty_addClass 64 (.ireturn) 1 65 := ⟨by decide +kernel, rfl⟩
def f_Ty_addClass_J14 (S : gS) (o : Nat) (d : gD) (v1 : Int32) : Option (Int32 × gD) :=
  kd S o 8 <|
  lt_ (dI d o 1) fun x2 =>
  if x2 ≤ 23 then (
    lt_ (sP S o 0) fun x3 =>
    lt_ (dI d o 1) fun x4 =>
    lt_ (dI d o 1) fun x5 =>
    bd (f_Ty_bit S d x5) fun x6 =>
    lt_ (sP S o 0) fun x8 =>
    nn x8 fun a9 =>
    kd S a9 51 <|
    gi v1 (sN S a9) <|
    lt_ (dL d a9 v1.toNatClampNeg) fun x12 =>
    nn x3 fun a13 =>
    kd S a13 51 <|
    gi x4 (sN S a13) <|
    lt_ (wL d a13 x4.toNatClampNeg (x6 ||| x12)) fun d16 =>
    lt_ (dI d16 o 1) fun x17 =>
    lt_ (wI d16 o 1 (x17 + 1)) fun d18 =>
    lt_ (dI d18 o 1) fun x19 =>
    some (x19 - 1, d18))
  else (
    some ((-1), d))
set_option maxRecDepth 100000 in
set_option maxHeartbeats 4000000 in
theorem w_Ty_addClass_J14 {X : GX} (hE : gE X b_Ty_addClass 2 "StandInMill$Types" (some (.int)) "addClass" 1 21) {S : gS} {o : Nat} {r : Int32} {d' : gD} :
    ∀ (d : gD) (v1 : Int32), f_Ty_addClass_J14 S o d v1 = some (r, d') → gw X 0 0 (gQ X (some (.int r)) S d' 0 0) S d 14 [some (va_rf (some o)), some (.int v1)] [] := by
  intro d v1 h
  unfold f_Ty_addClass_J14 at h
  refine g_aload_n (i := 0) hE d_Ty_addClass_14 rfl rfl ?_
  obtain ⟨k1, h⟩ := kd_s h
  refine g_getI 1 hE kc_Ty k1 (Nat.le_of_ble_eq_true rfl) rfl m_5 d_Ty_addClass_15 (fun x2 e => ?_)
  replace h := lt_i e h; clear e
  refine g_bipush hE d_Ty_addClass_18 kb_23 ?_
  refine g_icmp_le hE d_Ty_addClass_20 (fun c20 => ?_) (fun c20 => ?_)
  · replace h := if_t c20 h
    refine g_aload_n (i := 0) hE d_Ty_addClass_25 rfl rfl ?_
    refine g_getR 0 hE kc_Ty k1 (Nat.le_of_ble_eq_true rfl) rfl m_4 d_Ty_addClass_26 (fun x3 e => ?_)
    replace h := lt_i e h; clear e
    refine g_aload_n (i := 0) hE d_Ty_addClass_29 rfl rfl ?_
    refine g_getI 1 hE kc_Ty k1 (Nat.le_of_ble_eq_true rfl) rfl m_5 d_Ty_addClass_30 (fun x4 e => ?_)
    replace h := lt_i e h; clear e
    refine g_aload_n (i := 0) hE d_Ty_addClass_33 rfl rfl ?_
    refine g_getI 1 hE kc_Ty k1 (Nat.le_of_ble_eq_true rfl) rfl m_5 d_Ty_addClass_34 (fun x5 e => ?_)
    replace h := lt_i e h; clear e
    obtain ⟨x6, e7, h⟩ := bd_s h
    refine g_callS (av := [.inl x5]) (stk := [.long x6, .int x4, va_rf x3]) [.int x4, va_rf x3] hE (c_Ty_bit (xl X) (xG X) e7) ky_Ty_bit ⟨Nat.le_of_ble_eq_true rfl, Nat.le_of_ble_eq_true rfl⟩ m_6 m_7 rfl d_Ty_addClass_37 rfl rfl (Nat.le_trans (ct_i (ct_r ct_n)) (Nat.le_of_ble_eq_true rfl)) (Nat.zero_le _) (Nat.zero_le _) ?_
    refine gw.cs (c2 := 0) (s2 := 0) rfl rfl ?_
    refine g_aload_n (i := 0) hE d_Ty_addClass_40 rfl rfl ?_
    refine g_getR 0 hE kc_Ty k1 (Nat.le_of_ble_eq_true rfl) rfl m_4 d_Ty_addClass_41 (fun x8 e => ?_)
    replace h := lt_i e h; clear e
    refine g_iload_n (i := 1) hE d_Ty_addClass_44 rfl rfl ?_
    obtain ⟨a9, rfl, h⟩ := nn_s h
    obtain ⟨k10, h⟩ := kd_s h
    obtain ⟨g11, h⟩ := gi_s h
    refine g_lald hE k10 g11 d_Ty_addClass_45 (fun x12 e => ?_)
    replace h := lt_i e h; clear e
    refine g_lor hE d_Ty_addClass_46 ?_
    obtain ⟨a13, rfl, h⟩ := nn_s h
    obtain ⟨k14, h⟩ := kd_s h
    obtain ⟨g15, h⟩ := gi_s h
    refine g_last hE k14 g15 d_Ty_addClass_47 (fun d16 e => ?_)
    replace h := lt_i e h; clear e
    refine g_aload_n (i := 0) hE d_Ty_addClass_48 rfl rfl ?_
    refine g_dupr hE d_Ty_addClass_49 ?_
    refine g_getI 1 hE kc_Ty k1 (Nat.le_of_ble_eq_true rfl) rfl m_5 d_Ty_addClass_50 (fun x17 e => ?_)
    replace h := lt_i e h; clear e
    refine g_iconst hE d_Ty_addClass_53 ki_1 ?_
    refine g_iadd hE d_Ty_addClass_54 ?_
    refine g_putI 1 hE kc_Ty k1 (Nat.le_of_ble_eq_true rfl) rfl m_5 rfl (by decide +kernel) d_Ty_addClass_55 (fun d18 e => ?_)
    replace h := lt_i e h; clear e
    refine g_aload_n (i := 0) hE d_Ty_addClass_58 rfl rfl ?_
    refine g_getI 1 hE kc_Ty k1 (Nat.le_of_ble_eq_true rfl) rfl m_5 d_Ty_addClass_59 (fun x19 e => ?_)
    replace h := lt_i e h; clear e
    refine g_iconst hE d_Ty_addClass_62 ki_1 ?_
    refine g_isub hE d_Ty_addClass_63 ?_
    cases h
    exact g_iret hE d_Ty_addClass_64 rfl rfl
  · replace h := if_f c20 h
    refine g_iconst hE d_Ty_addClass_23 ki_m1 ?_
    cases h
    exact g_iret hE d_Ty_addClass_24 rfl rfl
set_option maxRecDepth 100000 in
def f_Ty_addClass (S : gS) (d : gD) (o : Nat) (v1 : Int32) : Option (Int32 × gD) :=
  if v1 = 7 then (
    f_Ty_addClass_J14 S o d v1)
  else (
    kd S o 8 <|
    bd (f_Ty_isClass S d o v1) fun x2 =>
    if x2 = 0 then (
      some ((-1), d))
    else (
      f_Ty_addClass_J14 S o d v1))
set_option maxRecDepth 100000 in
set_option maxHeartbeats 4000000 in
theorem c_Ty_addClass (l : Launch) (G : gG) {S : gS} {d : gD} {o : Nat} {v1 : Int32} {r : Int32} {d' : gD} (h : f_Ty_addClass S d o v1 = some (r, d')) : GM l G y_Ty_addClass b_Ty_addClass 2 (some (.int)) 1 21 0 0 [.inr (.inr (some o)), .inl v1] S d (some (.int r)) S d' := by
  refine GM.of (by decide) (Nat.le_of_ble_eq_true rfl) ?_
  intro X hl0 hG0 hR0 hE0
  have hE : gE X b_Ty_addClass 2 "StandInMill$Types" (some (.int)) "addClass" 1 21 := hE0
  unfold f_Ty_addClass at h
  refine gw.less (lv' := [some (va_rf (some o)), some (.int v1)]) (And.intro rfl (And.intro rfl trivial)) ?_
  refine g_iload_n (i := 1) hE d_Ty_addClass_0 rfl rfl ?_
  refine g_bipush hE d_Ty_addClass_1 kb_7 ?_
  refine g_icmp_eq hE d_Ty_addClass_3 (fun c5 => ?_) (fun c5 => ?_)
  · replace h := if_t c5 h
    exact gw.less (lv' := [some (va_rf (some o)), some (.int v1)]) (And.intro rfl (And.intro rfl trivial)) (w_Ty_addClass_J14 hE d v1 h)
  · replace h := if_f c5 h
    refine g_aload_n (i := 0) hE d_Ty_addClass_6 rfl rfl ?_
    refine g_iload_n (i := 1) hE d_Ty_addClass_7 rfl rfl ?_
    obtain ⟨k1, h⟩ := kd_s h
    obtain ⟨x2, e3, h⟩ := bd_s h
    refine g_callV (av := [.inr (.inr (some o)), .inl v1]) (as := [.inl v1]) (stk := [.int x2]) [] hE (c_Ty_isClass (xl X) (xG X) e3) ky_Ty_isClass ⟨Nat.le_of_ble_eq_true rfl, Nat.le_of_ble_eq_true rfl⟩ rfl kc_Ty k1 m_78 m_79 m_80 rfl d_Ty_addClass_8 rfl rfl ct_0 (Nat.zero_le _) (Nat.zero_le _) ?_
    refine gw.cs (c2 := 0) (s2 := 0) rfl rfl ?_
    refine g_if_eq hE d_Ty_addClass_11 (fun c4 => ?_) (fun c4 => ?_)
    · replace h := if_t c4 h
      refine g_iconst hE d_Ty_addClass_23 ki_m1 ?_
      cases h
      exact g_iret hE d_Ty_addClass_24 rfl rfl
    · replace h := if_f c4 h
      exact gw.less (lv' := [some (va_rf (some o)), some (.int v1)]) (And.intro rfl (And.intro rfl trivial)) (w_Ty_addClass_J14 hE d v1 h)
theorem d_M_type_0 : dc b_M_type 0 (.aload_n 0) 1 1 := ⟨by decide +kernel, rfl⟩
theorem d_M_type_1 : dc b_M_type 1 (.getfield 10) 3 4 := ⟨by decide +kernel, rfl⟩
theorem d_M_type_4 : dc b_M_type 4 (.iload_n 1) 1 5 := ⟨by decide +kernel, rfl⟩
theorem d_M_type_5 : dc b_M_type 5 (.invokevirtual 90) 3 8 := ⟨by decide +kernel, rfl⟩
theorem d_M_type_8 : dc b_M_type 8 (.ireturn) 1 9 := ⟨by decide +kernel, rfl⟩
set_option maxRecDepth 100000 in
def f_M_type (S : gS) (d : gD) (o : Nat) (v1 : Int32) : Option (Int32 × gD) :=
  kd S o 1 <|
  lt_ (sP S o 0) fun x2 =>
  nn x2 fun a3 =>
  kd S a3 8 <|
  bdD (f_Ty_addClass S d a3 v1) fun x5 d7 =>
  some (x5, d7)
set_option maxRecDepth 100000 in
set_option maxHeartbeats 4000000 in
theorem c_M_type (l : Launch) (G : gG) {S : gS} {d : gD} {o : Nat} {v1 : Int32} {r : Int32} {d' : gD} (h : f_M_type S d o v1 = some (r, d')) : GM l G y_M_type b_M_type 2 (some (.int)) 2 42 0 0 [.inr (.inr (some o)), .inl v1] S d (some (.int r)) S d' := by
  refine GM.of (by decide) (Nat.le_of_ble_eq_true rfl) ?_
  intro X hl0 hG0 hR0 hE0
  have hE : gE X b_M_type 2 "StandInMill" (some (.int)) "type" 2 42 := hE0
  unfold f_M_type at h
  refine gw.less (lv' := [some (va_rf (some o)), some (.int v1)]) (And.intro rfl (And.intro rfl trivial)) ?_
  refine g_aload_n (i := 0) hE d_M_type_0 rfl rfl ?_
  obtain ⟨k1, h⟩ := kd_s h
  refine g_getR 0 hE kc_M k1 (Nat.le_of_ble_eq_true rfl) rfl m_41 d_M_type_1 (fun x2 e => ?_)
  replace h := lt_i e h; clear e
  refine g_iload_n (i := 1) hE d_M_type_4 rfl rfl ?_
  obtain ⟨a3, rfl, h⟩ := nn_s h
  obtain ⟨k4, h⟩ := kd_s h
  obtain ⟨x5, d7, e6, h⟩ := bdD_s h
  refine g_callV (av := [.inr (.inr (some a3)), .inl v1]) (as := [.inl v1]) (stk := [.int x5]) [] hE (c_Ty_addClass (xl X) (xG X) e6) ky_Ty_addClass ⟨Nat.le_of_ble_eq_true rfl, Nat.le_of_ble_eq_true rfl⟩ rfl kc_Ty k4 m_81 m_82 m_83 rfl d_M_type_5 rfl rfl ct_0 (Nat.zero_le _) (Nat.zero_le _) ?_
  refine gw.cs (c2 := 0) (s2 := 0) rfl rfl ?_
  cases h
  exact g_iret hE d_M_type_8 rfl rfl
