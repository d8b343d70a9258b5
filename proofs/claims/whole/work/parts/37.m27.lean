theorem d_R_wrongResults_0 : dc b_R_wrongResults 0 (.iconst 0) 1 1 := ⟨by decide +kernel, rfl⟩
theorem d_R_wrongResults_1 : dc b_R_wrongResults 1 (.istore_n 2) 1 2 := ⟨by decide +kernel, rfl⟩
theorem d_R_wrongResults_2 : dc b_R_wrongResults 2 (.iconst 0) 1 3 := ⟨by decide +kernel, rfl⟩
theorem d_R_wrongResults_3 : dc b_R_wrongResults 3 (.istore_n 3) 1 4 := ⟨by decide +kernel, rfl⟩
theorem d_R_wrongResults_4 : dc b_R_wrongResults 4 (.iconst 0) 1 5 := ⟨by decide +kernel, rfl⟩
theorem d_R_wrongResults_5 : dc b_R_wrongResults 5 (.istore 4) 2 7 := ⟨by decide +kernel, rfl⟩
theorem d_R_wrongResults_7 : dc b_R_wrongResults 7 (.iconst 0) 1 8 := ⟨by decide +kernel, rfl⟩
theorem d_R_wrongResults_8 : dc b_R_wrongResults 8 (.istore 5) 2 10 := ⟨by decide +kernel, rfl⟩
theorem d_R_wrongResults_10 : dc b_R_wrongResults 10 (.iload 5) 2 12 := ⟨by decide +kernel, rfl⟩
theorem d_R_wrongResults_12 : dc b_R_wrongResults 12 (.aload_n 0) 1 13 := ⟨by decide +kernel, rfl⟩
theorem d_R_wrongResults_13 : dc b_R_wrongResults 13 (.getfield 106) 3 16 := ⟨by decide +kernel, rfl⟩
theorem d_R_wrongResults_16 : db b_R_wrongResults 16 (.if_icmp .ge 134) 134 150 19 := ⟨by decide +kernel, by decide, rfl⟩
theorem d_R_wrongResults_19 : dc b_R_wrongResults 19 (.aload_n 0) 1 20 := ⟨by decide +kernel, rfl⟩
theorem d_R_wrongResults_20 : dc b_R_wrongResults 20 (.aload_n 0) 1 21 := ⟨by decide +kernel, rfl⟩
theorem d_R_wrongResults_21 : dc b_R_wrongResults 21 (.getfield 109) 3 24 := ⟨by decide +kernel, rfl⟩
theorem d_R_wrongResults_24 : dc b_R_wrongResults 24 (.iload_n 1) 1 25 := ⟨by decide +kernel, rfl⟩
theorem d_R_wrongResults_25 : dc b_R_wrongResults 25 (.iaload) 1 26 := ⟨by decide +kernel, rfl⟩
theorem d_R_wrongResults_26 : dc b_R_wrongResults 26 (.aload_n 0) 1 27 := ⟨by decide +kernel, rfl⟩
theorem d_R_wrongResults_27 : dc b_R_wrongResults 27 (.getfield 109) 3 30 := ⟨by decide +kernel, rfl⟩
theorem d_R_wrongResults_30 : dc b_R_wrongResults 30 (.iload 5) 2 32 := ⟨by decide +kernel, rfl⟩
theorem d_R_wrongResults_32 : dc b_R_wrongResults 32 (.iaload) 1 33 := ⟨by decide +kernel, rfl⟩
theorem d_R_wrongResults_33 : dc b_R_wrongResults 33 (.invokevirtual 180) 3 36 := ⟨by decide +kernel, rfl⟩
theorem d_R_wrongResults_36 : db b_R_wrongResults 36 (.ifCond .eq 108) 108 144 39 := ⟨by decide +kernel, by decide, rfl⟩
theorem d_R_wrongResults_39 : dc b_R_wrongResults 39 (.aload_n 0) 1 40 := ⟨by decide +kernel, rfl⟩
theorem d_R_wrongResults_40 : dc b_R_wrongResults 40 (.getfield 54) 3 43 := ⟨by decide +kernel, rfl⟩
theorem d_R_wrongResults_43 : dc b_R_wrongResults 43 (.aload_n 0) 1 44 := ⟨by decide +kernel, rfl⟩
theorem d_R_wrongResults_44 : dc b_R_wrongResults 44 (.getfield 109) 3 47 := ⟨by decide +kernel, rfl⟩
theorem d_R_wrongResults_47 : dc b_R_wrongResults 47 (.iload 5) 2 49 := ⟨by decide +kernel, rfl⟩
theorem d_R_wrongResults_49 : dc b_R_wrongResults 49 (.iaload) 1 50 := ⟨by decide +kernel, rfl⟩
theorem d_R_wrongResults_50 : dc b_R_wrongResults 50 (.iaload) 1 51 := ⟨by decide +kernel, rfl⟩
theorem d_R_wrongResults_51 : dc b_R_wrongResults 51 (.istore 6) 2 53 := ⟨by decide +kernel, rfl⟩
theorem d_R_wrongResults_53 : dc b_R_wrongResults 53 (.iload 5) 2 55 := ⟨by decide +kernel, rfl⟩
theorem d_R_wrongResults_55 : dc b_R_wrongResults 55 (.iload_n 1) 1 56 := ⟨by decide +kernel, rfl⟩
theorem d_R_wrongResults_56 : db b_R_wrongResults 56 (.if_icmp .eq 6) 6 62 59 := ⟨by decide +kernel, by decide, rfl⟩
theorem d_R_wrongResults_59 : dc b_R_wrongResults 59 (.iinc 2 1) 3 62 := ⟨by decide +kernel, rfl⟩
theorem d_R_wrongResults_62 : dc b_R_wrongResults 62 (.iload 6) 2 64 := ⟨by decide +kernel, rfl⟩
theorem d_R_wrongResults_64 : dc b_R_wrongResults 64 (.bipush 7) 2 66 := ⟨by decide +kernel, rfl⟩
theorem d_R_wrongResults_66 : db b_R_wrongResults 66 (.if_icmp .ge 5) 5 71 69 := ⟨by decide +kernel, by decide, rfl⟩
theorem d_R_wrongResults_69 : dc b_R_wrongResults 69 (.iconst 1) 1 70 := ⟨by decide +kernel, rfl⟩
theorem d_R_wrongResults_70 : dc b_R_wrongResults 70 (.istore_n 3) 1 71 := ⟨by decide +kernel, rfl⟩
theorem d_R_wrongResults_71 : dc b_R_wrongResults 71 (.iconst 1) 1 72 := ⟨by decide +kernel, rfl⟩
theorem d_R_wrongResults_72 : dc b_R_wrongResults 72 (.istore 7) 2 74 := ⟨by decide +kernel, rfl⟩
theorem d_R_wrongResults_74 : dc b_R_wrongResults 74 (.iconst 0) 1 75 := ⟨by decide +kernel, rfl⟩
theorem d_R_wrongResults_75 : dc b_R_wrongResults 75 (.istore 8) 2 77 := ⟨by decide +kernel, rfl⟩
theorem d_R_wrongResults_77 : dc b_R_wrongResults 77 (.iload 8) 2 79 := ⟨by decide +kernel, rfl⟩
theorem d_R_wrongResults_79 : dc b_R_wrongResults 79 (.aload_n 0) 1 80 := ⟨by decide +kernel, rfl⟩
theorem d_R_wrongResults_80 : dc b_R_wrongResults 80 (.getfield 106) 3 83 := ⟨by decide +kernel, rfl⟩
theorem d_R_wrongResults_83 : db b_R_wrongResults 83 (.if_icmp .ge 53) 53 136 86 := ⟨by decide +kernel, by decide, rfl⟩
theorem d_R_wrongResults_86 : dc b_R_wrongResults 86 (.aload_n 0) 1 87 := ⟨by decide +kernel, rfl⟩
theorem d_R_wrongResults_87 : dc b_R_wrongResults 87 (.aload_n 0) 1 88 := ⟨by decide +kernel, rfl⟩
theorem d_R_wrongResults_88 : dc b_R_wrongResults 88 (.getfield 109) 3 91 := ⟨by decide +kernel, rfl⟩
theorem d_R_wrongResults_91 : dc b_R_wrongResults 91 (.iload_n 1) 1 92 := ⟨by decide +kernel, rfl⟩
theorem d_R_wrongResults_92 : dc b_R_wrongResults 92 (.iaload) 1 93 := ⟨by decide +kernel, rfl⟩
theorem d_R_wrongResults_93 : dc b_R_wrongResults 93 (.aload_n 0) 1 94 := ⟨by decide +kernel, rfl⟩
theorem d_R_wrongResults_94 : dc b_R_wrongResults 94 (.getfield 109) 3 97 := ⟨by decide +kernel, rfl⟩
theorem d_R_wrongResults_97 : dc b_R_wrongResults 97 (.iload 8) 2 99 := ⟨by decide +kernel, rfl⟩
theorem d_R_wrongResults_99 : dc b_R_wrongResults 99 (.iaload) 1 100 := ⟨by decide +kernel, rfl⟩
theorem d_R_wrongResults_100 : dc b_R_wrongResults 100 (.invokevirtual 180) 3 103 := ⟨by decide +kernel, rfl⟩
theorem d_R_wrongResults_103 : db b_R_wrongResults 103 (.ifCond .eq 27) 27 130 106 := ⟨by decide +kernel, by decide, rfl⟩
theorem d_R_wrongResults_106 : dc b_R_wrongResults 106 (.aload_n 0) 1 107 := ⟨by decide +kernel, rfl⟩
theorem d_R_wrongResults_107 : dc b_R_wrongResults 107 (.iload 6) 2 109 := ⟨by decide +kernel, rfl⟩
theorem d_R_wrongResults_109 : dc b_R_wrongResults 109 (.aload_n 0) 1 110 := ⟨by decide +kernel, rfl⟩
theorem d_R_wrongResults_110 : dc b_R_wrongResults 110 (.getfield 54) 3 113 := ⟨by decide +kernel, rfl⟩
theorem d_R_wrongResults_113 : dc b_R_wrongResults 113 (.aload_n 0) 1 114 := ⟨by decide +kernel, rfl⟩
theorem d_R_wrongResults_114 : dc b_R_wrongResults 114 (.getfield 109) 3 117 := ⟨by decide +kernel, rfl⟩
theorem d_R_wrongResults_117 : dc b_R_wrongResults 117 (.iload 8) 2 119 := ⟨by decide +kernel, rfl⟩
theorem d_R_wrongResults_119 : dc b_R_wrongResults 119 (.iaload) 1 120 := ⟨by decide +kernel, rfl⟩
theorem d_R_wrongResults_120 : dc b_R_wrongResults 120 (.iaload) 1 121 := ⟨by decide +kernel, rfl⟩
theorem d_R_wrongResults_121 : dc b_R_wrongResults 121 (.invokevirtual 184) 3 124 := ⟨by decide +kernel, rfl⟩
theorem d_R_wrongResults_124 : db b_R_wrongResults 124 (.ifCond .ne 6) 6 130 127 := ⟨by decide +kernel, by decide, rfl⟩
theorem d_R_wrongResults_127 : dc b_R_wrongResults 127 (.iconst 0) 1 128 := ⟨by decide +kernel, rfl⟩
theorem d_R_wrongResults_128 : dc b_R_wrongResults 128 (.istore 7) 2 130 := ⟨by decide +kernel, rfl⟩
theorem d_R_wrongResults_130 : dc b_R_wrongResults 130 (.iinc 8 1) 3 133 := ⟨by decide +kernel, rfl⟩
theorem d_R_wrongResults_133 : db b_R_wrongResults 133 (.goto (-56)) (-56) 77 136 := ⟨by decide +kernel, by decide, rfl⟩
theorem d_R_wrongResults_136 : dc b_R_wrongResults 136 (.iload 7) 2 138 := ⟨by decide +kernel, rfl⟩
theorem d_R_wrongResults_138 : db b_R_wrongResults 138 (.ifCond .eq 6) 6 144 141 := ⟨by decide +kernel, by decide, rfl⟩
theorem d_R_wrongResults_141 : dc b_R_wrongResults 141 (.iconst 1) 1 142 := ⟨by decide +kernel, rfl⟩
theorem d_R_wrongResults_142 : dc b_R_wrongResults 142 (.istore 4) 2 144 := ⟨by decide +kernel, rfl⟩
theorem d_R_wrongResults_144 : dc b_R_wrongResults 144 (.iinc 5 1) 3 147 := ⟨by decide +kernel, rfl⟩
theorem d_R_wrongResults_147 : db b_R_wrongResults 147 (.goto (-137)) (-137) 10 150 := ⟨by decide +kernel, by decide, rfl⟩
theorem d_R_wrongResults_150 : dc b_R_wrongResults 150 (.iload_n 2) 1 151 := ⟨by decide +kernel, rfl⟩
theorem d_R_wrongResults_151 : db b_R_wrongResults 151 (.ifCond .le 16) 16 167 154 := ⟨by decide +kernel, by decide, rfl⟩
theorem d_R_wrongResults_154 : dc b_R_wrongResults 154 (.iload_n 3) 1 155 := ⟨by decide +kernel, rfl⟩
theorem d_R_wrongResults_155 : db b_R_wrongResults 155 (.ifCond .ne 8) 8 163 158 := ⟨by decide +kernel, by decide, rfl⟩
theorem d_R_wrongResults_158 : dc b_R_wrongResults 158 (.iload 4) 2 160 := ⟨by decide +kernel, rfl⟩
theorem d_R_wrongResults_160 : db b_R_wrongResults 160 (.ifCond .ne 7) 7 167 163 := ⟨by decide +kernel, by decide, rfl⟩
theorem d_R_wrongResults_163 : dc b_R_wrongResults 163 (.iconst 1) 1 164 := ⟨by decide +kernel, rfl⟩
theorem d_R_wrongResults_164 : db b_R_wrongResults 164 (.goto 4) 4 168 167 := ⟨by decide +kernel, by decide, rfl⟩
theorem d_R_wrongResults_167 : dc b_R_wrongResults 167 (.iconst 0) 1 168 := ⟨by decide +kernel, rfl⟩
theorem d_R_wrongResults_168 : dc b_R_wrongResults 168 (.ireturn) 1 169 := ⟨by decide +kernel, rfl⟩
def f_R_wrongResults_J144 (S : gS) (d : gD) (o : Nat) (kx150 : Int32 → Int32 → Int32 → Option (Int32)) (kb : Int32 → Int32 → Int32 → Int32 → Int32 → Option (Int32)) (v1 : Int32) (v2 : Int32) (v3 : Int32) (v4 : Int32) (v5 : Int32) : Option (Int32) :=
  kb v1 v2 v3 v4 (v5 + 1)
set_option maxRecDepth 100000 in
set_option maxHeartbeats 4000000 in
theorem w_R_wrongResults_J144 {X : GX} (hE : gE X b_R_wrongResults 9 "StandInMillModel" (some (.boolean)) "wrongResults" 3 67) {S : gS} {d : gD} {o : Nat} {r : Int32} {kb : Int32 → Int32 → Int32 → Int32 → Int32 → Option (Int32)} {kx150 : Int32 → Int32 → Int32 → Option (Int32)} (hkb : ∀ (v1 : Int32) (v2 : Int32) (v3 : Int32) (v4 : Int32) (v5 : Int32), kb v1 v2 v3 v4 v5 = some r → gw X 0 0 (gQ X (some (.int r)) S d 0 0) S d 10 [some (va_rf (some o)), some (.int v1), some (.int v2), some (.int v3), some (.int v4), some (.int v5), none, none, none] []) (hkx150 : ∀ (v2 : Int32) (v3 : Int32) (v4 : Int32), kx150 v2 v3 v4 = some r → gw X 0 0 (gQ X (some (.int r)) S d 0 0) S d 150 [some (va_rf (some o)), none, some (.int v2), some (.int v3), some (.int v4), none, none, none, none] []) :
    ∀ (v1 : Int32) (v2 : Int32) (v3 : Int32) (v4 : Int32) (v5 : Int32), f_R_wrongResults_J144 S d o kx150 kb v1 v2 v3 v4 v5 = some r → gw X 0 0 (gQ X (some (.int r)) S d 0 0) S d 144 [some (va_rf (some o)), some (.int v1), some (.int v2), some (.int v3), some (.int v4), some (.int v5), none, none, none] [] := by
  intro v1 v2 v3 v4 v5 h
  unfold f_R_wrongResults_J144 at h
  refine g_iinc (i := 5) (lv' := [some (va_rf (some o)), some (.int v1), some (.int v2), some (.int v3), some (.int v4), some (.int (v5 + 1)), none, none, none]) hE d_R_wrongResults_144 ki_1 rfl (Nat.le_of_ble_eq_true rfl) ⟨rfl, Nat.le_of_ble_eq_true rfl⟩ (lvp_i rfl) ?_
  refine g_goto hE d_R_wrongResults_147 ?_
  exact gw.less (lv' := [some (va_rf (some o)), some (.int v1), some (.int v2), some (.int v3), some (.int v4), some (.int (v5 + 1)), none, none, none]) (And.intro rfl (And.intro rfl (And.intro rfl (And.intro rfl (And.intro rfl (And.intro rfl trivial)))))) (hkb v1 v2 v3 v4 (v5 + 1) h)
def f_R_wrongResults_J130 (S : gS) (d : gD) (o : Nat) (kx136 : Int32 → Int32 → Int32 → Int32 → Int32 → Int32 → Option (Int32)) (kb : Int32 → Int32 → Int32 → Int32 → Int32 → Int32 → Int32 → Int32 → Option (Int32)) (v1 : Int32) (v2 : Int32) (v3 : Int32) (v4 : Int32) (v5 : Int32) (v6 : Int32) (v7 : Int32) (v8 : Int32) : Option (Int32) :=
  kb v1 v2 v3 v4 v5 v6 v7 (v8 + 1)
set_option maxRecDepth 100000 in
set_option maxHeartbeats 4000000 in
theorem w_R_wrongResults_J130 {X : GX} (hE : gE X b_R_wrongResults 9 "StandInMillModel" (some (.boolean)) "wrongResults" 3 67) {S : gS} {d : gD} {o : Nat} {r : Int32} {kb : Int32 → Int32 → Int32 → Int32 → Int32 → Int32 → Int32 → Int32 → Option (Int32)} {kx136 : Int32 → Int32 → Int32 → Int32 → Int32 → Int32 → Option (Int32)} (hkb : ∀ (v1 : Int32) (v2 : Int32) (v3 : Int32) (v4 : Int32) (v5 : Int32) (v6 : Int32) (v7 : Int32) (v8 : Int32), kb v1 v2 v3 v4 v5 v6 v7 v8 = some r → gw X 0 0 (gQ X (some (.int r)) S d 0 0) S d 77 [some (va_rf (some o)), some (.int v1), some (.int v2), some (.int v3), some (.int v4), some (.int v5), some (.int v6), some (.int v7), some (.int v8)] []) (hkx136 : ∀ (v1 : Int32) (v2 : Int32) (v3 : Int32) (v4 : Int32) (v5 : Int32) (v7 : Int32), kx136 v1 v2 v3 v4 v5 v7 = some r → gw X 0 0 (gQ X (some (.int r)) S d 0 0) S d 136 [some (va_rf (some o)), some (.int v1), some (.int v2), some (.int v3), some (.int v4), some (.int v5), none, some (.int v7), none] []) :
    ∀ (v1 : Int32) (v2 : Int32) (v3 : Int32) (v4 : Int32) (v5 : Int32) (v6 : Int32) (v7 : Int32) (v8 : Int32), f_R_wrongResults_J130 S d o kx136 kb v1 v2 v3 v4 v5 v6 v7 v8 = some r → gw X 0 0 (gQ X (some (.int r)) S d 0 0) S d 130 [some (va_rf (some o)), some (.int v1), some (.int v2), some (.int v3), some (.int v4), some (.int v5), some (.int v6), some (.int v7), some (.int v8)] [] := by
  intro v1 v2 v3 v4 v5 v6 v7 v8 h
  unfold f_R_wrongResults_J130 at h
  refine g_iinc (i := 8) (lv' := [some (va_rf (some o)), some (.int v1), some (.int v2), some (.int v3), some (.int v4), some (.int v5), some (.int v6), some (.int v7), some (.int (v8 + 1))]) hE d_R_wrongResults_130 ki_1 rfl (Nat.le_of_ble_eq_true rfl) ⟨rfl, Nat.le_of_ble_eq_true rfl⟩ (lvp_i rfl) ?_
  refine g_goto hE d_R_wrongResults_133 ?_
  exact gw.less (lv' := [some (va_rf (some o)), some (.int v1), some (.int v2), some (.int v3), some (.int v4), some (.int v5), some (.int v6), some (.int v7), some (.int (v8 + 1))]) (And.intro rfl (And.intro rfl (And.intro rfl (And.intro rfl (And.intro rfl (And.intro rfl (And.intro rfl (And.intro rfl (And.intro rfl trivial))))))))) (hkb v1 v2 v3 v4 v5 v6 v7 (v8 + 1) h)
def f_R_wrongResults_B77 (S : gS) (d : gD) (o : Nat) (kx136 : Int32 → Int32 → Int32 → Int32 → Int32 → Int32 → Option (Int32)) (kb : Int32 → Int32 → Int32 → Int32 → Int32 → Int32 → Int32 → Int32 → Option (Int32)) (v1 : Int32) (v2 : Int32) (v3 : Int32) (v4 : Int32) (v5 : Int32) (v6 : Int32) (v7 : Int32) (v8 : Int32) : Option (Int32) :=
  kd S o 10 <|
  lt_ (dI d o 31) fun x2 =>
  if x2 ≤ v8 then (
    kx136 v1 v2 v3 v4 v5 v7)
  else (
    lt_ (sP S o 32) fun x3 =>
    nn x3 fun a4 =>
    kd S a4 50 <|
    gi v1 (sN S a4) <|
    lt_ (dI d a4 v1.toNatClampNeg) fun x7 =>
    lt_ (sP S o 32) fun x8 =>
    nn x8 fun a9 =>
    kd S a9 50 <|
    gi v8 (sN S a9) <|
    lt_ (dI d a9 v8.toNatClampNeg) fun x12 =>
    bd (f_R_sameSignature S d o x7 x12) fun x13 =>
    if x13 = 0 then (
      f_R_wrongResults_J130 S d o kx136 kb v1 v2 v3 v4 v5 v6 v7 v8)
    else (
      lt_ (sP S o 14) fun x15 =>
      lt_ (sP S o 32) fun x16 =>
      nn x16 fun a17 =>
      kd S a17 50 <|
      gi v8 (sN S a17) <|
      lt_ (dI d a17 v8.toNatClampNeg) fun x20 =>
      nn x15 fun a21 =>
      kd S a21 50 <|
      gi x20 (sN S a21) <|
      lt_ (dI d a21 x20.toNatClampNeg) fun x24 =>
      bd (f_R_isBelow S d o v6 x24) fun x25 =>
      if x25 = 0 then (
        f_R_wrongResults_J130 S d o kx136 kb v1 v2 v3 v4 v5 v6 0 v8)
      else (
        f_R_wrongResults_J130 S d o kx136 kb v1 v2 v3 v4 v5 v6 v7 v8)))
set_option maxRecDepth 100000 in
set_option maxHeartbeats 4000000 in
theorem w_R_wrongResults_B77 {X : GX} (hE : gE X b_R_wrongResults 9 "StandInMillModel" (some (.boolean)) "wrongResults" 3 67) {S : gS} {d : gD} {o : Nat} {r : Int32} {kb : Int32 → Int32 → Int32 → Int32 → Int32 → Int32 → Int32 → Int32 → Option (Int32)} {kx136 : Int32 → Int32 → Int32 → Int32 → Int32 → Int32 → Option (Int32)} (hkb : ∀ (v1 : Int32) (v2 : Int32) (v3 : Int32) (v4 : Int32) (v5 : Int32) (v6 : Int32) (v7 : Int32) (v8 : Int32), kb v1 v2 v3 v4 v5 v6 v7 v8 = some r → gw X 0 0 (gQ X (some (.int r)) S d 0 0) S d 77 [some (va_rf (some o)), some (.int v1), some (.int v2), some (.int v3), some (.int v4), some (.int v5), some (.int v6), some (.int v7), some (.int v8)] []) (hkx136 : ∀ (v1 : Int32) (v2 : Int32) (v3 : Int32) (v4 : Int32) (v5 : Int32) (v7 : Int32), kx136 v1 v2 v3 v4 v5 v7 = some r → gw X 0 0 (gQ X (some (.int r)) S d 0 0) S d 136 [some (va_rf (some o)), some (.int v1), some (.int v2), some (.int v3), some (.int v4), some (.int v5), none, some (.int v7), none] []) :
    ∀ (v1 : Int32) (v2 : Int32) (v3 : Int32) (v4 : Int32) (v5 : Int32) (v6 : Int32) (v7 : Int32) (v8 : Int32), f_R_wrongResults_B77 S d o kx136 kb v1 v2 v3 v4 v5 v6 v7 v8 = some r → gw X 0 0 (gQ X (some (.int r)) S d 0 0) S d 77 [some (va_rf (some o)), some (.int v1), some (.int v2), some (.int v3), some (.int v4), some (.int v5), some (.int v6), some (.int v7), some (.int v8)] [] := by
  intro v1 v2 v3 v4 v5 v6 v7 v8 h
  unfold f_R_wrongResults_B77 at h
  refine g_iload (i := 8) hE d_R_wrongResults_77 rfl ?_
  refine g_aload_n (i := 0) hE d_R_wrongResults_79 rfl rfl ?_
  obtain ⟨k1, h⟩ := kd_s h
  refine g_getI 31 hE kc_R k1 (Nat.le_of_ble_eq_true rfl) rfl m_408 d_R_wrongResults_80 (fun x2 e => ?_)
  replace h := lt_i e h; clear e
  refine g_icmp_ge hE d_R_wrongResults_83 (fun c29 => ?_) (fun c29 => ?_)
  · replace h := if_t c29 h
    exact gw.less (lv' := [some (va_rf (some o)), some (.int v1), some (.int v2), some (.int v3), some (.int v4), some (.int v5), none, some (.int v7), none]) (And.intro rfl (And.intro rfl (And.intro rfl (And.intro rfl (And.intro rfl (And.intro rfl (And.intro rfl trivial))))))) (hkx136 v1 v2 v3 v4 v5 v7 h)
  · replace h := if_f c29 h
    refine g_aload_n (i := 0) hE d_R_wrongResults_86 rfl rfl ?_
    refine g_aload_n (i := 0) hE d_R_wrongResults_87 rfl rfl ?_
    refine g_getR 32 hE kc_R k1 (Nat.le_of_ble_eq_true rfl) rfl m_409 d_R_wrongResults_88 (fun x3 e => ?_)
    replace h := lt_i e h; clear e
    refine g_iload_n (i := 1) hE d_R_wrongResults_91 rfl rfl ?_
    obtain ⟨a4, rfl, h⟩ := nn_s h
    obtain ⟨k5, h⟩ := kd_s h
    obtain ⟨g6, h⟩ := gi_s h
    refine g_iald hE k5 g6 d_R_wrongResults_92 (fun x7 e => ?_)
    replace h := lt_i e h; clear e
    refine g_aload_n (i := 0) hE d_R_wrongResults_93 rfl rfl ?_
    refine g_getR 32 hE kc_R k1 (Nat.le_of_ble_eq_true rfl) rfl m_409 d_R_wrongResults_94 (fun x8 e => ?_)
    replace h := lt_i e h; clear e
    refine g_iload (i := 8) hE d_R_wrongResults_97 rfl ?_
    obtain ⟨a9, rfl, h⟩ := nn_s h
    obtain ⟨k10, h⟩ := kd_s h
    obtain ⟨g11, h⟩ := gi_s h
    refine g_iald hE k10 g11 d_R_wrongResults_99 (fun x12 e => ?_)
    replace h := lt_i e h; clear e
    obtain ⟨x13, e14, h⟩ := bd_s h
    refine g_callV (av := [.inr (.inr (some o)), .inl x7, .inl x12]) (as := [.inl x7, .inl x12]) (stk := [.int x13]) [] hE (c_R_sameSignature (xl X) (xG X) e14) ky_R_sameSignature ⟨Nat.le_of_ble_eq_true rfl, Nat.le_of_ble_eq_true rfl⟩ rfl kc_R k1 m_444 m_445 m_446 rfl d_R_wrongResults_100 rfl rfl ct_0 (Nat.zero_le _) (Nat.zero_le _) ?_
    refine gw.cs (c2 := 0) (s2 := 0) rfl rfl ?_
    refine g_if_eq hE d_R_wrongResults_103 (fun c28 => ?_) (fun c28 => ?_)
    · replace h := if_t c28 h
      exact gw.less (lv' := [some (va_rf (some o)), some (.int v1), some (.int v2), some (.int v3), some (.int v4), some (.int v5), some (.int v6), some (.int v7), some (.int v8)]) (And.intro rfl (And.intro rfl (And.intro rfl (And.intro rfl (And.intro rfl (And.intro rfl (And.intro rfl (And.intro rfl (And.intro rfl trivial))))))))) (w_R_wrongResults_J130 hE hkb hkx136 v1 v2 v3 v4 v5 v6 v7 v8 h)
    · replace h := if_f c28 h
      refine g_aload_n (i := 0) hE d_R_wrongResults_106 rfl rfl ?_
      refine g_iload (i := 6) hE d_R_wrongResults_107 rfl ?_
      refine g_aload_n (i := 0) hE d_R_wrongResults_109 rfl rfl ?_
      refine g_getR 14 hE kc_R k1 (Nat.le_of_ble_eq_true rfl) rfl m_391 d_R_wrongResults_110 (fun x15 e => ?_)
      replace h := lt_i e h; clear e
      refine g_aload_n (i := 0) hE d_R_wrongResults_113 rfl rfl ?_
      refine g_getR 32 hE kc_R k1 (Nat.le_of_ble_eq_true rfl) rfl m_409 d_R_wrongResults_114 (fun x16 e => ?_)
      replace h := lt_i e h; clear e
      refine g_iload (i := 8) hE d_R_wrongResults_117 rfl ?_
      obtain ⟨a17, rfl, h⟩ := nn_s h
      obtain ⟨k18, h⟩ := kd_s h
      obtain ⟨g19, h⟩ := gi_s h
      refine g_iald hE k18 g19 d_R_wrongResults_119 (fun x20 e => ?_)
      replace h := lt_i e h; clear e
      obtain ⟨a21, rfl, h⟩ := nn_s h
      obtain ⟨k22, h⟩ := kd_s h
      obtain ⟨g23, h⟩ := gi_s h
      refine g_iald hE k22 g23 d_R_wrongResults_120 (fun x24 e => ?_)
      replace h := lt_i e h; clear e
      obtain ⟨x25, e26, h⟩ := bd_s h
      refine g_callV (av := [.inr (.inr (some o)), .inl v6, .inl x24]) (as := [.inl v6, .inl x24]) (stk := [.int x25]) [] hE (c_R_isBelow (xl X) (xG X) e26) ky_R_isBelow ⟨Nat.le_of_ble_eq_true rfl, Nat.le_of_ble_eq_true rfl⟩ rfl kc_R k1 m_447 m_448 m_449 rfl d_R_wrongResults_121 rfl rfl ct_0 (Nat.zero_le _) (Nat.zero_le _) ?_
      refine gw.cs (c2 := 0) (s2 := 0) rfl rfl ?_
      refine g_if_ne hE d_R_wrongResults_124 (fun c27 => ?_) (fun c27 => ?_)
      · replace h := if_f c27 h
        exact gw.less (lv' := [some (va_rf (some o)), some (.int v1), some (.int v2), some (.int v3), some (.int v4), some (.int v5), some (.int v6), some (.int v7), some (.int v8)]) (And.intro rfl (And.intro rfl (And.intro rfl (And.intro rfl (And.intro rfl (And.intro rfl (And.intro rfl (And.intro rfl (And.intro rfl trivial))))))))) (w_R_wrongResults_J130 hE hkb hkx136 v1 v2 v3 v4 v5 v6 v7 v8 h)
      · replace h := if_t c27 h
        refine g_iconst hE d_R_wrongResults_127 ki_0 ?_
        refine g_istore (i := 7) (lv' := [some (va_rf (some o)), some (.int v1), some (.int v2), some (.int v3), some (.int v4), some (.int v5), some (.int v6), some (.int 0), some (.int v8)]) hE d_R_wrongResults_128 (Nat.le_of_ble_eq_true rfl) ⟨rfl, Nat.le_of_ble_eq_true rfl⟩ (lvp_i rfl) ?_
        exact gw.less (lv' := [some (va_rf (some o)), some (.int v1), some (.int v2), some (.int v3), some (.int v4), some (.int v5), some (.int v6), some (.int 0), some (.int v8)]) (And.intro rfl (And.intro rfl (And.intro rfl (And.intro rfl (And.intro rfl (And.intro rfl (And.intro rfl (And.intro rfl (And.intro rfl trivial))))))))) (w_R_wrongResults_J130 hE hkb hkx136 v1 v2 v3 v4 v5 v6 0 v8 h)
theorem w_R_wrongResults_L77 {X : GX} (hE : gE X b_R_wrongResults 9 "StandInMillModel" (some (.boolean)) "wrongResults" 3 67) {S : gS} {d : gD} {o : Nat} {r : Int32} {kx136 : Int32 → Int32 → Int32 → Int32 → Int32 → Int32 → Option (Int32)} (hkx136 : ∀ (v1 : Int32) (v2 : Int32) (v3 : Int32) (v4 : Int32) (v5 : Int32) (v7 : Int32), kx136 v1 v2 v3 v4 v5 v7 = some r → gw X 0 0 (gQ X (some (.int r)) S d 0 0) S d 136 [some (va_rf (some o)), some (.int v1), some (.int v2), some (.int v3), some (.int v4), some (.int v5), none, some (.int v7), none] []) : ∀ (n : Nat) (v1 : Int32) (v2 : Int32) (v3 : Int32) (v4 : Int32) (v5 : Int32) (v6 : Int32) (v7 : Int32) (v8 : Int32), itr (f_R_wrongResults_B77 S d o kx136) (fun _ _ _ _ _ _ _ _ => none) n v1 v2 v3 v4 v5 v6 v7 v8 = some r → gw X 0 0 (gQ X (some (.int r)) S d 0 0) S d 77 [some (va_rf (some o)), some (.int v1), some (.int v2), some (.int v3), some (.int v4), some (.int v5), some (.int v6), some (.int v7), some (.int v8)] [] := by
  intro n
  induction n with
  | zero => intro v1 v2 v3 v4 v5 v6 v7 v8 h; cases h
  | succ n ih => exact w_R_wrongResults_B77 hE ih hkx136
def f_R_wrongResults_J136 (S : gS) (d : gD) (o : Nat) (kx150 : Int32 → Int32 → Int32 → Option (Int32)) (kb : Int32 → Int32 → Int32 → Int32 → Int32 → Option (Int32)) (v1 : Int32) (v2 : Int32) (v3 : Int32) (v4 : Int32) (v5 : Int32) (v7 : Int32) : Option (Int32) :=
  if v7 = 0 then (
    f_R_wrongResults_J144 S d o kx150 kb v1 v2 v3 v4 v5)
  else (
    f_R_wrongResults_J144 S d o kx150 kb v1 v2 v3 1 v5)
set_option maxRecDepth 100000 in
set_option maxHeartbeats 4000000 in
theorem w_R_wrongResults_J136 {X : GX} (hE : gE X b_R_wrongResults 9 "StandInMillModel" (some (.boolean)) "wrongResults" 3 67) {S : gS} {d : gD} {o : Nat} {r : Int32} {kb : Int32 → Int32 → Int32 → Int32 → Int32 → Option (Int32)} {kx150 : Int32 → Int32 → Int32 → Option (Int32)} (hkb : ∀ (v1 : Int32) (v2 : Int32) (v3 : Int32) (v4 : Int32) (v5 : Int32), kb v1 v2 v3 v4 v5 = some r → gw X 0 0 (gQ X (some (.int r)) S d 0 0) S d 10 [some (va_rf (some o)), some (.int v1), some (.int v2), some (.int v3), some (.int v4), some (.int v5), none, none, none] []) (hkx150 : ∀ (v2 : Int32) (v3 : Int32) (v4 : Int32), kx150 v2 v3 v4 = some r → gw X 0 0 (gQ X (some (.int r)) S d 0 0) S d 150 [some (va_rf (some o)), none, some (.int v2), some (.int v3), some (.int v4), none, none, none, none] []) :
    ∀ (v1 : Int32) (v2 : Int32) (v3 : Int32) (v4 : Int32) (v5 : Int32) (v7 : Int32), f_R_wrongResults_J136 S d o kx150 kb v1 v2 v3 v4 v5 v7 = some r → gw X 0 0 (gQ X (some (.int r)) S d 0 0) S d 136 [some (va_rf (some o)), some (.int v1), some (.int v2), some (.int v3), some (.int v4), some (.int v5), none, some (.int v7), none] [] := by
  intro v1 v2 v3 v4 v5 v7 h
  unfold f_R_wrongResults_J136 at h
  refine g_iload (i := 7) hE d_R_wrongResults_136 rfl ?_
  refine g_if_eq hE d_R_wrongResults_138 (fun c1 => ?_) (fun c1 => ?_)
  · replace h := if_t c1 h
    exact gw.less (lv' := [some (va_rf (some o)), some (.int v1), some (.int v2), some (.int v3), some (.int v4), some (.int v5), none, none, none]) (And.intro rfl (And.intro rfl (And.intro rfl (And.intro rfl (And.intro rfl (And.intro rfl trivial)))))) (w_R_wrongResults_J144 hE hkb hkx150 v1 v2 v3 v4 v5 h)
  · replace h := if_f c1 h
    refine g_iconst hE d_R_wrongResults_141 ki_1 ?_
    refine g_istore (i := 4) (lv' := [some (va_rf (some o)), some (.int v1), some (.int v2), some (.int v3), some (.int 1), some (.int v5), none, some (.int v7), none]) hE d_R_wrongResults_142 (Nat.le_of_ble_eq_true rfl) ⟨rfl, Nat.le_of_ble_eq_true rfl⟩ (lvp_i rfl) ?_
    exact gw.less (lv' := [some (va_rf (some o)), some (.int v1), some (.int v2), some (.int v3), some (.int 1), some (.int v5), none, none, none]) (And.intro rfl (And.intro rfl (And.intro rfl (And.intro rfl (And.intro rfl (And.intro rfl trivial)))))) (w_R_wrongResults_J144 hE hkb hkx150 v1 v2 v3 1 v5 h)
def f_R_wrongResults_J71 (S : gS) (d : gD) (o : Nat) (kx150 : Int32 → Int32 → Int32 → Option (Int32)) (kb : Int32 → Int32 → Int32 → Int32 → Int32 → Option (Int32)) (v1 : Int32) (v2 : Int32) (v3 : Int32) (v4 : Int32) (v5 : Int32) (v6 : Int32) : Option (Int32) :=
  itr (f_R_wrongResults_B77 S d o (f_R_wrongResults_J136 S d o kx150 kb)) (fun _ _ _ _ _ _ _ _ => none) fu v1 v2 v3 v4 v5 v6 1 0
set_option maxRecDepth 100000 in
set_option maxHeartbeats 4000000 in
theorem w_R_wrongResults_J71 {X : GX} (hE : gE X b_R_wrongResults 9 "StandInMillModel" (some (.boolean)) "wrongResults" 3 67) {S : gS} {d : gD} {o : Nat} {r : Int32} {kb : Int32 → Int32 → Int32 → Int32 → Int32 → Option (Int32)} {kx150 : Int32 → Int32 → Int32 → Option (Int32)} (hkb : ∀ (v1 : Int32) (v2 : Int32) (v3 : Int32) (v4 : Int32) (v5 : Int32), kb v1 v2 v3 v4 v5 = some r → gw X 0 0 (gQ X (some (.int r)) S d 0 0) S d 10 [some (va_rf (some o)), some (.int v1), some (.int v2), some (.int v3), some (.int v4), some (.int v5), none, none, none] []) (hkx150 : ∀ (v2 : Int32) (v3 : Int32) (v4 : Int32), kx150 v2 v3 v4 = some r → gw X 0 0 (gQ X (some (.int r)) S d 0 0) S d 150 [some (va_rf (some o)), none, some (.int v2), some (.int v3), some (.int v4), none, none, none, none] []) :
    ∀ (v1 : Int32) (v2 : Int32) (v3 : Int32) (v4 : Int32) (v5 : Int32) (v6 : Int32), f_R_wrongResults_J71 S d o kx150 kb v1 v2 v3 v4 v5 v6 = some r → gw X 0 0 (gQ X (some (.int r)) S d 0 0) S d 71 [some (va_rf (some o)), some (.int v1), some (.int v2), some (.int v3), some (.int v4), some (.int v5), some (.int v6), none, none] [] := by
  intro v1 v2 v3 v4 v5 v6 h
  unfold f_R_wrongResults_J71 at h
  refine g_iconst hE d_R_wrongResults_71 ki_1 ?_
  refine g_istore (i := 7) (lv' := [some (va_rf (some o)), some (.int v1), some (.int v2), some (.int v3), some (.int v4), some (.int v5), some (.int v6), some (.int 1), none]) hE d_R_wrongResults_72 (Nat.le_of_ble_eq_true rfl) ⟨rfl, Nat.le_of_ble_eq_true rfl⟩ (lvp_i rfl) ?_
  refine g_iconst hE d_R_wrongResults_74 ki_0 ?_
  refine g_istore (i := 8) (lv' := [some (va_rf (some o)), some (.int v1), some (.int v2), some (.int v3), some (.int v4), some (.int v5), some (.int v6), some (.int 1), some (.int 0)]) hE d_R_wrongResults_75 (Nat.le_of_ble_eq_true rfl) ⟨rfl, Nat.le_of_ble_eq_true rfl⟩ (lvp_i rfl) ?_
  exact gw.less (lv' := [some (va_rf (some o)), some (.int v1), some (.int v2), some (.int v3), some (.int v4), some (.int v5), some (.int v6), some (.int 1), some (.int 0)]) (And.intro rfl (And.intro rfl (And.intro rfl (And.intro rfl (And.intro rfl (And.intro rfl (And.intro rfl (And.intro rfl (And.intro rfl trivial))))))))) (w_R_wrongResults_L77 hE (w_R_wrongResults_J136 hE hkb hkx150) fu v1 v2 v3 v4 v5 v6 1 0 h)
def f_R_wrongResults_J62 (S : gS) (d : gD) (o : Nat) (kx150 : Int32 → Int32 → Int32 → Option (Int32)) (kb : Int32 → Int32 → Int32 → Int32 → Int32 → Option (Int32)) (v1 : Int32) (v2 : Int32) (v3 : Int32) (v4 : Int32) (v5 : Int32) (v6 : Int32) : Option (Int32) :=
  if 7 ≤ v6 then (
    f_R_wrongResults_J71 S d o kx150 kb v1 v2 v3 v4 v5 v6)
  else (
    f_R_wrongResults_J71 S d o kx150 kb v1 v2 1 v4 v5 v6)
set_option maxRecDepth 100000 in
set_option maxHeartbeats 4000000 in
theorem w_R_wrongResults_J62 {X : GX} (hE : gE X b_R_wrongResults 9 "StandInMillModel" (some (.boolean)) "wrongResults" 3 67) {S : gS} {d : gD} {o : Nat} {r : Int32} {kb : Int32 → Int32 → Int32 → Int32 → Int32 → Option (Int32)} {kx150 : Int32 → Int32 → Int32 → Option (Int32)} (hkb : ∀ (v1 : Int32) (v2 : Int32) (v3 : Int32) (v4 : Int32) (v5 : Int32), kb v1 v2 v3 v4 v5 = some r → gw X 0 0 (gQ X (some (.int r)) S d 0 0) S d 10 [some (va_rf (some o)), some (.int v1), some (.int v2), some (.int v3), some (.int v4), some (.int v5), none, none, none] []) (hkx150 : ∀ (v2 : Int32) (v3 : Int32) (v4 : Int32), kx150 v2 v3 v4 = some r → gw X 0 0 (gQ X (some (.int r)) S d 0 0) S d 150 [some (va_rf (some o)), none, some (.int v2), some (.int v3), some (.int v4), none, none, none, none] []) :
    ∀ (v1 : Int32) (v2 : Int32) (v3 : Int32) (v4 : Int32) (v5 : Int32) (v6 : Int32), f_R_wrongResults_J62 S d o kx150 kb v1 v2 v3 v4 v5 v6 = some r → gw X 0 0 (gQ X (some (.int r)) S d 0 0) S d 62 [some (va_rf (some o)), some (.int v1), some (.int v2), some (.int v3), some (.int v4), some (.int v5), some (.int v6), none, none] [] := by
  intro v1 v2 v3 v4 v5 v6 h
  unfold f_R_wrongResults_J62 at h
  refine g_iload (i := 6) hE d_R_wrongResults_62 rfl ?_
  refine g_bipush hE d_R_wrongResults_64 kb_7 ?_
  refine g_icmp_ge hE d_R_wrongResults_66 (fun c1 => ?_) (fun c1 => ?_)
  · replace h := if_t c1 h
    exact gw.less (lv' := [some (va_rf (some o)), some (.int v1), some (.int v2), some (.int v3), some (.int v4), some (.int v5), some (.int v6), none, none]) (And.intro rfl (And.intro rfl (And.intro rfl (And.intro rfl (And.intro rfl (And.intro rfl (And.intro rfl trivial))))))) (w_R_wrongResults_J71 hE hkb hkx150 v1 v2 v3 v4 v5 v6 h)
  · replace h := if_f c1 h
    refine g_iconst hE d_R_wrongResults_69 ki_1 ?_
    refine g_istore_n (i := 3) (lv' := [some (va_rf (some o)), some (.int v1), some (.int v2), some (.int 1), some (.int v4), some (.int v5), some (.int v6), none, none]) hE d_R_wrongResults_70 rfl (Nat.le_of_ble_eq_true rfl) ⟨rfl, Nat.le_of_ble_eq_true rfl⟩ (lvp_i rfl) ?_
    exact gw.less (lv' := [some (va_rf (some o)), some (.int v1), some (.int v2), some (.int 1), some (.int v4), some (.int v5), some (.int v6), none, none]) (And.intro rfl (And.intro rfl (And.intro rfl (And.intro rfl (And.intro rfl (And.intro rfl (And.intro rfl trivial))))))) (w_R_wrongResults_J71 hE hkb hkx150 v1 v2 1 v4 v5 v6 h)
def f_R_wrongResults_B10 (S : gS) (d : gD) (o : Nat) (kx150 : Int32 → Int32 → Int32 → Option (Int32)) (kb : Int32 → Int32 → Int32 → Int32 → Int32 → Option (Int32)) (v1 : Int32) (v2 : Int32) (v3 : Int32) (v4 : Int32) (v5 : Int32) : Option (Int32) :=
  kd S o 10 <|
  lt_ (dI d o 31) fun x2 =>
  if x2 ≤ v5 then (
    kx150 v2 v3 v4)
  else (
    lt_ (sP S o 32) fun x3 =>
    nn x3 fun a4 =>
    kd S a4 50 <|
    gi v1 (sN S a4) <|
    lt_ (dI d a4 v1.toNatClampNeg) fun x7 =>
    lt_ (sP S o 32) fun x8 =>
    nn x8 fun a9 =>
    kd S a9 50 <|
    gi v5 (sN S a9) <|
    lt_ (dI d a9 v5.toNatClampNeg) fun x12 =>
    bd (f_R_sameSignature S d o x7 x12) fun x13 =>
    if x13 = 0 then (
      f_R_wrongResults_J144 S d o kx150 kb v1 v2 v3 v4 v5)
    else (
      lt_ (sP S o 14) fun x15 =>
      lt_ (sP S o 32) fun x16 =>
      nn x16 fun a17 =>
      kd S a17 50 <|
      gi v5 (sN S a17) <|
      lt_ (dI d a17 v5.toNatClampNeg) fun x20 =>
      nn x15 fun a21 =>
      kd S a21 50 <|
      gi x20 (sN S a21) <|
      lt_ (dI d a21 x20.toNatClampNeg) fun x24 =>
      if v5 = v1 then (
        f_R_wrongResults_J62 S d o kx150 kb v1 v2 v3 v4 v5 x24)
      else (
        f_R_wrongResults_J62 S d o kx150 kb v1 (v2 + 1) v3 v4 v5 x24)))
set_option maxRecDepth 100000 in
set_option maxHeartbeats 4000000 in
theorem w_R_wrongResults_B10 {X : GX} (hE : gE X b_R_wrongResults 9 "StandInMillModel" (some (.boolean)) "wrongResults" 3 67) {S : gS} {d : gD} {o : Nat} {r : Int32} {kb : Int32 → Int32 → Int32 → Int32 → Int32 → Option (Int32)} {kx150 : Int32 → Int32 → Int32 → Option (Int32)} (hkb : ∀ (v1 : Int32) (v2 : Int32) (v3 : Int32) (v4 : Int32) (v5 : Int32), kb v1 v2 v3 v4 v5 = some r → gw X 0 0 (gQ X (some (.int r)) S d 0 0) S d 10 [some (va_rf (some o)), some (.int v1), some (.int v2), some (.int v3), some (.int v4), some (.int v5), none, none, none] []) (hkx150 : ∀ (v2 : Int32) (v3 : Int32) (v4 : Int32), kx150 v2 v3 v4 = some r → gw X 0 0 (gQ X (some (.int r)) S d 0 0) S d 150 [some (va_rf (some o)), none, some (.int v2), some (.int v3), some (.int v4), none, none, none, none] []) :
    ∀ (v1 : Int32) (v2 : Int32) (v3 : Int32) (v4 : Int32) (v5 : Int32), f_R_wrongResults_B10 S d o kx150 kb v1 v2 v3 v4 v5 = some r → gw X 0 0 (gQ X (some (.int r)) S d 0 0) S d 10 [some (va_rf (some o)), some (.int v1), some (.int v2), some (.int v3), some (.int v4), some (.int v5), none, none, none] [] := by
  intro v1 v2 v3 v4 v5 h
  unfold f_R_wrongResults_B10 at h
  refine g_iload (i := 5) hE d_R_wrongResults_10 rfl ?_
  refine g_aload_n (i := 0) hE d_R_wrongResults_12 rfl rfl ?_
  obtain ⟨k1, h⟩ := kd_s h
  refine g_getI 31 hE kc_R k1 (Nat.le_of_ble_eq_true rfl) rfl m_408 d_R_wrongResults_13 (fun x2 e => ?_)
  replace h := lt_i e h; clear e
  refine g_icmp_ge hE d_R_wrongResults_16 (fun c27 => ?_) (fun c27 => ?_)
  · replace h := if_t c27 h
    exact gw.less (lv' := [some (va_rf (some o)), none, some (.int v2), some (.int v3), some (.int v4), none, none, none, none]) (And.intro rfl (And.intro rfl (And.intro rfl (And.intro rfl trivial)))) (hkx150 v2 v3 v4 h)
  · replace h := if_f c27 h
    refine g_aload_n (i := 0) hE d_R_wrongResults_19 rfl rfl ?_
    refine g_aload_n (i := 0) hE d_R_wrongResults_20 rfl rfl ?_
    refine g_getR 32 hE kc_R k1 (Nat.le_of_ble_eq_true rfl) rfl m_409 d_R_wrongResults_21 (fun x3 e => ?_)
    replace h := lt_i e h; clear e
    refine g_iload_n (i := 1) hE d_R_wrongResults_24 rfl rfl ?_
    obtain ⟨a4, rfl, h⟩ := nn_s h
    obtain ⟨k5, h⟩ := kd_s h
    obtain ⟨g6, h⟩ := gi_s h
    refine g_iald hE k5 g6 d_R_wrongResults_25 (fun x7 e => ?_)
    replace h := lt_i e h; clear e
    refine g_aload_n (i := 0) hE d_R_wrongResults_26 rfl rfl ?_
    refine g_getR 32 hE kc_R k1 (Nat.le_of_ble_eq_true rfl) rfl m_409 d_R_wrongResults_27 (fun x8 e => ?_)
    replace h := lt_i e h; clear e
    refine g_iload (i := 5) hE d_R_wrongResults_30 rfl ?_
    obtain ⟨a9, rfl, h⟩ := nn_s h
    obtain ⟨k10, h⟩ := kd_s h
    obtain ⟨g11, h⟩ := gi_s h
    refine g_iald hE k10 g11 d_R_wrongResults_32 (fun x12 e => ?_)
    replace h := lt_i e h; clear e
    obtain ⟨x13, e14, h⟩ := bd_s h
    refine g_callV (av := [.inr (.inr (some o)), .inl x7, .inl x12]) (as := [.inl x7, .inl x12]) (stk := [.int x13]) [] hE (c_R_sameSignature (xl X) (xG X) e14) ky_R_sameSignature ⟨Nat.le_of_ble_eq_true rfl, Nat.le_of_ble_eq_true rfl⟩ rfl kc_R k1 m_444 m_445 m_446 rfl d_R_wrongResults_33 rfl rfl ct_0 (Nat.zero_le _) (Nat.zero_le _) ?_
    refine gw.cs (c2 := 0) (s2 := 0) rfl rfl ?_
    refine g_if_eq hE d_R_wrongResults_36 (fun c26 => ?_) (fun c26 => ?_)
    · replace h := if_t c26 h
      exact gw.less (lv' := [some (va_rf (some o)), some (.int v1), some (.int v2), some (.int v3), some (.int v4), some (.int v5), none, none, none]) (And.intro rfl (And.intro rfl (And.intro rfl (And.intro rfl (And.intro rfl (And.intro rfl trivial)))))) (w_R_wrongResults_J144 hE hkb hkx150 v1 v2 v3 v4 v5 h)
    · replace h := if_f c26 h
      refine g_aload_n (i := 0) hE d_R_wrongResults_39 rfl rfl ?_
      refine g_getR 14 hE kc_R k1 (Nat.le_of_ble_eq_true rfl) rfl m_391 d_R_wrongResults_40 (fun x15 e => ?_)
      replace h := lt_i e h; clear e
      refine g_aload_n (i := 0) hE d_R_wrongResults_43 rfl rfl ?_
      refine g_getR 32 hE kc_R k1 (Nat.le_of_ble_eq_true rfl) rfl m_409 d_R_wrongResults_44 (fun x16 e => ?_)
      replace h := lt_i e h; clear e
      refine g_iload (i := 5) hE d_R_wrongResults_47 rfl ?_
      obtain ⟨a17, rfl, h⟩ := nn_s h
      obtain ⟨k18, h⟩ := kd_s h
      obtain ⟨g19, h⟩ := gi_s h
      refine g_iald hE k18 g19 d_R_wrongResults_49 (fun x20 e => ?_)
      replace h := lt_i e h; clear e
      obtain ⟨a21, rfl, h⟩ := nn_s h
      obtain ⟨k22, h⟩ := kd_s h
      obtain ⟨g23, h⟩ := gi_s h
      refine g_iald hE k22 g23 d_R_wrongResults_50 (fun x24 e => ?_)
      replace h := lt_i e h; clear e
      refine g_istore (i := 6) (lv' := [some (va_rf (some o)), some (.int v1), some (.int v2), some (.int v3), some (.int v4), some (.int v5), some (.int x24), none, none]) hE d_R_wrongResults_51 (Nat.le_of_ble_eq_true rfl) ⟨rfl, Nat.le_of_ble_eq_true rfl⟩ (lvp_i rfl) ?_
      refine g_iload (i := 5) hE d_R_wrongResults_53 rfl ?_
      refine g_iload_n (i := 1) hE d_R_wrongResults_55 rfl rfl ?_
      refine g_icmp_eq hE d_R_wrongResults_56 (fun c25 => ?_) (fun c25 => ?_)
      · replace h := if_t c25 h
        exact gw.less (lv' := [some (va_rf (some o)), some (.int v1), some (.int v2), some (.int v3), some (.int v4), some (.int v5), some (.int x24), none, none]) (And.intro rfl (And.intro rfl (And.intro rfl (And.intro rfl (And.intro rfl (And.intro rfl (And.intro rfl trivial))))))) (w_R_wrongResults_J62 hE hkb hkx150 v1 v2 v3 v4 v5 x24 h)
      · replace h := if_f c25 h
        refine g_iinc (i := 2) (lv' := [some (va_rf (some o)), some (.int v1), some (.int (v2 + 1)), some (.int v3), some (.int v4), some (.int v5), some (.int x24), none, none]) hE d_R_wrongResults_59 ki_1 rfl (Nat.le_of_ble_eq_true rfl) ⟨rfl, Nat.le_of_ble_eq_true rfl⟩ (lvp_i rfl) ?_
        exact gw.less (lv' := [some (va_rf (some o)), some (.int v1), some (.int (v2 + 1)), some (.int v3), some (.int v4), some (.int v5), some (.int x24), none, none]) (And.intro rfl (And.intro rfl (And.intro rfl (And.intro rfl (And.intro rfl (And.intro rfl (And.intro rfl trivial))))))) (w_R_wrongResults_J62 hE hkb hkx150 v1 (v2 + 1) v3 v4 v5 x24 h)
theorem w_R_wrongResults_L10 {X : GX} (hE : gE X b_R_wrongResults 9 "StandInMillModel" (some (.boolean)) "wrongResults" 3 67) {S : gS} {d : gD} {o : Nat} {r : Int32} {kx150 : Int32 → Int32 → Int32 → Option (Int32)} (hkx150 : ∀ (v2 : Int32) (v3 : Int32) (v4 : Int32), kx150 v2 v3 v4 = some r → gw X 0 0 (gQ X (some (.int r)) S d 0 0) S d 150 [some (va_rf (some o)), none, some (.int v2), some (.int v3), some (.int v4), none, none, none, none] []) : ∀ (n : Nat) (v1 : Int32) (v2 : Int32) (v3 : Int32) (v4 : Int32) (v5 : Int32), itr (f_R_wrongResults_B10 S d o kx150) (fun _ _ _ _ _ => none) n v1 v2 v3 v4 v5 = some r → gw X 0 0 (gQ X (some (.int r)) S d 0 0) S d 10 [some (va_rf (some o)), some (.int v1), some (.int v2), some (.int v3), some (.int v4), some (.int v5), none, none, none] [] := by
  intro n
  induction n with
  | zero => intro v1 v2 v3 v4 v5 h; cases h
  | succ n ih => exact w_R_wrongResults_B10 hE ih hkx150
def f_R_wrongResults_J163 (S : gS) (d : gD) (o : Nat) : Option (Int32) :=
  some 1
set_option maxRecDepth 100000 in
set_option maxHeartbeats 4000000 in
theorem w_R_wrongResults_J163 {X : GX} (hE : gE X b_R_wrongResults 9 "StandInMillModel" (some (.boolean)) "wrongResults" 3 67) {S : gS} {d : gD} {o : Nat} {r : Int32} :
    ∀ (_ : Unit), f_R_wrongResults_J163 S d o = some r → gw X 0 0 (gQ X (some (.int r)) S d 0 0) S d 163 [some (va_rf (some o)), none, none, none, none, none, none, none, none] [] := by
  intro _ h
  unfold f_R_wrongResults_J163 at h
  refine g_iconst hE d_R_wrongResults_163 ki_1 ?_
  refine g_goto hE d_R_wrongResults_164 ?_
  cases h
  exact g_zret hE (Or.inr rfl) d_R_wrongResults_168 rfl rfl
def f_R_wrongResults_J150 (S : gS) (d : gD) (o : Nat) (v2 : Int32) (v3 : Int32) (v4 : Int32) : Option (Int32) :=
  if v2 ≤ 0 then (
    some 0)
  else (
    if v3 = 0 then (
      if v4 = 0 then (
        f_R_wrongResults_J163 S d o)
      else (
        some 0))
    else (
      f_R_wrongResults_J163 S d o))
set_option maxRecDepth 100000 in
set_option maxHeartbeats 4000000 in
theorem w_R_wrongResults_J150 {X : GX} (hE : gE X b_R_wrongResults 9 "StandInMillModel" (some (.boolean)) "wrongResults" 3 67) {S : gS} {d : gD} {o : Nat} {r : Int32} :
    ∀ (v2 : Int32) (v3 : Int32) (v4 : Int32), f_R_wrongResults_J150 S d o v2 v3 v4 = some r → gw X 0 0 (gQ X (some (.int r)) S d 0 0) S d 150 [some (va_rf (some o)), none, some (.int v2), some (.int v3), some (.int v4), none, none, none, none] [] := by
  intro v2 v3 v4 h
  unfold f_R_wrongResults_J150 at h
  refine g_iload_n (i := 2) hE d_R_wrongResults_150 rfl rfl ?_
  refine g_if_le hE d_R_wrongResults_151 (fun c3 => ?_) (fun c3 => ?_)
  · replace h := if_t c3 h
    refine g_iconst hE d_R_wrongResults_167 ki_0 ?_
    cases h
    exact g_zret hE (Or.inl rfl) d_R_wrongResults_168 rfl rfl
  · replace h := if_f c3 h
    refine g_iload_n (i := 3) hE d_R_wrongResults_154 rfl rfl ?_
    refine g_if_ne hE d_R_wrongResults_155 (fun c2 => ?_) (fun c2 => ?_)
    · replace h := if_f c2 h
      exact gw.less (lv' := [some (va_rf (some o)), none, none, none, none, none, none, none, none]) (And.intro rfl trivial) (w_R_wrongResults_J163 hE () h)
    · replace h := if_t c2 h
      refine g_iload (i := 4) hE d_R_wrongResults_158 rfl ?_
      refine g_if_ne hE d_R_wrongResults_160 (fun c1 => ?_) (fun c1 => ?_)
      · replace h := if_f c1 h
        refine g_iconst hE d_R_wrongResults_167 ki_0 ?_
        cases h
        exact g_zret hE (Or.inl rfl) d_R_wrongResults_168 rfl rfl
      · replace h := if_t c1 h
        exact gw.less (lv' := [some (va_rf (some o)), none, none, none, none, none, none, none, none]) (And.intro rfl trivial) (w_R_wrongResults_J163 hE () h)
set_option maxRecDepth 100000 in
def f_R_wrongResults (S : gS) (d : gD) (o : Nat) (v1 : Int32) : Option (Int32) :=
  itr (f_R_wrongResults_B10 S d o (f_R_wrongResults_J150 S d o)) (fun _ _ _ _ _ => none) fu v1 0 0 0 0
set_option maxRecDepth 100000 in
set_option maxHeartbeats 4000000 in
theorem c_R_wrongResults (l : Launch) (G : gG) {S : gS} {d : gD} {o : Nat} {v1 : Int32} {r : Int32} (h : f_R_wrongResults S d o v1 = some r) : GM l G y_R_wrongResults b_R_wrongResults 9 (some (.boolean)) 3 67 0 0 [.inr (.inr (some o)), .inl v1] S d (some (.int r)) S d := by
  refine GM.of (by decide) (Nat.le_of_ble_eq_true rfl) ?_
  intro X hl0 hG0 hR0 hE0
  have hE : gE X b_R_wrongResults 9 "StandInMillModel" (some (.boolean)) "wrongResults" 3 67 := hE0
  unfold f_R_wrongResults at h
  refine gw.less (lv' := [some (va_rf (some o)), some (.int v1), none, none, none, none, none, none, none]) (And.intro rfl (And.intro rfl trivial)) ?_
  refine g_iconst hE d_R_wrongResults_0 ki_0 ?_
  refine g_istore_n (i := 2) (lv' := [some (va_rf (some o)), some (.int v1), some (.int 0), none, none, none, none, none, none]) hE d_R_wrongResults_1 rfl (Nat.le_of_ble_eq_true rfl) ⟨rfl, Nat.le_of_ble_eq_true rfl⟩ (lvp_i rfl) ?_
  refine g_iconst hE d_R_wrongResults_2 ki_0 ?_
  refine g_istore_n (i := 3) (lv' := [some (va_rf (some o)), some (.int v1), some (.int 0), some (.int 0), none, none, none, none, none]) hE d_R_wrongResults_3 rfl (Nat.le_of_ble_eq_true rfl) ⟨rfl, Nat.le_of_ble_eq_true rfl⟩ (lvp_i rfl) ?_
  refine g_iconst hE d_R_wrongResults_4 ki_0 ?_
  refine g_istore (i := 4) (lv' := [some (va_rf (some o)), some (.int v1), some (.int 0), some (.int 0), some (.int 0), none, none, none, none]) hE d_R_wrongResults_5 (Nat.le_of_ble_eq_true rfl) ⟨rfl, Nat.le_of_ble_eq_true rfl⟩ (lvp_i rfl) ?_
  refine g_iconst hE d_R_wrongResults_7 ki_0 ?_
  refine g_istore (i := 5) (lv' := [some (va_rf (some o)), some (.int v1), some (.int 0), some (.int 0), some (.int 0), some (.int 0), none, none, none]) hE d_R_wrongResults_8 (Nat.le_of_ble_eq_true rfl) ⟨rfl, Nat.le_of_ble_eq_true rfl⟩ (lvp_i rfl) ?_
  exact gw.less (lv' := [some (va_rf (some o)), some (.int v1), some (.int 0), some (.int 0), some (.int 0), some (.int 0), none, none, none]) (And.intro rfl (And.intro rfl (And.intro rfl (And.intro rfl (And.intro rfl (And.intro rfl trivial)))))) (w_R_wrongResults_L10 hE (w_R_wrongResults_J150 hE) fu v1 0 0 0 0 h)
