theorem d_R_unit_0 : dc b_R_unit 0 (.aload_n 0) 1 1 := ⟨by decide +kernel, rfl⟩
theorem d_R_unit_1 : dc b_R_unit 1 (.aload_n 0) 1 2 := ⟨by decide +kernel, rfl⟩
theorem d_R_unit_2 : dc b_R_unit 2 (.getfield 82) 3 5 := ⟨by decide +kernel, rfl⟩
theorem d_R_unit_5 : dc b_R_unit 5 (.iload_n 1) 1 6 := ⟨by decide +kernel, rfl⟩
theorem d_R_unit_6 : dc b_R_unit 6 (.iaload) 1 7 := ⟨by decide +kernel, rfl⟩
theorem d_R_unit_7 : dc b_R_unit 7 (.invokevirtual 204) 3 10 := ⟨by decide +kernel, rfl⟩
theorem d_R_unit_10 : dc b_R_unit 10 (.aload_n 0) 1 11 := ⟨by decide +kernel, rfl⟩
theorem d_R_unit_11 : dc b_R_unit 11 (.iconst 0) 1 12 := ⟨by decide +kernel, rfl⟩
theorem d_R_unit_12 : dc b_R_unit 12 (.putfield 133) 3 15 := ⟨by decide +kernel, rfl⟩
theorem d_R_unit_15 : dc b_R_unit 15 (.aload_n 0) 1 16 := ⟨by decide +kernel, rfl⟩
theorem d_R_unit_16 : dc b_R_unit 16 (.iconst 0) 1 17 := ⟨by decide +kernel, rfl⟩
theorem d_R_unit_17 : dc b_R_unit 17 (.putfield 139) 3 20 := ⟨by decide +kernel, rfl⟩
theorem d_R_unit_20 : dc b_R_unit 20 (.aload_n 0) 1 21 := ⟨by decide +kernel, rfl⟩
theorem d_R_unit_21 : dc b_R_unit 21 (.aload_n 0) 1 22 := ⟨by decide +kernel, rfl⟩
theorem d_R_unit_22 : dc b_R_unit 22 (.getfield 85) 3 25 := ⟨by decide +kernel, rfl⟩
theorem d_R_unit_25 : dc b_R_unit 25 (.iload_n 1) 1 26 := ⟨by decide +kernel, rfl⟩
theorem d_R_unit_26 : dc b_R_unit 26 (.iaload) 1 27 := ⟨by decide +kernel, rfl⟩
theorem d_R_unit_27 : dc b_R_unit 27 (.invokevirtual 210) 3 30 := ⟨by decide +kernel, rfl⟩
theorem d_R_unit_30 : dc b_R_unit 30 (.aload_n 0) 1 31 := ⟨by decide +kernel, rfl⟩
theorem d_R_unit_31 : dc b_R_unit 31 (.aload_n 0) 1 32 := ⟨by decide +kernel, rfl⟩
theorem d_R_unit_32 : dc b_R_unit 32 (.getfield 88) 3 35 := ⟨by decide +kernel, rfl⟩
theorem d_R_unit_35 : dc b_R_unit 35 (.iload_n 1) 1 36 := ⟨by decide +kernel, rfl⟩
theorem d_R_unit_36 : dc b_R_unit 36 (.iaload) 1 37 := ⟨by decide +kernel, rfl⟩
theorem d_R_unit_37 : dc b_R_unit 37 (.invokevirtual 210) 3 40 := ⟨by decide +kernel, rfl⟩
theorem d_R_unit_40 : dc b_R_unit 40 (.aload_n 0) 1 41 := ⟨by decide +kernel, rfl⟩
theorem d_R_unit_41 : dc b_R_unit 41 (.getfield 82) 3 44 := ⟨by decide +kernel, rfl⟩
theorem d_R_unit_44 : dc b_R_unit 44 (.iload_n 1) 1 45 := ⟨by decide +kernel, rfl⟩
theorem d_R_unit_45 : dc b_R_unit 45 (.iaload) 1 46 := ⟨by decide +kernel, rfl⟩
theorem d_R_unit_46 : dc b_R_unit 46 (.istore_n 2) 1 47 := ⟨by decide +kernel, rfl⟩
theorem d_R_unit_47 : dc b_R_unit 47 (.iconst 0) 1 48 := ⟨by decide +kernel, rfl⟩
theorem d_R_unit_48 : dc b_R_unit 48 (.istore_n 3) 1 49 := ⟨by decide +kernel, rfl⟩
theorem d_R_unit_49 : dc b_R_unit 49 (.iload_n 3) 1 50 := ⟨by decide +kernel, rfl⟩
theorem d_R_unit_50 : dc b_R_unit 50 (.iconst 4) 1 51 := ⟨by decide +kernel, rfl⟩
theorem d_R_unit_51 : db b_R_unit 51 (.if_icmp .ge 22) 22 73 54 := ⟨by decide +kernel, by decide, rfl⟩
theorem d_R_unit_54 : dc b_R_unit 54 (.iload_n 2) 1 55 := ⟨by decide +kernel, rfl⟩
theorem d_R_unit_55 : dc b_R_unit 55 (.bipush 8) 2 57 := ⟨by decide +kernel, rfl⟩
theorem d_R_unit_57 : dc b_R_unit 57 (.iload_n 3) 1 58 := ⟨by decide +kernel, rfl⟩
theorem d_R_unit_58 : dc b_R_unit 58 (.imul) 1 59 := ⟨by decide +kernel, rfl⟩
theorem d_R_unit_59 : dc b_R_unit 59 (.ishr) 1 60 := ⟨by decide +kernel, rfl⟩
theorem d_R_unit_60 : dc b_R_unit 60 (.sipush 255) 3 63 := ⟨by decide +kernel, rfl⟩
theorem d_R_unit_63 : dc b_R_unit 63 (.iand) 1 64 := ⟨by decide +kernel, rfl⟩
theorem d_R_unit_64 : db b_R_unit 64 (.ifCond .eq 9) 9 73 67 := ⟨by decide +kernel, by decide, rfl⟩
theorem d_R_unit_67 : dc b_R_unit 67 (.iinc 3 1) 3 70 := ⟨by decide +kernel, rfl⟩
theorem d_R_unit_70 : db b_R_unit 70 (.goto (-21)) (-21) 49 73 := ⟨by decide +kernel, by decide, rfl⟩
theorem d_R_unit_73 : dc b_R_unit 73 (.aload_n 0) 1 74 := ⟨by decide +kernel, rfl⟩
theorem d_R_unit_74 : dc b_R_unit 74 (.iload_n 3) 1 75 := ⟨by decide +kernel, rfl⟩
theorem d_R_unit_75 : dc b_R_unit 75 (.invokevirtual 210) 3 78 := ⟨by decide +kernel, rfl⟩
theorem d_R_unit_78 : dc b_R_unit 78 (.iconst 0) 1 79 := ⟨by decide +kernel, rfl⟩
theorem d_R_unit_79 : dc b_R_unit 79 (.istore 4) 2 81 := ⟨by decide +kernel, rfl⟩
theorem d_R_unit_81 : dc b_R_unit 81 (.iload 4) 2 83 := ⟨by decide +kernel, rfl⟩
theorem d_R_unit_83 : dc b_R_unit 83 (.iload_n 3) 1 84 := ⟨by decide +kernel, rfl⟩
theorem d_R_unit_84 : db b_R_unit 84 (.if_icmp .ge 30) 30 114 87 := ⟨by decide +kernel, by decide, rfl⟩
theorem d_R_unit_87 : dc b_R_unit 87 (.aload_n 0) 1 88 := ⟨by decide +kernel, rfl⟩
theorem d_R_unit_88 : dc b_R_unit 88 (.aload_n 0) 1 89 := ⟨by decide +kernel, rfl⟩
theorem d_R_unit_89 : dc b_R_unit 89 (.iconst 1) 1 90 := ⟨by decide +kernel, rfl⟩
theorem d_R_unit_90 : dc b_R_unit 90 (.iload_n 2) 1 91 := ⟨by decide +kernel, rfl⟩
theorem d_R_unit_91 : dc b_R_unit 91 (.bipush 8) 2 93 := ⟨by decide +kernel, rfl⟩
theorem d_R_unit_93 : dc b_R_unit 93 (.iload 4) 2 95 := ⟨by decide +kernel, rfl⟩
theorem d_R_unit_95 : dc b_R_unit 95 (.imul) 1 96 := ⟨by decide +kernel, rfl⟩
theorem d_R_unit_96 : dc b_R_unit 96 (.ishr) 1 97 := ⟨by decide +kernel, rfl⟩
theorem d_R_unit_97 : dc b_R_unit 97 (.sipush 255) 3 100 := ⟨by decide +kernel, rfl⟩
theorem d_R_unit_100 : dc b_R_unit 100 (.iand) 1 101 := ⟨by decide +kernel, rfl⟩
theorem d_R_unit_101 : dc b_R_unit 101 (.iconst 0) 1 102 := ⟨by decide +kernel, rfl⟩
theorem d_R_unit_102 : dc b_R_unit 102 (.invokevirtual 220) 3 105 := ⟨by decide +kernel, rfl⟩
theorem d_R_unit_105 : dc b_R_unit 105 (.invokevirtual 210) 3 108 := ⟨by decide +kernel, rfl⟩
theorem d_R_unit_108 : dc b_R_unit 108 (.iinc 4 1) 3 111 := ⟨by decide +kernel, rfl⟩
theorem d_R_unit_111 : db b_R_unit 111 (.goto (-30)) (-30) 81 114 := ⟨by decide +kernel, by decide, rfl⟩
theorem d_R_unit_114 : dc b_R_unit 114 (.aload_n 0) 1 115 := ⟨by decide +kernel, rfl⟩
theorem d_R_unit_115 : dc b_R_unit 115 (.aload_n 0) 1 116 := ⟨by decide +kernel, rfl⟩
theorem d_R_unit_116 : dc b_R_unit 116 (.getfield 106) 3 119 := ⟨by decide +kernel, rfl⟩
theorem d_R_unit_119 : dc b_R_unit 119 (.invokevirtual 210) 3 122 := ⟨by decide +kernel, rfl⟩
theorem d_R_unit_122 : dc b_R_unit 122 (.iconst 0) 1 123 := ⟨by decide +kernel, rfl⟩
theorem d_R_unit_123 : dc b_R_unit 123 (.istore 4) 2 125 := ⟨by decide +kernel, rfl⟩
theorem d_R_unit_125 : dc b_R_unit 125 (.iload 4) 2 127 := ⟨by decide +kernel, rfl⟩
theorem d_R_unit_127 : dc b_R_unit 127 (.aload_n 0) 1 128 := ⟨by decide +kernel, rfl⟩
theorem d_R_unit_128 : dc b_R_unit 128 (.getfield 106) 3 131 := ⟨by decide +kernel, rfl⟩
theorem d_R_unit_131 : db b_R_unit 131 (.if_icmp .ge 20) 20 151 134 := ⟨by decide +kernel, by decide, rfl⟩
theorem d_R_unit_134 : dc b_R_unit 134 (.aload_n 0) 1 135 := ⟨by decide +kernel, rfl⟩
theorem d_R_unit_135 : dc b_R_unit 135 (.aload_n 0) 1 136 := ⟨by decide +kernel, rfl⟩
theorem d_R_unit_136 : dc b_R_unit 136 (.getfield 121) 3 139 := ⟨by decide +kernel, rfl⟩
theorem d_R_unit_139 : dc b_R_unit 139 (.iload 4) 2 141 := ⟨by decide +kernel, rfl⟩
theorem d_R_unit_141 : dc b_R_unit 141 (.iaload) 1 142 := ⟨by decide +kernel, rfl⟩
theorem d_R_unit_142 : dc b_R_unit 142 (.invokevirtual 232) 3 145 := ⟨by decide +kernel, rfl⟩
theorem d_R_unit_145 : dc b_R_unit 145 (.iinc 4 1) 3 148 := ⟨by decide +kernel, rfl⟩
theorem d_R_unit_148 : db b_R_unit 148 (.goto (-23)) (-23) 125 151 := ⟨by decide +kernel, by decide, rfl⟩
theorem d_R_unit_151 : dc b_R_unit 151 (.return_) 1 152 := ⟨by decide +kernel, rfl⟩
def f_R_unit_B49 (S : gS) (o : Nat) (kx73 : gD → Int32 → Int32 → Option (Unit × gD)) (kb : gD → Int32 → Int32 → Option (Unit × gD)) (d : gD) (v2 : Int32) (v3 : Int32) : Option (Unit × gD) :=
  if 4 ≤ v3 then (
    kx73 d v2 v3)
  else (
    if ((v2 >>> ((8 * v3) &&& 31)) &&& 255) = 0 then (
      kx73 d v2 v3)
    else (
      kb d v2 (v3 + 1)))
set_option maxRecDepth 100000 in
set_option maxHeartbeats 4000000 in
theorem w_R_unit_B49 {X : GX} (hE : gE X b_R_unit 5 "StandInMillModel" none "unit" 6 145) {S : gS} {o : Nat} {r : Unit} {d' : gD} {kb : gD → Int32 → Int32 → Option (Unit × gD)} {kx73 : gD → Int32 → Int32 → Option (Unit × gD)} (hkb : ∀ (d : gD) (v2 : Int32) (v3 : Int32), kb d v2 v3 = some (r, d') → gw X 0 0 (gQ X (none) S d' 0 0) S d 49 [some (va_rf (some o)), none, some (.int v2), some (.int v3), none] []) (hkx73 : ∀ (d : gD) (v2 : Int32) (v3 : Int32), kx73 d v2 v3 = some (r, d') → gw X 0 0 (gQ X (none) S d' 0 0) S d 73 [some (va_rf (some o)), none, some (.int v2), some (.int v3), none] []) :
    ∀ (d : gD) (v2 : Int32) (v3 : Int32), f_R_unit_B49 S o kx73 kb d v2 v3 = some (r, d') → gw X 0 0 (gQ X (none) S d' 0 0) S d 49 [some (va_rf (some o)), none, some (.int v2), some (.int v3), none] [] := by
  intro d v2 v3 h
  unfold f_R_unit_B49 at h
  refine g_iload_n (i := 3) hE d_R_unit_49 rfl rfl ?_
  refine g_iconst hE d_R_unit_50 ki_4 ?_
  refine g_icmp_ge hE d_R_unit_51 (fun c2 => ?_) (fun c2 => ?_)
  · replace h := if_t c2 h
    exact gw.less (lv' := [some (va_rf (some o)), none, some (.int v2), some (.int v3), none]) (And.intro rfl (And.intro rfl (And.intro rfl trivial))) (hkx73 d v2 v3 h)
  · replace h := if_f c2 h
    refine g_iload_n (i := 2) hE d_R_unit_54 rfl rfl ?_
    refine g_bipush hE d_R_unit_55 kb_8 ?_
    refine g_iload_n (i := 3) hE d_R_unit_57 rfl rfl ?_
    refine g_imul hE d_R_unit_58 ?_
    refine g_ishr hE d_R_unit_59 ?_
    refine g_sipush hE d_R_unit_60 ks_255 ?_
    refine g_iand hE d_R_unit_63 ?_
    refine g_if_eq hE d_R_unit_64 (fun c1 => ?_) (fun c1 => ?_)
    · replace h := if_t c1 h
      exact gw.less (lv' := [some (va_rf (some o)), none, some (.int v2), some (.int v3), none]) (And.intro rfl (And.intro rfl (And.intro rfl trivial))) (hkx73 d v2 v3 h)
    · replace h := if_f c1 h
      refine g_iinc (i := 3) (lv' := [some (va_rf (some o)), none, some (.int v2), some (.int (v3 + 1)), none]) hE d_R_unit_67 ki_1 rfl (Nat.le_of_ble_eq_true rfl) ⟨rfl, Nat.le_of_ble_eq_true rfl⟩ (lvp_i rfl) ?_
      refine g_goto hE d_R_unit_70 ?_
      exact gw.less (lv' := [some (va_rf (some o)), none, some (.int v2), some (.int (v3 + 1)), none]) (And.intro rfl (And.intro rfl (And.intro rfl trivial))) (hkb d v2 (v3 + 1) h)
theorem w_R_unit_L49 {X : GX} (hE : gE X b_R_unit 5 "StandInMillModel" none "unit" 6 145) {S : gS} {o : Nat} {r : Unit} {d' : gD} {kx73 : gD → Int32 → Int32 → Option (Unit × gD)} (hkx73 : ∀ (d : gD) (v2 : Int32) (v3 : Int32), kx73 d v2 v3 = some (r, d') → gw X 0 0 (gQ X (none) S d' 0 0) S d 73 [some (va_rf (some o)), none, some (.int v2), some (.int v3), none] []) : ∀ (n : Nat) (d : gD) (v2 : Int32) (v3 : Int32), itr (f_R_unit_B49 S o kx73) (fun _ _ _ => none) n d v2 v3 = some (r, d') → gw X 0 0 (gQ X (none) S d' 0 0) S d 49 [some (va_rf (some o)), none, some (.int v2), some (.int v3), none] [] := by
  intro n
  induction n with
  | zero => intro d v2 v3 h; cases h
  | succ n ih => exact w_R_unit_B49 hE ih hkx73
def f_R_unit_B81 (S : gS) (o : Nat) (kx114 : gD → Option (Unit × gD)) (kb : gD → Int32 → Int32 → Int32 → Option (Unit × gD)) (d : gD) (v2 : Int32) (v3 : Int32) (v4 : Int32) : Option (Unit × gD) :=
  if v3 ≤ v4 then (
    kx114 d)
  else (
    kd S o 10 <|
    bdD (f_R_entry S d o 1 ((v2 >>> ((8 * v4) &&& 31)) &&& 255) 0) fun x2 d4 =>
    bdD (f_R_say S d4 o x2) fun _ d7 =>
    kb d7 v2 v3 (v4 + 1))
set_option maxRecDepth 100000 in
set_option maxHeartbeats 4000000 in
theorem w_R_unit_B81 {X : GX} (hE : gE X b_R_unit 5 "StandInMillModel" none "unit" 6 145) {S : gS} {o : Nat} {r : Unit} {d' : gD} {kb : gD → Int32 → Int32 → Int32 → Option (Unit × gD)} {kx114 : gD → Option (Unit × gD)} (hkb : ∀ (d : gD) (v2 : Int32) (v3 : Int32) (v4 : Int32), kb d v2 v3 v4 = some (r, d') → gw X 0 0 (gQ X (none) S d' 0 0) S d 81 [some (va_rf (some o)), none, some (.int v2), some (.int v3), some (.int v4)] []) (hkx114 : ∀ (d : gD), kx114 d = some (r, d') → gw X 0 0 (gQ X (none) S d' 0 0) S d 114 [some (va_rf (some o)), none, none, none, none] []) :
    ∀ (d : gD) (v2 : Int32) (v3 : Int32) (v4 : Int32), f_R_unit_B81 S o kx114 kb d v2 v3 v4 = some (r, d') → gw X 0 0 (gQ X (none) S d' 0 0) S d 81 [some (va_rf (some o)), none, some (.int v2), some (.int v3), some (.int v4)] [] := by
  intro d v2 v3 v4 h
  unfold f_R_unit_B81 at h
  refine g_iload (i := 4) hE d_R_unit_81 rfl ?_
  refine g_iload_n (i := 3) hE d_R_unit_83 rfl rfl ?_
  refine g_icmp_ge hE d_R_unit_84 (fun c8 => ?_) (fun c8 => ?_)
  · replace h := if_t c8 h
    exact gw.less (lv' := [some (va_rf (some o)), none, none, none, none]) (And.intro rfl trivial) (hkx114 d h)
  · replace h := if_f c8 h
    refine g_aload_n (i := 0) hE d_R_unit_87 rfl rfl ?_
    refine g_aload_n (i := 0) hE d_R_unit_88 rfl rfl ?_
    refine g_iconst hE d_R_unit_89 ki_1 ?_
    refine g_iload_n (i := 2) hE d_R_unit_90 rfl rfl ?_
    refine g_bipush hE d_R_unit_91 kb_8 ?_
    refine g_iload (i := 4) hE d_R_unit_93 rfl ?_
    refine g_imul hE d_R_unit_95 ?_
    refine g_ishr hE d_R_unit_96 ?_
    refine g_sipush hE d_R_unit_97 ks_255 ?_
    refine g_iand hE d_R_unit_100 ?_
    refine g_iconst hE d_R_unit_101 ki_0 ?_
    obtain ⟨k1, h⟩ := kd_s h
    obtain ⟨x2, d4, e3, h⟩ := bdD_s h
    refine g_callV (av := [.inr (.inr (some o)), .inl 1, .inl ((v2 >>> ((8 * v4) &&& 31)) &&& 255), .inl 0]) (as := [.inl 1, .inl ((v2 >>> ((8 * v4) &&& 31)) &&& 255), .inl 0]) (stk := [.int x2, va_rf (some o)]) [va_rf (some o)] hE (c_R_entry (xl X) (xG X) e3) ky_R_entry ⟨Nat.le_of_ble_eq_true rfl, Nat.le_of_ble_eq_true rfl⟩ rfl kc_R k1 m_478 m_479 m_480 rfl d_R_unit_102 rfl rfl (Nat.le_trans (ct_r ct_n) (Nat.le_of_ble_eq_true rfl)) (Nat.zero_le _) (Nat.zero_le _) ?_
    refine gw.cs (c2 := 0) (s2 := 0) rfl rfl ?_
    obtain ⟨x5, d7, e6, h⟩ := bdD_s h
    refine g_callV (av := [.inr (.inr (some o)), .inl x2]) (as := [.inl x2]) (stk := []) [] hE (c_R_say (xl X) (xG X) e6) ky_R_say ⟨Nat.le_of_ble_eq_true rfl, Nat.le_of_ble_eq_true rfl⟩ rfl kc_R k1 m_471 m_472 m_473 rfl d_R_unit_105 rfl rfl ct_0 (Nat.zero_le _) (Nat.zero_le _) ?_
    refine gw.cs (c2 := 0) (s2 := 0) rfl rfl ?_
    refine g_iinc (i := 4) (lv' := [some (va_rf (some o)), none, some (.int v2), some (.int v3), some (.int (v4 + 1))]) hE d_R_unit_108 ki_1 rfl (Nat.le_of_ble_eq_true rfl) ⟨rfl, Nat.le_of_ble_eq_true rfl⟩ (lvp_i rfl) ?_
    refine g_goto hE d_R_unit_111 ?_
    exact gw.less (lv' := [some (va_rf (some o)), none, some (.int v2), some (.int v3), some (.int (v4 + 1))]) (And.intro rfl (And.intro rfl (And.intro rfl (And.intro rfl trivial)))) (hkb d7 v2 v3 (v4 + 1) h)
theorem w_R_unit_L81 {X : GX} (hE : gE X b_R_unit 5 "StandInMillModel" none "unit" 6 145) {S : gS} {o : Nat} {r : Unit} {d' : gD} {kx114 : gD → Option (Unit × gD)} (hkx114 : ∀ (d : gD), kx114 d = some (r, d') → gw X 0 0 (gQ X (none) S d' 0 0) S d 114 [some (va_rf (some o)), none, none, none, none] []) : ∀ (n : Nat) (d : gD) (v2 : Int32) (v3 : Int32) (v4 : Int32), itr (f_R_unit_B81 S o kx114) (fun _ _ _ _ => none) n d v2 v3 v4 = some (r, d') → gw X 0 0 (gQ X (none) S d' 0 0) S d 81 [some (va_rf (some o)), none, some (.int v2), some (.int v3), some (.int v4)] [] := by
  intro n
  induction n with
  | zero => intro d v2 v3 v4 h; cases h
  | succ n ih => exact w_R_unit_B81 hE ih hkx114
def f_R_unit_B125 (S : gS) (o : Nat) (kb : gD → Int32 → Option (Unit × gD)) (d : gD) (v4 : Int32) : Option (Unit × gD) :=
  kd S o 10 <|
  lt_ (dI d o 31) fun x2 =>
  if x2 ≤ v4 then (
    some ((), d))
  else (
    lt_ (sP S o 36) fun x3 =>
    nn x3 fun a4 =>
    kd S a4 50 <|
    gi v4 (sN S a4) <|
    lt_ (dI d a4 v4.toNatClampNeg) fun x7 =>
    bdD (f_R_sayMethod S d o x7) fun _ d10 =>
    kb d10 (v4 + 1))
set_option maxRecDepth 100000 in
set_option maxHeartbeats 4000000 in
theorem w_R_unit_B125 {X : GX} (hE : gE X b_R_unit 5 "StandInMillModel" none "unit" 6 145) {S : gS} {o : Nat} {r : Unit} {d' : gD} {kb : gD → Int32 → Option (Unit × gD)} (hkb : ∀ (d : gD) (v4 : Int32), kb d v4 = some (r, d') → gw X 0 0 (gQ X (none) S d' 0 0) S d 125 [some (va_rf (some o)), none, none, none, some (.int v4)] []) :
    ∀ (d : gD) (v4 : Int32), f_R_unit_B125 S o kb d v4 = some (r, d') → gw X 0 0 (gQ X (none) S d' 0 0) S d 125 [some (va_rf (some o)), none, none, none, some (.int v4)] [] := by
  intro d v4 h
  unfold f_R_unit_B125 at h
  refine g_iload (i := 4) hE d_R_unit_125 rfl ?_
  refine g_aload_n (i := 0) hE d_R_unit_127 rfl rfl ?_
  obtain ⟨k1, h⟩ := kd_s h
  refine g_getI 31 hE kc_R k1 (Nat.le_of_ble_eq_true rfl) rfl m_408 d_R_unit_128 (fun x2 e => ?_)
  replace h := lt_i e h; clear e
  refine g_icmp_ge hE d_R_unit_131 (fun c11 => ?_) (fun c11 => ?_)
  · replace h := if_t c11 h
    cases h
    exact g_vret hE d_R_unit_151 rfl rfl
  · replace h := if_f c11 h
    refine g_aload_n (i := 0) hE d_R_unit_134 rfl rfl ?_
    refine g_aload_n (i := 0) hE d_R_unit_135 rfl rfl ?_
    refine g_getR 36 hE kc_R k1 (Nat.le_of_ble_eq_true rfl) rfl m_413 d_R_unit_136 (fun x3 e => ?_)
    replace h := lt_i e h; clear e
    refine g_iload (i := 4) hE d_R_unit_139 rfl ?_
    obtain ⟨a4, rfl, h⟩ := nn_s h
    obtain ⟨k5, h⟩ := kd_s h
    obtain ⟨g6, h⟩ := gi_s h
    refine g_iald hE k5 g6 d_R_unit_141 (fun x7 e => ?_)
    replace h := lt_i e h; clear e
    obtain ⟨x8, d10, e9, h⟩ := bdD_s h
    refine g_callV (av := [.inr (.inr (some o)), .inl x7]) (as := [.inl x7]) (stk := []) [] hE (c_R_sayMethod (xl X) (xG X) e9) ky_R_sayMethod ⟨Nat.le_of_ble_eq_true rfl, Nat.le_of_ble_eq_true rfl⟩ rfl kc_R k1 m_490 m_491 m_492 rfl d_R_unit_142 rfl rfl ct_0 (Nat.zero_le _) (Nat.zero_le _) ?_
    refine gw.cs (c2 := 0) (s2 := 0) rfl rfl ?_
    refine g_iinc (i := 4) (lv' := [some (va_rf (some o)), none, none, none, some (.int (v4 + 1))]) hE d_R_unit_145 ki_1 rfl (Nat.le_of_ble_eq_true rfl) ⟨rfl, Nat.le_of_ble_eq_true rfl⟩ (lvp_n rfl) ?_
    refine g_goto hE d_R_unit_148 ?_
    exact gw.less (lv' := [some (va_rf (some o)), none, none, none, some (.int (v4 + 1))]) (And.intro rfl (And.intro rfl trivial)) (hkb d10 (v4 + 1) h)
theorem w_R_unit_L125 {X : GX} (hE : gE X b_R_unit 5 "StandInMillModel" none "unit" 6 145) {S : gS} {o : Nat} {r : Unit} {d' : gD} : ∀ (n : Nat) (d : gD) (v4 : Int32), itr (f_R_unit_B125 S o) (fun _ _ => none) n d v4 = some (r, d') → gw X 0 0 (gQ X (none) S d' 0 0) S d 125 [some (va_rf (some o)), none, none, none, some (.int v4)] [] := by
  intro n
  induction n with
  | zero => intro d v4 h; cases h
  | succ n ih => exact w_R_unit_B125 hE ih
def f_R_unit_J114 (S : gS) (o : Nat) (d : gD) : Option (Unit × gD) :=
  kd S o 10 <|
  lt_ (dI d o 31) fun x2 =>
  bdD (f_R_say S d o x2) fun _ d5 =>
  itr (f_R_unit_B125 S o) (fun _ _ => none) fu d5 0
set_option maxRecDepth 100000 in
set_option maxHeartbeats 4000000 in
theorem w_R_unit_J114 {X : GX} (hE : gE X b_R_unit 5 "StandInMillModel" none "unit" 6 145) {S : gS} {o : Nat} {r : Unit} {d' : gD} :
    ∀ (d : gD), f_R_unit_J114 S o d = some (r, d') → gw X 0 0 (gQ X (none) S d' 0 0) S d 114 [some (va_rf (some o)), none, none, none, none] [] := by
  intro d h
  unfold f_R_unit_J114 at h
  refine g_aload_n (i := 0) hE d_R_unit_114 rfl rfl ?_
  refine g_aload_n (i := 0) hE d_R_unit_115 rfl rfl ?_
  obtain ⟨k1, h⟩ := kd_s h
  refine g_getI 31 hE kc_R k1 (Nat.le_of_ble_eq_true rfl) rfl m_408 d_R_unit_116 (fun x2 e => ?_)
  replace h := lt_i e h; clear e
  obtain ⟨x3, d5, e4, h⟩ := bdD_s h
  refine g_callV (av := [.inr (.inr (some o)), .inl x2]) (as := [.inl x2]) (stk := []) [] hE (c_R_say (xl X) (xG X) e4) ky_R_say ⟨Nat.le_of_ble_eq_true rfl, Nat.le_of_ble_eq_true rfl⟩ rfl kc_R k1 m_471 m_472 m_473 rfl d_R_unit_119 rfl rfl ct_0 (Nat.zero_le _) (Nat.zero_le _) ?_
  refine gw.cs (c2 := 0) (s2 := 0) rfl rfl ?_
  refine g_iconst hE d_R_unit_122 ki_0 ?_
  refine g_istore (i := 4) (lv' := [some (va_rf (some o)), none, none, none, some (.int 0)]) hE d_R_unit_123 (Nat.le_of_ble_eq_true rfl) ⟨rfl, Nat.le_of_ble_eq_true rfl⟩ (lvp_n rfl) ?_
  exact gw.less (lv' := [some (va_rf (some o)), none, none, none, some (.int 0)]) (And.intro rfl (And.intro rfl trivial)) (w_R_unit_L125 hE fu d5 0 h)
def f_R_unit_J73 (S : gS) (o : Nat) (d : gD) (v2 : Int32) (v3 : Int32) : Option (Unit × gD) :=
  kd S o 10 <|
  bdD (f_R_say S d o v3) fun _ d4 =>
  itr (f_R_unit_B81 S o (f_R_unit_J114 S o)) (fun _ _ _ _ => none) fu d4 v2 v3 0
set_option maxRecDepth 100000 in
set_option maxHeartbeats 4000000 in
theorem w_R_unit_J73 {X : GX} (hE : gE X b_R_unit 5 "StandInMillModel" none "unit" 6 145) {S : gS} {o : Nat} {r : Unit} {d' : gD} :
    ∀ (d : gD) (v2 : Int32) (v3 : Int32), f_R_unit_J73 S o d v2 v3 = some (r, d') → gw X 0 0 (gQ X (none) S d' 0 0) S d 73 [some (va_rf (some o)), none, some (.int v2), some (.int v3), none] [] := by
  intro d v2 v3 h
  unfold f_R_unit_J73 at h
  refine g_aload_n (i := 0) hE d_R_unit_73 rfl rfl ?_
  refine g_iload_n (i := 3) hE d_R_unit_74 rfl rfl ?_
  obtain ⟨k1, h⟩ := kd_s h
  obtain ⟨x2, d4, e3, h⟩ := bdD_s h
  refine g_callV (av := [.inr (.inr (some o)), .inl v3]) (as := [.inl v3]) (stk := []) [] hE (c_R_say (xl X) (xG X) e3) ky_R_say ⟨Nat.le_of_ble_eq_true rfl, Nat.le_of_ble_eq_true rfl⟩ rfl kc_R k1 m_471 m_472 m_473 rfl d_R_unit_75 rfl rfl ct_0 (Nat.zero_le _) (Nat.zero_le _) ?_
  refine gw.cs (c2 := 0) (s2 := 0) rfl rfl ?_
  refine g_iconst hE d_R_unit_78 ki_0 ?_
  refine g_istore (i := 4) (lv' := [some (va_rf (some o)), none, some (.int v2), some (.int v3), some (.int 0)]) hE d_R_unit_79 (Nat.le_of_ble_eq_true rfl) ⟨rfl, Nat.le_of_ble_eq_true rfl⟩ (lvp_i rfl) ?_
  exact gw.less (lv' := [some (va_rf (some o)), none, some (.int v2), some (.int v3), some (.int 0)]) (And.intro rfl (And.intro rfl (And.intro rfl (And.intro rfl trivial)))) (w_R_unit_L81 hE (w_R_unit_J114 hE) fu d4 v2 v3 0 h)
set_option maxRecDepth 100000 in
def f_R_unit (S : gS) (d : gD) (o : Nat) (v1 : Int32) : Option (Unit × gD) :=
  kd S o 10 <|
  lt_ (sP S o 23) fun x2 =>
  nn x2 fun a3 =>
  kd S a3 50 <|
  gi v1 (sN S a3) <|
  lt_ (dI d a3 v1.toNatClampNeg) fun x6 =>
  bdD (f_R_describe S d o x6) fun _ d9 =>
  lt_ (wI d9 o 40 0) fun d10 =>
  lt_ (wI d10 o 42 0) fun d11 =>
  lt_ (sP S o 24) fun x12 =>
  nn x12 fun a13 =>
  kd S a13 50 <|
  gi v1 (sN S a13) <|
  lt_ (dI d11 a13 v1.toNatClampNeg) fun x16 =>
  bdD (f_R_say S d11 o x16) fun _ d19 =>
  lt_ (sP S o 25) fun x20 =>
  nn x20 fun a21 =>
  kd S a21 50 <|
  gi v1 (sN S a21) <|
  lt_ (dI d19 a21 v1.toNatClampNeg) fun x24 =>
  bdD (f_R_say S d19 o x24) fun _ d27 =>
  lt_ (sP S o 23) fun x28 =>
  nn x28 fun a29 =>
  kd S a29 50 <|
  gi v1 (sN S a29) <|
  lt_ (dI d27 a29 v1.toNatClampNeg) fun x32 =>
  itr (f_R_unit_B49 S o (f_R_unit_J73 S o)) (fun _ _ _ => none) fu d27 x32 0
set_option maxRecDepth 100000 in
set_option maxHeartbeats 4000000 in
theorem c_R_unit (l : Launch) (G : gG) {S : gS} {d : gD} {o : Nat} {v1 : Int32} {r : Unit} {d' : gD} (h : f_R_unit S d o v1 = some (r, d')) : GM l G y_R_unit b_R_unit 5 none 6 145 0 0 [.inr (.inr (some o)), .inl v1] S d (none) S d' := by
  refine GM.of (by decide) (Nat.le_of_ble_eq_true rfl) ?_
  intro X hl0 hG0 hR0 hE0
  have hE : gE X b_R_unit 5 "StandInMillModel" none "unit" 6 145 := hE0
  unfold f_R_unit at h
  refine gw.less (lv' := [some (va_rf (some o)), some (.int v1), none, none, none]) (And.intro rfl (And.intro rfl trivial)) ?_
  refine g_aload_n (i := 0) hE d_R_unit_0 rfl rfl ?_
  refine g_aload_n (i := 0) hE d_R_unit_1 rfl rfl ?_
  obtain ⟨k1, h⟩ := kd_s h
  refine g_getR 23 hE kc_R k1 (Nat.le_of_ble_eq_true rfl) rfl m_400 d_R_unit_2 (fun x2 e => ?_)
  replace h := lt_i e h; clear e
  refine g_iload_n (i := 1) hE d_R_unit_5 rfl rfl ?_
  obtain ⟨a3, rfl, h⟩ := nn_s h
  obtain ⟨k4, h⟩ := kd_s h
  obtain ⟨g5, h⟩ := gi_s h
  refine g_iald hE k4 g5 d_R_unit_6 (fun x6 e => ?_)
  replace h := lt_i e h; clear e
  obtain ⟨x7, d9, e8, h⟩ := bdD_s h
  refine g_callV (av := [.inr (.inr (some o)), .inl x6]) (as := [.inl x6]) (stk := []) [] hE (c_R_describe (xl X) (xG X) e8) ky_R_describe ⟨Nat.le_of_ble_eq_true rfl, Nat.le_of_ble_eq_true rfl⟩ rfl kc_R k1 m_465 m_466 m_467 rfl d_R_unit_7 rfl rfl ct_0 (Nat.zero_le _) (Nat.zero_le _) ?_
  refine gw.cs (c2 := 0) (s2 := 0) rfl rfl ?_
  refine g_aload_n (i := 0) hE d_R_unit_10 rfl rfl ?_
  refine g_iconst hE d_R_unit_11 ki_0 ?_
  refine g_putI 40 hE kc_R k1 (Nat.le_of_ble_eq_true rfl) rfl m_417 rfl (by decide +kernel) d_R_unit_12 (fun d10 e => ?_)
  replace h := lt_i e h; clear e
  refine g_aload_n (i := 0) hE d_R_unit_15 rfl rfl ?_
  refine g_iconst hE d_R_unit_16 ki_0 ?_
  refine g_putI 42 hE kc_R k1 (Nat.le_of_ble_eq_true rfl) rfl m_419 rfl (by decide +kernel) d_R_unit_17 (fun d11 e => ?_)
  replace h := lt_i e h; clear e
  refine g_aload_n (i := 0) hE d_R_unit_20 rfl rfl ?_
  refine g_aload_n (i := 0) hE d_R_unit_21 rfl rfl ?_
  refine g_getR 24 hE kc_R k1 (Nat.le_of_ble_eq_true rfl) rfl m_401 d_R_unit_22 (fun x12 e => ?_)
  replace h := lt_i e h; clear e
  refine g_iload_n (i := 1) hE d_R_unit_25 rfl rfl ?_
  obtain ⟨a13, rfl, h⟩ := nn_s h
  obtain ⟨k14, h⟩ := kd_s h
  obtain ⟨g15, h⟩ := gi_s h
  refine g_iald hE k14 g15 d_R_unit_26 (fun x16 e => ?_)
  replace h := lt_i e h; clear e
  obtain ⟨x17, d19, e18, h⟩ := bdD_s h
  refine g_callV (av := [.inr (.inr (some o)), .inl x16]) (as := [.inl x16]) (stk := []) [] hE (c_R_say (xl X) (xG X) e18) ky_R_say ⟨Nat.le_of_ble_eq_true rfl, Nat.le_of_ble_eq_true rfl⟩ rfl kc_R k1 m_471 m_472 m_473 rfl d_R_unit_27 rfl rfl ct_0 (Nat.zero_le _) (Nat.zero_le _) ?_
  refine gw.cs (c2 := 0) (s2 := 0) rfl rfl ?_
  refine g_aload_n (i := 0) hE d_R_unit_30 rfl rfl ?_
  refine g_aload_n (i := 0) hE d_R_unit_31 rfl rfl ?_
  refine g_getR 25 hE kc_R k1 (Nat.le_of_ble_eq_true rfl) rfl m_402 d_R_unit_32 (fun x20 e => ?_)
  replace h := lt_i e h; clear e
  refine g_iload_n (i := 1) hE d_R_unit_35 rfl rfl ?_
  obtain ⟨a21, rfl, h⟩ := nn_s h
  obtain ⟨k22, h⟩ := kd_s h
  obtain ⟨g23, h⟩ := gi_s h
  refine g_iald hE k22 g23 d_R_unit_36 (fun x24 e => ?_)
  replace h := lt_i e h; clear e
  obtain ⟨x25, d27, e26, h⟩ := bdD_s h
  refine g_callV (av := [.inr (.inr (some o)), .inl x24]) (as := [.inl x24]) (stk := []) [] hE (c_R_say (xl X) (xG X) e26) ky_R_say ⟨Nat.le_of_ble_eq_true rfl, Nat.le_of_ble_eq_true rfl⟩ rfl kc_R k1 m_471 m_472 m_473 rfl d_R_unit_37 rfl rfl ct_0 (Nat.zero_le _) (Nat.zero_le _) ?_
  refine gw.cs (c2 := 0) (s2 := 0) rfl rfl ?_
  refine g_aload_n (i := 0) hE d_R_unit_40 rfl rfl ?_
  refine g_getR 23 hE kc_R k1 (Nat.le_of_ble_eq_true rfl) rfl m_400 d_R_unit_41 (fun x28 e => ?_)
  replace h := lt_i e h; clear e
  refine g_iload_n (i := 1) hE d_R_unit_44 rfl rfl ?_
  obtain ⟨a29, rfl, h⟩ := nn_s h
  obtain ⟨k30, h⟩ := kd_s h
  obtain ⟨g31, h⟩ := gi_s h
  refine g_iald hE k30 g31 d_R_unit_45 (fun x32 e => ?_)
  replace h := lt_i e h; clear e
  refine g_istore_n (i := 2) (lv' := [some (va_rf (some o)), some (.int v1), some (.int x32), none, none]) hE d_R_unit_46 rfl (Nat.le_of_ble_eq_true rfl) ⟨rfl, Nat.le_of_ble_eq_true rfl⟩ (lvp_i rfl) ?_
  refine g_iconst hE d_R_unit_47 ki_0 ?_
  refine g_istore_n (i := 3) (lv' := [some (va_rf (some o)), some (.int v1), some (.int x32), some (.int 0), none]) hE d_R_unit_48 rfl (Nat.le_of_ble_eq_true rfl) ⟨rfl, Nat.le_of_ble_eq_true rfl⟩ (lvp_i rfl) ?_
  exact gw.less (lv' := [some (va_rf (some o)), none, some (.int x32), some (.int 0), none]) (And.intro rfl (And.intro rfl (And.intro rfl trivial))) (w_R_unit_L49 hE (w_R_unit_J73 hE) fu d27 x32 0 h)
theorem d_R_poolBytes_0 : dc b_R_poolBytes 0 (.iconst 0) 1 1 := ⟨by decide +kernel, rfl⟩
theorem d_R_poolBytes_1 : dc b_R_poolBytes 1 (.istore_n 1) 1 2 := ⟨by decide +kernel, rfl⟩
theorem d_R_poolBytes_2 : dc b_R_poolBytes 2 (.iconst 0) 1 3 := ⟨by decide +kernel, rfl⟩
theorem d_R_poolBytes_3 : dc b_R_poolBytes 3 (.istore_n 2) 1 4 := ⟨by decide +kernel, rfl⟩
theorem d_R_poolBytes_4 : dc b_R_poolBytes 4 (.iload_n 2) 1 5 := ⟨by decide +kernel, rfl⟩
theorem d_R_poolBytes_5 : dc b_R_poolBytes 5 (.aload_n 0) 1 6 := ⟨by decide +kernel, rfl⟩
theorem d_R_poolBytes_6 : dc b_R_poolBytes 6 (.getfield 139) 3 9 := ⟨by decide +kernel, rfl⟩
theorem d_R_poolBytes_9 : db b_R_poolBytes 9 (.if_icmp .ge 29) 29 38 12 := ⟨by decide +kernel, by decide, rfl⟩
theorem d_R_poolBytes_12 : dc b_R_poolBytes 12 (.iload_n 1) 1 13 := ⟨by decide +kernel, rfl⟩
theorem d_R_poolBytes_13 : dc b_R_poolBytes 13 (.aload_n 0) 1 14 := ⟨by decide +kernel, rfl⟩
theorem d_R_poolBytes_14 : dc b_R_poolBytes 14 (.getfield 136) 3 17 := ⟨by decide +kernel, rfl⟩
theorem d_R_poolBytes_17 : dc b_R_poolBytes 17 (.iconst 3) 1 18 := ⟨by decide +kernel, rfl⟩
theorem d_R_poolBytes_18 : dc b_R_poolBytes 18 (.iload_n 2) 1 19 := ⟨by decide +kernel, rfl⟩
theorem d_R_poolBytes_19 : dc b_R_poolBytes 19 (.imul) 1 20 := ⟨by decide +kernel, rfl⟩
theorem d_R_poolBytes_20 : dc b_R_poolBytes 20 (.iaload) 1 21 := ⟨by decide +kernel, rfl⟩
theorem d_R_poolBytes_21 : dc b_R_poolBytes 21 (.iconst 2) 1 22 := ⟨by decide +kernel, rfl⟩
theorem d_R_poolBytes_22 : db b_R_poolBytes 22 (.if_icmp .ne 7) 7 29 25 := ⟨by decide +kernel, by decide, rfl⟩
theorem d_R_poolBytes_25 : dc b_R_poolBytes 25 (.iconst 3) 1 26 := ⟨by decide +kernel, rfl⟩
theorem d_R_poolBytes_26 : db b_R_poolBytes 26 (.goto 4) 4 30 29 := ⟨by decide +kernel, by decide, rfl⟩
theorem d_R_poolBytes_29 : dc b_R_poolBytes 29 (.iconst 2) 1 30 := ⟨by decide +kernel, rfl⟩
theorem d_R_poolBytes_30 : dc b_R_poolBytes 30 (.iadd) 1 31 := ⟨by decide +kernel, rfl⟩
theorem d_R_poolBytes_31 : dc b_R_poolBytes 31 (.istore_n 1) 1 32 := ⟨by decide +kernel, rfl⟩
theorem d_R_poolBytes_32 : dc b_R_poolBytes 32 (.iinc 2 1) 3 35 := ⟨by decide +kernel, rfl⟩
theorem d_R_poolBytes_35 : db b_R_poolBytes 35 (.goto (-31)) (-31) 4 38 := ⟨by decide +kernel, by decide, rfl⟩
theorem d_R_poolBytes_38 : dc b_R_poolBytes 38 (.iload_n 1) 1 39 := ⟨by decide +kernel, rfl⟩
theorem d_R_poolBytes_39 : dc b_R_poolBytes 39 (.ireturn) 1 40 := ⟨by decide +kernel, rfl⟩
def f_R_poolBytes_J30 (S : gS) (d : gD) (o : Nat) (kb : Int32 → Int32 → Option (Int32)) (v2 : Int32) (u0 : Int32) (u1 : Int32) : Option (Int32) :=
  kb (u0 + u1) (v2 + 1)
set_option maxRecDepth 100000 in
set_option maxHeartbeats 4000000 in
theorem w_R_poolBytes_J30 {X : GX} (hE : gE X b_R_poolBytes 3 "StandInMillModel" (some (.int)) "poolBytes" 0 0) {S : gS} {d : gD} {o : Nat} {r : Int32} {kb : Int32 → Int32 → Option (Int32)} (hkb : ∀ (v1 : Int32) (v2 : Int32), kb v1 v2 = some r → gw X 0 0 (gQ X (some (.int r)) S d 0 0) S d 4 [some (va_rf (some o)), some (.int v1), some (.int v2)] []) :
    ∀ (v2 : Int32) (u0 : Int32) (u1 : Int32), f_R_poolBytes_J30 S d o kb v2 u0 u1 = some r → gw X 0 0 (gQ X (some (.int r)) S d 0 0) S d 30 [some (va_rf (some o)), none, some (.int v2)] [.int u1, .int u0] := by
  intro v2 u0 u1 h
  unfold f_R_poolBytes_J30 at h
  refine g_iadd hE d_R_poolBytes_30 ?_
  refine g_istore_n (i := 1) (lv' := [some (va_rf (some o)), some (.int (u0 + u1)), some (.int v2)]) hE d_R_poolBytes_31 rfl (Nat.le_of_ble_eq_true rfl) ⟨rfl, Nat.le_of_ble_eq_true rfl⟩ (lvp_r rfl) ?_
  refine g_iinc (i := 2) (lv' := [some (va_rf (some o)), some (.int (u0 + u1)), some (.int (v2 + 1))]) hE d_R_poolBytes_32 ki_1 rfl (Nat.le_of_ble_eq_true rfl) ⟨rfl, Nat.le_of_ble_eq_true rfl⟩ (lvp_i rfl) ?_
  refine g_goto hE d_R_poolBytes_35 ?_
  exact gw.less (lv' := [some (va_rf (some o)), some (.int (u0 + u1)), some (.int (v2 + 1))]) (And.intro rfl (And.intro rfl (And.intro rfl trivial))) (hkb (u0 + u1) (v2 + 1) h)
def f_R_poolBytes_B4 (S : gS) (d : gD) (o : Nat) (kb : Int32 → Int32 → Option (Int32)) (v1 : Int32) (v2 : Int32) : Option (Int32) :=
  kd S o 10 <|
  lt_ (dI d o 42) fun x2 =>
  if x2 ≤ v2 then (
    some v1)
  else (
    lt_ (sP S o 41) fun x3 =>
    nn x3 fun a4 =>
    kd S a4 50 <|
    gi (3 * v2) (sN S a4) <|
    lt_ (dI d a4 (3 * v2 : Int32).toNatClampNeg) fun x7 =>
    if x7 = 2 then (
      f_R_poolBytes_J30 S d o kb v2 v1 3)
    else (
      f_R_poolBytes_J30 S d o kb v2 v1 2))
set_option maxRecDepth 100000 in
set_option maxHeartbeats 4000000 in
theorem w_R_poolBytes_B4 {X : GX} (hE : gE X b_R_poolBytes 3 "StandInMillModel" (some (.int)) "poolBytes" 0 0) {S : gS} {d : gD} {o : Nat} {r : Int32} {kb : Int32 → Int32 → Option (Int32)} (hkb : ∀ (v1 : Int32) (v2 : Int32), kb v1 v2 = some r → gw X 0 0 (gQ X (some (.int r)) S d 0 0) S d 4 [some (va_rf (some o)), some (.int v1), some (.int v2)] []) :
    ∀ (v1 : Int32) (v2 : Int32), f_R_poolBytes_B4 S d o kb v1 v2 = some r → gw X 0 0 (gQ X (some (.int r)) S d 0 0) S d 4 [some (va_rf (some o)), some (.int v1), some (.int v2)] [] := by
  intro v1 v2 h
  unfold f_R_poolBytes_B4 at h
  refine g_iload_n (i := 2) hE d_R_poolBytes_4 rfl rfl ?_
  refine g_aload_n (i := 0) hE d_R_poolBytes_5 rfl rfl ?_
  obtain ⟨k1, h⟩ := kd_s h
  refine g_getI 42 hE kc_R k1 (Nat.le_of_ble_eq_true rfl) rfl m_419 d_R_poolBytes_6 (fun x2 e => ?_)
  replace h := lt_i e h; clear e
  refine g_icmp_ge hE d_R_poolBytes_9 (fun c9 => ?_) (fun c9 => ?_)
  · replace h := if_t c9 h
    refine g_iload_n (i := 1) hE d_R_poolBytes_38 rfl rfl ?_
    cases h
    exact g_iret hE d_R_poolBytes_39 rfl rfl
  · replace h := if_f c9 h
    refine g_iload_n (i := 1) hE d_R_poolBytes_12 rfl rfl ?_
    refine g_aload_n (i := 0) hE d_R_poolBytes_13 rfl rfl ?_
    refine g_getR 41 hE kc_R k1 (Nat.le_of_ble_eq_true rfl) rfl m_418 d_R_poolBytes_14 (fun x3 e => ?_)
    replace h := lt_i e h; clear e
    refine g_iconst hE d_R_poolBytes_17 ki_3 ?_
    refine g_iload_n (i := 2) hE d_R_poolBytes_18 rfl rfl ?_
    refine g_imul hE d_R_poolBytes_19 ?_
    obtain ⟨a4, rfl, h⟩ := nn_s h
    obtain ⟨k5, h⟩ := kd_s h
    obtain ⟨g6, h⟩ := gi_s h
    refine g_iald hE k5 g6 d_R_poolBytes_20 (fun x7 e => ?_)
    replace h := lt_i e h; clear e
    refine g_iconst hE d_R_poolBytes_21 ki_2 ?_
    refine g_icmp_ne hE d_R_poolBytes_22 (fun c8 => ?_) (fun c8 => ?_)
    · replace h := if_f c8 h
      refine g_iconst hE d_R_poolBytes_29 ki_2 ?_
      exact gw.less (lv' := [some (va_rf (some o)), none, some (.int v2)]) (And.intro rfl (And.intro rfl trivial)) (w_R_poolBytes_J30 hE hkb v2 v1 2 h)
    · replace h := if_t c8 h
      refine g_iconst hE d_R_poolBytes_25 ki_3 ?_
      refine g_goto hE d_R_poolBytes_26 ?_
      exact gw.less (lv' := [some (va_rf (some o)), none, some (.int v2)]) (And.intro rfl (And.intro rfl trivial)) (w_R_poolBytes_J30 hE hkb v2 v1 3 h)
theorem w_R_poolBytes_L4 {X : GX} (hE : gE X b_R_poolBytes 3 "StandInMillModel" (some (.int)) "poolBytes" 0 0) {S : gS} {d : gD} {o : Nat} {r : Int32} : ∀ (n : Nat) (v1 : Int32) (v2 : Int32), itr (f_R_poolBytes_B4 S d o) (fun _ _ => none) n v1 v2 = some r → gw X 0 0 (gQ X (some (.int r)) S d 0 0) S d 4 [some (va_rf (some o)), some (.int v1), some (.int v2)] [] := by
  intro n
  induction n with
  | zero => intro v1 v2 h; cases h
  | succ n ih => exact w_R_poolBytes_B4 hE ih
set_option maxRecDepth 100000 in
def f_R_poolBytes (S : gS) (d : gD) (o : Nat) : Option (Int32) :=
  itr (f_R_poolBytes_B4 S d o) (fun _ _ => none) fu 0 0
set_option maxRecDepth 100000 in
set_option maxHeartbeats 4000000 in
theorem c_R_poolBytes (l : Launch) (G : gG) {S : gS} {d : gD} {o : Nat} {r : Int32} (h : f_R_poolBytes S d o = some r) : GM l G y_R_poolBytes b_R_poolBytes 3 (some (.int)) 0 0 0 0 [.inr (.inr (some o))] S d (some (.int r)) S d := by
  refine GM.of (by decide) (Nat.le_of_ble_eq_true rfl) ?_
  intro X hl0 hG0 hR0 hE0
  have hE : gE X b_R_poolBytes 3 "StandInMillModel" (some (.int)) "poolBytes" 0 0 := hE0
  unfold f_R_poolBytes at h
  refine gw.less (lv' := [some (va_rf (some o)), none, none]) (And.intro rfl trivial) ?_
  refine g_iconst hE d_R_poolBytes_0 ki_0 ?_
  refine g_istore_n (i := 1) (lv' := [some (va_rf (some o)), some (.int 0), none]) hE d_R_poolBytes_1 rfl (Nat.le_of_ble_eq_true rfl) ⟨rfl, Nat.le_of_ble_eq_true rfl⟩ (lvp_r rfl) ?_
  refine g_iconst hE d_R_poolBytes_2 ki_0 ?_
  refine g_istore_n (i := 2) (lv' := [some (va_rf (some o)), some (.int 0), some (.int 0)]) hE d_R_poolBytes_3 rfl (Nat.le_of_ble_eq_true rfl) ⟨rfl, Nat.le_of_ble_eq_true rfl⟩ (lvp_i rfl) ?_
  exact gw.less (lv' := [some (va_rf (some o)), some (.int 0), some (.int 0)]) (And.intro rfl (And.intro rfl (And.intro rfl trivial))) (w_R_poolBytes_L4 hE fu 0 0 h)
theorem d_R_unitByte_0 : dc b_R_unitByte 0 (.iload_n 1) 1 1 := ⟨by decide +kernel, rfl⟩
theorem d_R_unitByte_1 : dc b_R_unitByte 1 (.iconst 3) 1 2 := ⟨by decide +kernel, rfl⟩
theorem d_R_unitByte_2 : db b_R_unitByte 2 (.if_icmp .ge 26) 26 28 5 := ⟨by decide +kernel, by decide, rfl⟩
theorem d_R_unitByte_5 : dc b_R_unitByte 5 (.iload_n 1) 1 6 := ⟨by decide +kernel, rfl⟩
theorem d_R_unitByte_6 : db b_R_unitByte 6 (.ifCond .ne 8) 8 14 9 := ⟨by decide +kernel, by decide, rfl⟩
theorem d_R_unitByte_9 : dc b_R_unitByte 9 (.bipush 70) 2 11 := ⟨by decide +kernel, rfl⟩
theorem d_R_unitByte_11 : db b_R_unitByte 11 (.goto 16) 16 27 14 := ⟨by decide +kernel, by decide, rfl⟩
theorem d_R_unitByte_14 : dc b_R_unitByte 14 (.iload_n 1) 1 15 := ⟨by decide +kernel, rfl⟩
theorem d_R_unitByte_15 : dc b_R_unitByte 15 (.iconst 1) 1 16 := ⟨by decide +kernel, rfl⟩
theorem d_R_unitByte_16 : db b_R_unitByte 16 (.if_icmp .ne 7) 7 23 19 := ⟨by decide +kernel, by decide, rfl⟩
theorem d_R_unitByte_19 : dc b_R_unitByte 19 (.iconst 1) 1 20 := ⟨by decide +kernel, rfl⟩
theorem d_R_unitByte_20 : db b_R_unitByte 20 (.goto 7) 7 27 23 := ⟨by decide +kernel, by decide, rfl⟩
theorem d_R_unitByte_23 : dc b_R_unitByte 23 (.aload_n 0) 1 24 := ⟨by decide +kernel, rfl⟩
theorem d_R_unitByte_24 : dc b_R_unitByte 24 (.getfield 139) 3 27 := ⟨by decide +kernel, rfl⟩
theorem d_R_unitByte_27 : dc b_R_unitByte 27 (.ireturn) 1 28 := ⟨by decide +kernel, rfl⟩
theorem d_R_unitByte_28 : dc b_R_unitByte 28 (.iconst 3) 1 29 := ⟨by decide +kernel, rfl⟩
theorem d_R_unitByte_29 : dc b_R_unitByte 29 (.istore_n 2) 1 30 := ⟨by decide +kernel, rfl⟩
theorem d_R_unitByte_30 : dc b_R_unitByte 30 (.iconst 0) 1 31 := ⟨by decide +kernel, rfl⟩
theorem d_R_unitByte_31 : dc b_R_unitByte 31 (.istore_n 3) 1 32 := ⟨by decide +kernel, rfl⟩
theorem d_R_unitByte_32 : dc b_R_unitByte 32 (.iload_n 3) 1 33 := ⟨by decide +kernel, rfl⟩
theorem d_R_unitByte_33 : dc b_R_unitByte 33 (.aload_n 0) 1 34 := ⟨by decide +kernel, rfl⟩
theorem d_R_unitByte_34 : dc b_R_unitByte 34 (.getfield 139) 3 37 := ⟨by decide +kernel, rfl⟩
theorem d_R_unitByte_37 : db b_R_unitByte 37 (.if_icmp .ge 54) 54 91 40 := ⟨by decide +kernel, by decide, rfl⟩
theorem d_R_unitByte_40 : dc b_R_unitByte 40 (.aload_n 0) 1 41 := ⟨by decide +kernel, rfl⟩
theorem d_R_unitByte_41 : dc b_R_unitByte 41 (.getfield 136) 3 44 := ⟨by decide +kernel, rfl⟩
theorem d_R_unitByte_44 : dc b_R_unitByte 44 (.iconst 3) 1 45 := ⟨by decide +kernel, rfl⟩
theorem d_R_unitByte_45 : dc b_R_unitByte 45 (.iload_n 3) 1 46 := ⟨by decide +kernel, rfl⟩
theorem d_R_unitByte_46 : dc b_R_unitByte 46 (.imul) 1 47 := ⟨by decide +kernel, rfl⟩
theorem d_R_unitByte_47 : dc b_R_unitByte 47 (.iaload) 1 48 := ⟨by decide +kernel, rfl⟩
theorem d_R_unitByte_48 : dc b_R_unitByte 48 (.iconst 2) 1 49 := ⟨by decide +kernel, rfl⟩
theorem d_R_unitByte_49 : db b_R_unitByte 49 (.if_icmp .ne 7) 7 56 52 := ⟨by decide +kernel, by decide, rfl⟩
theorem d_R_unitByte_52 : dc b_R_unitByte 52 (.iconst 3) 1 53 := ⟨by decide +kernel, rfl⟩
theorem d_R_unitByte_53 : db b_R_unitByte 53 (.goto 4) 4 57 56 := ⟨by decide +kernel, by decide, rfl⟩
theorem d_R_unitByte_56 : dc b_R_unitByte 56 (.iconst 2) 1 57 := ⟨by decide +kernel, rfl⟩
theorem d_R_unitByte_57 : dc b_R_unitByte 57 (.istore 4) 2 59 := ⟨by decide +kernel, rfl⟩
theorem d_R_unitByte_59 : dc b_R_unitByte 59 (.iload_n 1) 1 60 := ⟨by decide +kernel, rfl⟩
theorem d_R_unitByte_60 : dc b_R_unitByte 60 (.iload_n 2) 1 61 := ⟨by decide +kernel, rfl⟩
theorem d_R_unitByte_61 : dc b_R_unitByte 61 (.iload 4) 2 63 := ⟨by decide +kernel, rfl⟩
theorem d_R_unitByte_63 : dc b_R_unitByte 63 (.iadd) 1 64 := ⟨by decide +kernel, rfl⟩
theorem d_R_unitByte_64 : db b_R_unitByte 64 (.if_icmp .ge 16) 16 80 67 := ⟨by decide +kernel, by decide, rfl⟩
theorem d_R_unitByte_67 : dc b_R_unitByte 67 (.aload_n 0) 1 68 := ⟨by decide +kernel, rfl⟩
theorem d_R_unitByte_68 : dc b_R_unitByte 68 (.getfield 136) 3 71 := ⟨by decide +kernel, rfl⟩
theorem d_R_unitByte_71 : dc b_R_unitByte 71 (.iconst 3) 1 72 := ⟨by decide +kernel, rfl⟩
theorem d_R_unitByte_72 : dc b_R_unitByte 72 (.iload_n 3) 1 73 := ⟨by decide +kernel, rfl⟩
theorem d_R_unitByte_73 : dc b_R_unitByte 73 (.imul) 1 74 := ⟨by decide +kernel, rfl⟩
theorem d_R_unitByte_74 : dc b_R_unitByte 74 (.iload_n 1) 1 75 := ⟨by decide +kernel, rfl⟩
theorem d_R_unitByte_75 : dc b_R_unitByte 75 (.iadd) 1 76 := ⟨by decide +kernel, rfl⟩
theorem d_R_unitByte_76 : dc b_R_unitByte 76 (.iload_n 2) 1 77 := ⟨by decide +kernel, rfl⟩
theorem d_R_unitByte_77 : dc b_R_unitByte 77 (.isub) 1 78 := ⟨by decide +kernel, rfl⟩
theorem d_R_unitByte_78 : dc b_R_unitByte 78 (.iaload) 1 79 := ⟨by decide +kernel, rfl⟩
theorem d_R_unitByte_79 : dc b_R_unitByte 79 (.ireturn) 1 80 := ⟨by decide +kernel, rfl⟩
theorem d_R_unitByte_80 : dc b_R_unitByte 80 (.iload_n 2) 1 81 := ⟨by decide +kernel, rfl⟩
theorem d_R_unitByte_81 : dc b_R_unitByte 81 (.iload 4) 2 83 := ⟨by decide +kernel, rfl⟩
theorem d_R_unitByte_83 : dc b_R_unitByte 83 (.iadd) 1 84 := ⟨by decide +kernel, rfl⟩
theorem d_R_unitByte_84 : dc b_R_unitByte 84 (.istore_n 2) 1 85 := ⟨by decide +kernel, rfl⟩
theorem d_R_unitByte_85 : dc b_R_unitByte 85 (.iinc 3 1) 3 88 := ⟨by decide +kernel, rfl⟩
theorem d_R_unitByte_88 : db b_R_unitByte 88 (.goto (-56)) (-56) 32 91 := ⟨by decide +kernel, by decide, rfl⟩
theorem d_R_unitByte_91 : dc b_R_unitByte 91 (.iload_n 1) 1 92 := ⟨by decide +kernel, rfl⟩
theorem d_R_unitByte_92 : dc b_R_unitByte 92 (.iload_n 2) 1 93 := ⟨by decide +kernel, rfl⟩
theorem d_R_unitByte_93 : dc b_R_unitByte 93 (.isub) 1 94 := ⟨by decide +kernel, rfl⟩
theorem d_R_unitByte_94 : dc b_R_unitByte 94 (.aload_n 0) 1 95 := ⟨by decide +kernel, rfl⟩
theorem d_R_unitByte_95 : dc b_R_unitByte 95 (.getfield 133) 3 98 := ⟨by decide +kernel, rfl⟩
theorem d_R_unitByte_98 : db b_R_unitByte 98 (.if_icmp .ge 14) 14 112 101 := ⟨by decide +kernel, by decide, rfl⟩
theorem d_R_unitByte_101 : dc b_R_unitByte 101 (.aload_n 0) 1 102 := ⟨by decide +kernel, rfl⟩
theorem d_R_unitByte_102 : dc b_R_unitByte 102 (.getfield 130) 3 105 := ⟨by decide +kernel, rfl⟩
theorem d_R_unitByte_105 : dc b_R_unitByte 105 (.iload_n 1) 1 106 := ⟨by decide +kernel, rfl⟩
theorem d_R_unitByte_106 : dc b_R_unitByte 106 (.iload_n 2) 1 107 := ⟨by decide +kernel, rfl⟩
theorem d_R_unitByte_107 : dc b_R_unitByte 107 (.isub) 1 108 := ⟨by decide +kernel, rfl⟩
theorem d_R_unitByte_108 : dc b_R_unitByte 108 (.iaload) 1 109 := ⟨by decide +kernel, rfl⟩
theorem d_R_unitByte_109 : db b_R_unitByte 109 (.goto 4) 4 113 112 := ⟨by decide +kernel, by decide, rfl⟩
theorem d_R_unitByte_112 : dc b_R_unitByte 112 (.iconst (-1)) 1 113 := ⟨by decide +kernel, rfl⟩
theorem d_R_unitByte_113 : dc b_R_unitByte 113 (.ireturn) 1 114 := ⟨by decide +kernel, rfl⟩
def f_R_unitByte_J57 (S : gS) (d : gD) (o : Nat) (kx67 : Int32 → Int32 → Int32 → Option (Int32)) (kx91 : Int32 → Int32 → Option (Int32)) (kb : Int32 → Int32 → Int32 → Option (Int32)) (v1 : Int32) (v2 : Int32) (v3 : Int32) (u0 : Int32) : Option (Int32) :=
  if (v2 + u0) ≤ v1 then (
    kb v1 (v2 + u0) (v3 + 1))
  else (
    kx67 v1 v2 v3)
set_option maxRecDepth 100000 in
set_option maxHeartbeats 4000000 in
theorem w_R_unitByte_J57 {X : GX} (hE : gE X b_R_unitByte 5 "StandInMillModel" (some (.int)) "unitByte" 0 0) {S : gS} {d : gD} {o : Nat} {r : Int32} {kb : Int32 → Int32 → Int32 → Option (Int32)} {kx67 : Int32 → Int32 → Int32 → Option (Int32)} {kx91 : Int32 → Int32 → Option (Int32)} (hkb : ∀ (v1 : Int32) (v2 : Int32) (v3 : Int32), kb v1 v2 v3 = some r → gw X 0 0 (gQ X (some (.int r)) S d 0 0) S d 32 [some (va_rf (some o)), some (.int v1), some (.int v2), some (.int v3), none] []) (hkx67 : ∀ (v1 : Int32) (v2 : Int32) (v3 : Int32), kx67 v1 v2 v3 = some r → gw X 0 0 (gQ X (some (.int r)) S d 0 0) S d 67 [some (va_rf (some o)), some (.int v1), some (.int v2), some (.int v3), none] []) (hkx91 : ∀ (v1 : Int32) (v2 : Int32), kx91 v1 v2 = some r → gw X 0 0 (gQ X (some (.int r)) S d 0 0) S d 91 [some (va_rf (some o)), some (.int v1), some (.int v2), none, none] []) :
    ∀ (v1 : Int32) (v2 : Int32) (v3 : Int32) (u0 : Int32), f_R_unitByte_J57 S d o kx67 kx91 kb v1 v2 v3 u0 = some r → gw X 0 0 (gQ X (some (.int r)) S d 0 0) S d 57 [some (va_rf (some o)), some (.int v1), some (.int v2), some (.int v3), none] [.int u0] := by
  intro v1 v2 v3 u0 h
  unfold f_R_unitByte_J57 at h
  refine g_istore (i := 4) (lv' := [some (va_rf (some o)), some (.int v1), some (.int v2), some (.int v3), some (.int u0)]) hE d_R_unitByte_57 (Nat.le_of_ble_eq_true rfl) ⟨rfl, Nat.le_of_ble_eq_true rfl⟩ (lvp_i rfl) ?_
  refine g_iload_n (i := 1) hE d_R_unitByte_59 rfl rfl ?_
  refine g_iload_n (i := 2) hE d_R_unitByte_60 rfl rfl ?_
  refine g_iload (i := 4) hE d_R_unitByte_61 rfl ?_
  refine g_iadd hE d_R_unitByte_63 ?_
  refine g_icmp_ge hE d_R_unitByte_64 (fun c1 => ?_) (fun c1 => ?_)
  · replace h := if_t c1 h
    refine g_iload_n (i := 2) hE d_R_unitByte_80 rfl rfl ?_
    refine g_iload (i := 4) hE d_R_unitByte_81 rfl ?_
    refine g_iadd hE d_R_unitByte_83 ?_
    refine g_istore_n (i := 2) (lv' := [some (va_rf (some o)), some (.int v1), some (.int (v2 + u0)), some (.int v3), some (.int u0)]) hE d_R_unitByte_84 rfl (Nat.le_of_ble_eq_true rfl) ⟨rfl, Nat.le_of_ble_eq_true rfl⟩ (lvp_i rfl) ?_
    refine g_iinc (i := 3) (lv' := [some (va_rf (some o)), some (.int v1), some (.int (v2 + u0)), some (.int (v3 + 1)), some (.int u0)]) hE d_R_unitByte_85 ki_1 rfl (Nat.le_of_ble_eq_true rfl) ⟨rfl, Nat.le_of_ble_eq_true rfl⟩ (lvp_i rfl) ?_
    refine g_goto hE d_R_unitByte_88 ?_
    exact gw.less (lv' := [some (va_rf (some o)), some (.int v1), some (.int (v2 + u0)), some (.int (v3 + 1)), none]) (And.intro rfl (And.intro rfl (And.intro rfl (And.intro rfl trivial)))) (hkb v1 (v2 + u0) (v3 + 1) h)
  · replace h := if_f c1 h
    exact gw.less (lv' := [some (va_rf (some o)), some (.int v1), some (.int v2), some (.int v3), none]) (And.intro rfl (And.intro rfl (And.intro rfl (And.intro rfl trivial)))) (hkx67 v1 v2 v3 h)
def f_R_unitByte_B32 (S : gS) (d : gD) (o : Nat) (kx67 : Int32 → Int32 → Int32 → Option (Int32)) (kx91 : Int32 → Int32 → Option (Int32)) (kb : Int32 → Int32 → Int32 → Option (Int32)) (v1 : Int32) (v2 : Int32) (v3 : Int32) : Option (Int32) :=
  kd S o 10 <|
  lt_ (dI d o 42) fun x2 =>
  if x2 ≤ v3 then (
    kx91 v1 v2)
  else (
    lt_ (sP S o 41) fun x3 =>
    nn x3 fun a4 =>
    kd S a4 50 <|
    gi (3 * v3) (sN S a4) <|
    lt_ (dI d a4 (3 * v3 : Int32).toNatClampNeg) fun x7 =>
    if x7 = 2 then (
      f_R_unitByte_J57 S d o kx67 kx91 kb v1 v2 v3 3)
    else (
      f_R_unitByte_J57 S d o kx67 kx91 kb v1 v2 v3 2))
set_option maxRecDepth 100000 in
set_option maxHeartbeats 4000000 in
theorem w_R_unitByte_B32 {X : GX} (hE : gE X b_R_unitByte 5 "StandInMillModel" (some (.int)) "unitByte" 0 0) {S : gS} {d : gD} {o : Nat} {r : Int32} {kb : Int32 → Int32 → Int32 → Option (Int32)} {kx67 : Int32 → Int32 → Int32 → Option (Int32)} {kx91 : Int32 → Int32 → Option (Int32)} (hkb : ∀ (v1 : Int32) (v2 : Int32) (v3 : Int32), kb v1 v2 v3 = some r → gw X 0 0 (gQ X (some (.int r)) S d 0 0) S d 32 [some (va_rf (some o)), some (.int v1), some (.int v2), some (.int v3), none] []) (hkx67 : ∀ (v1 : Int32) (v2 : Int32) (v3 : Int32), kx67 v1 v2 v3 = some r → gw X 0 0 (gQ X (some (.int r)) S d 0 0) S d 67 [some (va_rf (some o)), some (.int v1), some (.int v2), some (.int v3), none] []) (hkx91 : ∀ (v1 : Int32) (v2 : Int32), kx91 v1 v2 = some r → gw X 0 0 (gQ X (some (.int r)) S d 0 0) S d 91 [some (va_rf (some o)), some (.int v1), some (.int v2), none, none] []) :
    ∀ (v1 : Int32) (v2 : Int32) (v3 : Int32), f_R_unitByte_B32 S d o kx67 kx91 kb v1 v2 v3 = some r → gw X 0 0 (gQ X (some (.int r)) S d 0 0) S d 32 [some (va_rf (some o)), some (.int v1), some (.int v2), some (.int v3), none] [] := by
  intro v1 v2 v3 h
  unfold f_R_unitByte_B32 at h
  refine g_iload_n (i := 3) hE d_R_unitByte_32 rfl rfl ?_
  refine g_aload_n (i := 0) hE d_R_unitByte_33 rfl rfl ?_
  obtain ⟨k1, h⟩ := kd_s h
  refine g_getI 42 hE kc_R k1 (Nat.le_of_ble_eq_true rfl) rfl m_419 d_R_unitByte_34 (fun x2 e => ?_)
  replace h := lt_i e h; clear e
  refine g_icmp_ge hE d_R_unitByte_37 (fun c9 => ?_) (fun c9 => ?_)
  · replace h := if_t c9 h
    exact gw.less (lv' := [some (va_rf (some o)), some (.int v1), some (.int v2), none, none]) (And.intro rfl (And.intro rfl (And.intro rfl trivial))) (hkx91 v1 v2 h)
  · replace h := if_f c9 h
    refine g_aload_n (i := 0) hE d_R_unitByte_40 rfl rfl ?_
    refine g_getR 41 hE kc_R k1 (Nat.le_of_ble_eq_true rfl) rfl m_418 d_R_unitByte_41 (fun x3 e => ?_)
    replace h := lt_i e h; clear e
    refine g_iconst hE d_R_unitByte_44 ki_3 ?_
    refine g_iload_n (i := 3) hE d_R_unitByte_45 rfl rfl ?_
    refine g_imul hE d_R_unitByte_46 ?_
    obtain ⟨a4, rfl, h⟩ := nn_s h
    obtain ⟨k5, h⟩ := kd_s h
    obtain ⟨g6, h⟩ := gi_s h
    refine g_iald hE k5 g6 d_R_unitByte_47 (fun x7 e => ?_)
    replace h := lt_i e h; clear e
    refine g_iconst hE d_R_unitByte_48 ki_2 ?_
    refine g_icmp_ne hE d_R_unitByte_49 (fun c8 => ?_) (fun c8 => ?_)
    · replace h := if_f c8 h
      refine g_iconst hE d_R_unitByte_56 ki_2 ?_
      exact gw.less (lv' := [some (va_rf (some o)), some (.int v1), some (.int v2), some (.int v3), none]) (And.intro rfl (And.intro rfl (And.intro rfl (And.intro rfl trivial)))) (w_R_unitByte_J57 hE hkb hkx67 hkx91 v1 v2 v3 2 h)
    · replace h := if_t c8 h
      refine g_iconst hE d_R_unitByte_52 ki_3 ?_
      refine g_goto hE d_R_unitByte_53 ?_
      exact gw.less (lv' := [some (va_rf (some o)), some (.int v1), some (.int v2), some (.int v3), none]) (And.intro rfl (And.intro rfl (And.intro rfl (And.intro rfl trivial)))) (w_R_unitByte_J57 hE hkb hkx67 hkx91 v1 v2 v3 3 h)
theorem w_R_unitByte_L32 {X : GX} (hE : gE X b_R_unitByte 5 "StandInMillModel" (some (.int)) "unitByte" 0 0) {S : gS} {d : gD} {o : Nat} {r : Int32} {kx67 : Int32 → Int32 → Int32 → Option (Int32)} {kx91 : Int32 → Int32 → Option (Int32)} (hkx67 : ∀ (v1 : Int32) (v2 : Int32) (v3 : Int32), kx67 v1 v2 v3 = some r → gw X 0 0 (gQ X (some (.int r)) S d 0 0) S d 67 [some (va_rf (some o)), some (.int v1), some (.int v2), some (.int v3), none] []) (hkx91 : ∀ (v1 : Int32) (v2 : Int32), kx91 v1 v2 = some r → gw X 0 0 (gQ X (some (.int r)) S d 0 0) S d 91 [some (va_rf (some o)), some (.int v1), some (.int v2), none, none] []) : ∀ (n : Nat) (v1 : Int32) (v2 : Int32) (v3 : Int32), itr (f_R_unitByte_B32 S d o kx67 kx91) (fun _ _ _ => none) n v1 v2 v3 = some r → gw X 0 0 (gQ X (some (.int r)) S d 0 0) S d 32 [some (va_rf (some o)), some (.int v1), some (.int v2), some (.int v3), none] [] := by
  intro n
  induction n with
  | zero => intro v1 v2 v3 h; cases h
  | succ n ih => exact w_R_unitByte_B32 hE ih hkx67 hkx91
def f_R_unitByte_J67 (S : gS) (d : gD) (o : Nat) (v1 : Int32) (v2 : Int32) (v3 : Int32) : Option (Int32) :=
  kd S o 10 <|
  lt_ (sP S o 41) fun x2 =>
  nn x2 fun a3 =>
  kd S a3 50 <|
  gi (((3 * v3) + v1) - v2) (sN S a3) <|
  lt_ (dI d a3 (((3 * v3) + v1) - v2 : Int32).toNatClampNeg) fun x6 =>
  some x6
set_option maxRecDepth 100000 in
set_option maxHeartbeats 4000000 in
theorem w_R_unitByte_J67 {X : GX} (hE : gE X b_R_unitByte 5 "StandInMillModel" (some (.int)) "unitByte" 0 0) {S : gS} {d : gD} {o : Nat} {r : Int32} :
    ∀ (v1 : Int32) (v2 : Int32) (v3 : Int32), f_R_unitByte_J67 S d o v1 v2 v3 = some r → gw X 0 0 (gQ X (some (.int r)) S d 0 0) S d 67 [some (va_rf (some o)), some (.int v1), some (.int v2), some (.int v3), none] [] := by
  intro v1 v2 v3 h
  unfold f_R_unitByte_J67 at h
  refine g_aload_n (i := 0) hE d_R_unitByte_67 rfl rfl ?_
  obtain ⟨k1, h⟩ := kd_s h
  refine g_getR 41 hE kc_R k1 (Nat.le_of_ble_eq_true rfl) rfl m_418 d_R_unitByte_68 (fun x2 e => ?_)
  replace h := lt_i e h; clear e
  refine g_iconst hE d_R_unitByte_71 ki_3 ?_
  refine g_iload_n (i := 3) hE d_R_unitByte_72 rfl rfl ?_
  refine g_imul hE d_R_unitByte_73 ?_
  refine g_iload_n (i := 1) hE d_R_unitByte_74 rfl rfl ?_
  refine g_iadd hE d_R_unitByte_75 ?_
  refine g_iload_n (i := 2) hE d_R_unitByte_76 rfl rfl ?_
  refine g_isub hE d_R_unitByte_77 ?_
  obtain ⟨a3, rfl, h⟩ := nn_s h
  obtain ⟨k4, h⟩ := kd_s h
  obtain ⟨g5, h⟩ := gi_s h
  refine g_iald hE k4 g5 d_R_unitByte_78 (fun x6 e => ?_)
  replace h := lt_i e h; clear e
  cases h
  exact g_iret hE d_R_unitByte_79 rfl rfl
def f_R_unitByte_J91 (S : gS) (d : gD) (o : Nat) (v1 : Int32) (v2 : Int32) : Option (Int32) :=
  kd S o 10 <|
  lt_ (dI d o 40) fun x2 =>
  if x2 ≤ (v1 - v2) then (
    some (-1))
  else (
    lt_ (sP S o 39) fun x3 =>
    nn x3 fun a4 =>
    kd S a4 50 <|
    gi (v1 - v2) (sN S a4) <|
    lt_ (dI d a4 (v1 - v2 : Int32).toNatClampNeg) fun x7 =>
    some x7)
set_option maxRecDepth 100000 in
set_option maxHeartbeats 4000000 in
theorem w_R_unitByte_J91 {X : GX} (hE : gE X b_R_unitByte 5 "StandInMillModel" (some (.int)) "unitByte" 0 0) {S : gS} {d : gD} {o : Nat} {r : Int32} :
    ∀ (v1 : Int32) (v2 : Int32), f_R_unitByte_J91 S d o v1 v2 = some r → gw X 0 0 (gQ X (some (.int r)) S d 0 0) S d 91 [some (va_rf (some o)), some (.int v1), some (.int v2), none, none] [] := by
  intro v1 v2 h
  unfold f_R_unitByte_J91 at h
  refine g_iload_n (i := 1) hE d_R_unitByte_91 rfl rfl ?_
  refine g_iload_n (i := 2) hE d_R_unitByte_92 rfl rfl ?_
  refine g_isub hE d_R_unitByte_93 ?_
  refine g_aload_n (i := 0) hE d_R_unitByte_94 rfl rfl ?_
  obtain ⟨k1, h⟩ := kd_s h
  refine g_getI 40 hE kc_R k1 (Nat.le_of_ble_eq_true rfl) rfl m_417 d_R_unitByte_95 (fun x2 e => ?_)
  replace h := lt_i e h; clear e
  refine g_icmp_ge hE d_R_unitByte_98 (fun c8 => ?_) (fun c8 => ?_)
  · replace h := if_t c8 h
    refine g_iconst hE d_R_unitByte_112 ki_m1 ?_
    cases h
    exact g_iret hE d_R_unitByte_113 rfl rfl
  · replace h := if_f c8 h
    refine g_aload_n (i := 0) hE d_R_unitByte_101 rfl rfl ?_
    refine g_getR 39 hE kc_R k1 (Nat.le_of_ble_eq_true rfl) rfl m_416 d_R_unitByte_102 (fun x3 e => ?_)
    replace h := lt_i e h; clear e
    refine g_iload_n (i := 1) hE d_R_unitByte_105 rfl rfl ?_
    refine g_iload_n (i := 2) hE d_R_unitByte_106 rfl rfl ?_
    refine g_isub hE d_R_unitByte_107 ?_
    obtain ⟨a4, rfl, h⟩ := nn_s h
    obtain ⟨k5, h⟩ := kd_s h
    obtain ⟨g6, h⟩ := gi_s h
    refine g_iald hE k5 g6 d_R_unitByte_108 (fun x7 e => ?_)
    replace h := lt_i e h; clear e
    refine g_goto hE d_R_unitByte_109 ?_
    cases h
    exact g_iret hE d_R_unitByte_113 rfl rfl
set_option maxRecDepth 100000 in
def f_R_unitByte (S : gS) (d : gD) (o : Nat) (v1 : Int32) : Option (Int32) :=
  if 3 ≤ v1 then (
    itr (f_R_unitByte_B32 S d o (f_R_unitByte_J67 S d o) (f_R_unitByte_J91 S d o)) (fun _ _ _ => none) fu v1 3 0)
  else (
    if v1 = 0 then (
      some 70)
    else (
      if v1 = 1 then (
        some 1)
      else (
        kd S o 10 <|
        lt_ (dI d o 42) fun x2 =>
        some x2)))
set_option maxRecDepth 100000 in
set_option maxHeartbeats 4000000 in
theorem c_R_unitByte (l : Launch) (G : gG) {S : gS} {d : gD} {o : Nat} {v1 : Int32} {r : Int32} (h : f_R_unitByte S d o v1 = some r) : GM l G y_R_unitByte b_R_unitByte 5 (some (.int)) 0 0 0 0 [.inr (.inr (some o)), .inl v1] S d (some (.int r)) S d := by
  refine GM.of (by decide) (Nat.le_of_ble_eq_true rfl) ?_
  intro X hl0 hG0 hR0 hE0
  have hE : gE X b_R_unitByte 5 "StandInMillModel" (some (.int)) "unitByte" 0 0 := hE0
  unfold f_R_unitByte at h
  refine gw.less (lv' := [some (va_rf (some o)), some (.int v1), none, none, none]) (And.intro rfl (And.intro rfl trivial)) ?_
  refine g_iload_n (i := 1) hE d_R_unitByte_0 rfl rfl ?_
  refine g_iconst hE d_R_unitByte_1 ki_3 ?_
  refine g_icmp_ge hE d_R_unitByte_2 (fun c5 => ?_) (fun c5 => ?_)
  · replace h := if_t c5 h
    refine g_iconst hE d_R_unitByte_28 ki_3 ?_
    refine g_istore_n (i := 2) (lv' := [some (va_rf (some o)), some (.int v1), some (.int 3), none, none]) hE d_R_unitByte_29 rfl (Nat.le_of_ble_eq_true rfl) ⟨rfl, Nat.le_of_ble_eq_true rfl⟩ (lvp_i rfl) ?_
    refine g_iconst hE d_R_unitByte_30 ki_0 ?_
    refine g_istore_n (i := 3) (lv' := [some (va_rf (some o)), some (.int v1), some (.int 3), some (.int 0), none]) hE d_R_unitByte_31 rfl (Nat.le_of_ble_eq_true rfl) ⟨rfl, Nat.le_of_ble_eq_true rfl⟩ (lvp_i rfl) ?_
    exact gw.less (lv' := [some (va_rf (some o)), some (.int v1), some (.int 3), some (.int 0), none]) (And.intro rfl (And.intro rfl (And.intro rfl (And.intro rfl trivial)))) (w_R_unitByte_L32 hE (w_R_unitByte_J67 hE) (w_R_unitByte_J91 hE) fu v1 3 0 h)
  · replace h := if_f c5 h
    refine g_iload_n (i := 1) hE d_R_unitByte_5 rfl rfl ?_
    refine g_if_ne hE d_R_unitByte_6 (fun c4 => ?_) (fun c4 => ?_)
    · replace h := if_f c4 h
      refine g_iload_n (i := 1) hE d_R_unitByte_14 rfl rfl ?_
      refine g_iconst hE d_R_unitByte_15 ki_1 ?_
      refine g_icmp_ne hE d_R_unitByte_16 (fun c3 => ?_) (fun c3 => ?_)
      · replace h := if_f c3 h
        refine g_aload_n (i := 0) hE d_R_unitByte_23 rfl rfl ?_
        obtain ⟨k1, h⟩ := kd_s h
        refine g_getI 42 hE kc_R k1 (Nat.le_of_ble_eq_true rfl) rfl m_419 d_R_unitByte_24 (fun x2 e => ?_)
        replace h := lt_i e h; clear e
        cases h
        exact g_iret hE d_R_unitByte_27 rfl rfl
      · replace h := if_t c3 h
        refine g_iconst hE d_R_unitByte_19 ki_1 ?_
        refine g_goto hE d_R_unitByte_20 ?_
        cases h
        exact g_iret hE d_R_unitByte_27 rfl rfl
    · replace h := if_t c4 h
      refine g_bipush hE d_R_unitByte_9 kb_70 ?_
      refine g_goto hE d_R_unitByte_11 ?_
      cases h
      exact g_iret hE d_R_unitByte_27 rfl rfl
theorem d_R_thrown_0 : dc b_R_thrown 0 (.aload_n 0) 1 1 := ⟨by decide +kernel, rfl⟩
theorem d_R_thrown_1 : dc b_R_thrown 1 (.getfield 7) 3 4 := ⟨by decide +kernel, rfl⟩
theorem d_R_thrown_4 : dc b_R_thrown 4 (.ireturn) 1 5 := ⟨by decide +kernel, rfl⟩
set_option maxRecDepth 100000 in
def f_R_thrown (S : gS) (d : gD) (o : Nat) : Option (Int32) :=
  kd S o 10 <|
  lt_ (dI d o 0) fun x2 =>
  some x2
set_option maxRecDepth 100000 in
set_option maxHeartbeats 4000000 in
theorem c_R_thrown (l : Launch) (G : gG) {S : gS} {d : gD} {o : Nat} {r : Int32} (h : f_R_thrown S d o = some r) : GM l G y_R_thrown b_R_thrown 1 (some (.int)) 0 0 0 0 [.inr (.inr (some o))] S d (some (.int r)) S d := by
  refine GM.of (by decide) (Nat.le_of_ble_eq_true rfl) ?_
  intro X hl0 hG0 hR0 hE0
  have hE : gE X b_R_thrown 1 "StandInMillModel" (some (.int)) "thrown" 0 0 := hE0
  unfold f_R_thrown at h
  refine gw.less (lv' := [some (va_rf (some o))]) (And.intro rfl trivial) ?_
  refine g_aload_n (i := 0) hE d_R_thrown_0 rfl rfl ?_
  obtain ⟨k1, h⟩ := kd_s h
  refine g_getI 0 hE kc_R k1 (Nat.le_of_ble_eq_true rfl) rfl m_376 d_R_thrown_1 (fun x2 e => ?_)
  replace h := lt_i e h; clear e
  cases h
  exact g_iret hE d_R_thrown_4 rfl rfl
