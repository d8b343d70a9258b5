theorem d_Dr_resultsAgreeWithin_0 : dc b_Dr_resultsAgreeWithin 0 (.iload_n 2) 1 1 := ⟨by decide +kernel, rfl⟩
theorem d_Dr_resultsAgreeWithin_1 : dc b_Dr_resultsAgreeWithin 1 (.iload_n 1) 1 2 := ⟨by decide +kernel, rfl⟩
theorem d_Dr_resultsAgreeWithin_2 : dc b_Dr_resultsAgreeWithin 2 (.isub) 1 3 := ⟨by decide +kernel, rfl⟩
theorem d_Dr_resultsAgreeWithin_3 : dc b_Dr_resultsAgreeWithin 3 (.iconst 1) 1 4 := ⟨by decide +kernel, rfl⟩
theorem d_Dr_resultsAgreeWithin_4 : db b_Dr_resultsAgreeWithin 4 (.if_icmp .ne 5) 5 9 7 := ⟨by decide +kernel, by decide, rfl⟩
theorem d_Dr_resultsAgreeWithin_7 : dc b_Dr_resultsAgreeWithin 7 (.iconst 1) 1 8 := ⟨by decide +kernel, rfl⟩
theorem d_Dr_resultsAgreeWithin_8 : dc b_Dr_resultsAgreeWithin 8 (.ireturn) 1 9 := ⟨by decide +kernel, rfl⟩
theorem d_Dr_resultsAgreeWithin_9 : dc b_Dr_resultsAgreeWithin 9 (.iconst 0) 1 10 := ⟨by decide +kernel, rfl⟩
theorem d_Dr_resultsAgreeWithin_10 : dc b_Dr_resultsAgreeWithin 10 (.istore_n 3) 1 11 := ⟨by decide +kernel, rfl⟩
theorem d_Dr_resultsAgreeWithin_11 : dc b_Dr_resultsAgreeWithin 11 (.iload_n 1) 1 12 := ⟨by decide +kernel, rfl⟩
theorem d_Dr_resultsAgreeWithin_12 : dc b_Dr_resultsAgreeWithin 12 (.istore 4) 2 14 := ⟨by decide +kernel, rfl⟩
theorem d_Dr_resultsAgreeWithin_14 : dc b_Dr_resultsAgreeWithin 14 (.iload 4) 2 16 := ⟨by decide +kernel, rfl⟩
theorem d_Dr_resultsAgreeWithin_16 : dc b_Dr_resultsAgreeWithin 16 (.iload_n 2) 1 17 := ⟨by decide +kernel, rfl⟩
theorem d_Dr_resultsAgreeWithin_17 : db b_Dr_resultsAgreeWithin 17 (.if_icmp .ge 60) 60 77 20 := ⟨by decide +kernel, by decide, rfl⟩
theorem d_Dr_resultsAgreeWithin_20 : dc b_Dr_resultsAgreeWithin 20 (.aload_n 0) 1 21 := ⟨by decide +kernel, rfl⟩
theorem d_Dr_resultsAgreeWithin_21 : dc b_Dr_resultsAgreeWithin 21 (.getfield 11) 3 24 := ⟨by decide +kernel, rfl⟩
theorem d_Dr_resultsAgreeWithin_24 : dc b_Dr_resultsAgreeWithin 24 (.iload 4) 2 26 := ⟨by decide +kernel, rfl⟩
theorem d_Dr_resultsAgreeWithin_26 : dc b_Dr_resultsAgreeWithin 26 (.aaload) 1 27 := ⟨by decide +kernel, rfl⟩
theorem d_Dr_resultsAgreeWithin_27 : dc b_Dr_resultsAgreeWithin 27 (.getfield 34) 3 30 := ⟨by decide +kernel, rfl⟩
theorem d_Dr_resultsAgreeWithin_30 : dc b_Dr_resultsAgreeWithin 30 (.getfield 44) 3 33 := ⟨by decide +kernel, rfl⟩
theorem d_Dr_resultsAgreeWithin_33 : dc b_Dr_resultsAgreeWithin 33 (.istore 5) 2 35 := ⟨by decide +kernel, rfl⟩
theorem d_Dr_resultsAgreeWithin_35 : dc b_Dr_resultsAgreeWithin 35 (.iload 5) 2 37 := ⟨by decide +kernel, rfl⟩
theorem d_Dr_resultsAgreeWithin_37 : db b_Dr_resultsAgreeWithin 37 (.ifCond .eq 11) 11 48 40 := ⟨by decide +kernel, by decide, rfl⟩
theorem d_Dr_resultsAgreeWithin_40 : dc b_Dr_resultsAgreeWithin 40 (.iload 5) 2 42 := ⟨by decide +kernel, rfl⟩
theorem d_Dr_resultsAgreeWithin_42 : dc b_Dr_resultsAgreeWithin 42 (.invokestatic 81) 3 45 := ⟨by decide +kernel, rfl⟩
theorem d_Dr_resultsAgreeWithin_45 : db b_Dr_resultsAgreeWithin 45 (.ifCond .eq 5) 5 50 48 := ⟨by decide +kernel, by decide, rfl⟩
theorem d_Dr_resultsAgreeWithin_48 : dc b_Dr_resultsAgreeWithin 48 (.iconst 0) 1 49 := ⟨by decide +kernel, rfl⟩
theorem d_Dr_resultsAgreeWithin_49 : dc b_Dr_resultsAgreeWithin 49 (.ireturn) 1 50 := ⟨by decide +kernel, rfl⟩
theorem d_Dr_resultsAgreeWithin_50 : dc b_Dr_resultsAgreeWithin 50 (.iload_n 3) 1 51 := ⟨by decide +kernel, rfl⟩
theorem d_Dr_resultsAgreeWithin_51 : db b_Dr_resultsAgreeWithin 51 (.ifCond .ne 14) 14 65 54 := ⟨by decide +kernel, by decide, rfl⟩
theorem d_Dr_resultsAgreeWithin_54 : dc b_Dr_resultsAgreeWithin 54 (.aload_n 0) 1 55 := ⟨by decide +kernel, rfl⟩
theorem d_Dr_resultsAgreeWithin_55 : dc b_Dr_resultsAgreeWithin 55 (.iload 5) 2 57 := ⟨by decide +kernel, rfl⟩
theorem d_Dr_resultsAgreeWithin_57 : dc b_Dr_resultsAgreeWithin 57 (.iload_n 1) 1 58 := ⟨by decide +kernel, rfl⟩
theorem d_Dr_resultsAgreeWithin_58 : dc b_Dr_resultsAgreeWithin 58 (.iload_n 2) 1 59 := ⟨by decide +kernel, rfl⟩
theorem d_Dr_resultsAgreeWithin_59 : dc b_Dr_resultsAgreeWithin 59 (.invokevirtual 85) 3 62 := ⟨by decide +kernel, rfl⟩
theorem d_Dr_resultsAgreeWithin_62 : db b_Dr_resultsAgreeWithin 62 (.ifCond .eq 7) 7 69 65 := ⟨by decide +kernel, by decide, rfl⟩
theorem d_Dr_resultsAgreeWithin_65 : dc b_Dr_resultsAgreeWithin 65 (.iconst 1) 1 66 := ⟨by decide +kernel, rfl⟩
theorem d_Dr_resultsAgreeWithin_66 : db b_Dr_resultsAgreeWithin 66 (.goto 4) 4 70 69 := ⟨by decide +kernel, by decide, rfl⟩
theorem d_Dr_resultsAgreeWithin_69 : dc b_Dr_resultsAgreeWithin 69 (.iconst 0) 1 70 := ⟨by decide +kernel, rfl⟩
theorem d_Dr_resultsAgreeWithin_70 : dc b_Dr_resultsAgreeWithin 70 (.istore_n 3) 1 71 := ⟨by decide +kernel, rfl⟩
theorem d_Dr_resultsAgreeWithin_71 : dc b_Dr_resultsAgreeWithin 71 (.iinc 4 1) 3 74 := ⟨by decide +kernel, rfl⟩
theorem d_Dr_resultsAgreeWithin_74 : db b_Dr_resultsAgreeWithin 74 (.goto (-60)) (-60) 14 77 := ⟨by decide +kernel, by decide, rfl⟩
theorem d_Dr_resultsAgreeWithin_77 : dc b_Dr_resultsAgreeWithin 77 (.iload_n 3) 1 78 := ⟨by decide +kernel, rfl⟩
theorem d_Dr_resultsAgreeWithin_78 : dc b_Dr_resultsAgreeWithin 78 (.ireturn) 1 79 := ⟨by decide +kernel, rfl⟩
def f_Dr_resultsAgreeWithin_J70 (S : gS) (d : gD) (o : Nat) (kb : Int32 → Int32 → Int32 → Int32 → Option (Int32)) (v1 : Int32) (v2 : Int32) (v4 : Int32) (u0 : Int32) : Option (Int32) :=
  kb v1 v2 u0 (v4 + 1)
set_option maxRecDepth 100000 in
set_option maxHeartbeats 4000000 in
theorem w_Dr_resultsAgreeWithin_J70 {X : GX} (hE : gE X b_Dr_resultsAgreeWithin 6 "StandInMill$Draft" (some (.boolean)) "resultsAgreeWithin" 3 67) {S : gS} {d : gD} {o : Nat} {r : Int32} {kb : Int32 → Int32 → Int32 → Int32 → Option (Int32)} (hkb : ∀ (v1 : Int32) (v2 : Int32) (v3 : Int32) (v4 : Int32), kb v1 v2 v3 v4 = some r → gw X 0 0 (gQ X (some (.int r)) S d 0 0) S d 14 [some (va_rf (some o)), some (.int v1), some (.int v2), some (.int v3), some (.int v4), none] []) :
    ∀ (v1 : Int32) (v2 : Int32) (v4 : Int32) (u0 : Int32), f_Dr_resultsAgreeWithin_J70 S d o kb v1 v2 v4 u0 = some r → gw X 0 0 (gQ X (some (.int r)) S d 0 0) S d 70 [some (va_rf (some o)), some (.int v1), some (.int v2), none, some (.int v4), none] [.int u0] := by
  intro v1 v2 v4 u0 h
  unfold f_Dr_resultsAgreeWithin_J70 at h
  refine g_istore_n (i := 3) (lv' := [some (va_rf (some o)), some (.int v1), some (.int v2), some (.int u0), some (.int v4), none]) hE d_Dr_resultsAgreeWithin_70 rfl (Nat.le_of_ble_eq_true rfl) ⟨rfl, Nat.le_of_ble_eq_true rfl⟩ (lvp_i rfl) ?_
  refine g_iinc (i := 4) (lv' := [some (va_rf (some o)), some (.int v1), some (.int v2), some (.int u0), some (.int (v4 + 1)), none]) hE d_Dr_resultsAgreeWithin_71 ki_1 rfl (Nat.le_of_ble_eq_true rfl) ⟨rfl, Nat.le_of_ble_eq_true rfl⟩ (lvp_i rfl) ?_
  refine g_goto hE d_Dr_resultsAgreeWithin_74 ?_
  exact gw.less (lv' := [some (va_rf (some o)), some (.int v1), some (.int v2), some (.int u0), some (.int (v4 + 1)), none]) (And.intro rfl (And.intro rfl (And.intro rfl (And.intro rfl (And.intro rfl trivial))))) (hkb v1 v2 u0 (v4 + 1) h)
def f_Dr_resultsAgreeWithin_J65 (S : gS) (d : gD) (o : Nat) (kb : Int32 → Int32 → Int32 → Int32 → Option (Int32)) (v1 : Int32) (v2 : Int32) (v4 : Int32) : Option (Int32) :=
  f_Dr_resultsAgreeWithin_J70 S d o kb v1 v2 v4 1
set_option maxRecDepth 100000 in
set_option maxHeartbeats 4000000 in
theorem w_Dr_resultsAgreeWithin_J65 {X : GX} (hE : gE X b_Dr_resultsAgreeWithin 6 "StandInMill$Draft" (some (.boolean)) "resultsAgreeWithin" 3 67) {S : gS} {d : gD} {o : Nat} {r : Int32} {kb : Int32 → Int32 → Int32 → Int32 → Option (Int32)} (hkb : ∀ (v1 : Int32) (v2 : Int32) (v3 : Int32) (v4 : Int32), kb v1 v2 v3 v4 = some r → gw X 0 0 (gQ X (some (.int r)) S d 0 0) S d 14 [some (va_rf (some o)), some (.int v1), some (.int v2), some (.int v3), some (.int v4), none] []) :
    ∀ (v1 : Int32) (v2 : Int32) (v4 : Int32), f_Dr_resultsAgreeWithin_J65 S d o kb v1 v2 v4 = some r → gw X 0 0 (gQ X (some (.int r)) S d 0 0) S d 65 [some (va_rf (some o)), some (.int v1), some (.int v2), none, some (.int v4), none] [] := by
  intro v1 v2 v4 h
  unfold f_Dr_resultsAgreeWithin_J65 at h
  refine g_iconst hE d_Dr_resultsAgreeWithin_65 ki_1 ?_
  refine g_goto hE d_Dr_resultsAgreeWithin_66 ?_
  exact gw.less (lv' := [some (va_rf (some o)), some (.int v1), some (.int v2), none, some (.int v4), none]) (And.intro rfl (And.intro rfl (And.intro rfl (And.intro rfl trivial)))) (w_Dr_resultsAgreeWithin_J70 hE hkb v1 v2 v4 1 h)
def f_Dr_resultsAgreeWithin_B14 (S : gS) (d : gD) (o : Nat) (kb : Int32 → Int32 → Int32 → Int32 → Option (Int32)) (v1 : Int32) (v2 : Int32) (v3 : Int32) (v4 : Int32) : Option (Int32) :=
  if v2 ≤ v4 then (
    nb v3 <|
    some v3)
  else (
    kd S o 3 <|
    lt_ (sP S o 1) fun x3 =>
    nn x3 fun a4 =>
    kd S a4 63 <|
    gi v4 (sN S a4) <|
    lt_ (sP S a4 v4.toNatClampNeg) fun x7 =>
    nn x7 fun a8 =>
    kd S a8 7 <|
    lt_ (sP S a8 0) fun x10 =>
    nn x10 fun a11 =>
    kd S a11 5 <|
    lt_ (dI d a11 4) fun x13 =>
    if x13 = 0 then (
      some 0)
    else (
      bd (f_M_isPlain S d x13) fun x14 =>
      if x14 = 0 then (
        if v3 = 0 then (
          bd (f_Dr_isBelowAll S d o x13 v1 v2) fun x16 =>
          if x16 = 0 then (
            f_Dr_resultsAgreeWithin_J70 S d o kb v1 v2 v4 0)
          else (
            f_Dr_resultsAgreeWithin_J65 S d o kb v1 v2 v4))
        else (
          f_Dr_resultsAgreeWithin_J65 S d o kb v1 v2 v4))
      else (
        some 0)))
set_option maxRecDepth 100000 in
set_option maxHeartbeats 4000000 in
theorem w_Dr_resultsAgreeWithin_B14 {X : GX} (hE : gE X b_Dr_resultsAgreeWithin 6 "StandInMill$Draft" (some (.boolean)) "resultsAgreeWithin" 3 67) {S : gS} {d : gD} {o : Nat} {r : Int32} {kb : Int32 → Int32 → Int32 → Int32 → Option (Int32)} (hkb : ∀ (v1 : Int32) (v2 : Int32) (v3 : Int32) (v4 : Int32), kb v1 v2 v3 v4 = some r → gw X 0 0 (gQ X (some (.int r)) S d 0 0) S d 14 [some (va_rf (some o)), some (.int v1), some (.int v2), some (.int v3), some (.int v4), none] []) :
    ∀ (v1 : Int32) (v2 : Int32) (v3 : Int32) (v4 : Int32), f_Dr_resultsAgreeWithin_B14 S d o kb v1 v2 v3 v4 = some r → gw X 0 0 (gQ X (some (.int r)) S d 0 0) S d 14 [some (va_rf (some o)), some (.int v1), some (.int v2), some (.int v3), some (.int v4), none] [] := by
  intro v1 v2 v3 v4 h
  unfold f_Dr_resultsAgreeWithin_B14 at h
  refine g_iload (i := 4) hE d_Dr_resultsAgreeWithin_14 rfl ?_
  refine g_iload_n (i := 2) hE d_Dr_resultsAgreeWithin_16 rfl rfl ?_
  refine g_icmp_ge hE d_Dr_resultsAgreeWithin_17 (fun c22 => ?_) (fun c22 => ?_)
  · replace h := if_t c22 h
    refine g_iload_n (i := 3) hE d_Dr_resultsAgreeWithin_77 rfl rfl ?_
    obtain ⟨g1, h⟩ := nb_s h
    cases h
    exact g_zret hE g1 d_Dr_resultsAgreeWithin_78 rfl rfl
  · replace h := if_f c22 h
    refine g_aload_n (i := 0) hE d_Dr_resultsAgreeWithin_20 rfl rfl ?_
    obtain ⟨k2, h⟩ := kd_s h
    refine g_getR 1 hE kc_Dr k2 (Nat.le_of_ble_eq_true rfl) rfl m_13 d_Dr_resultsAgreeWithin_21 (fun x3 e => ?_)
    replace h := lt_i e h; clear e
    refine g_iload (i := 4) hE d_Dr_resultsAgreeWithin_24 rfl ?_
    obtain ⟨a4, rfl, h⟩ := nn_s h
    obtain ⟨k5, h⟩ := kd_s h
    obtain ⟨g6, h⟩ := gi_s h
    refine g_aald hE k5 (by decide) rfl (fun _ => rfl) g6 d_Dr_resultsAgreeWithin_26 (fun x7 e => ?_)
    replace h := lt_i e h; clear e
    obtain ⟨a8, rfl, h⟩ := nn_s h
    obtain ⟨k9, h⟩ := kd_s h
    refine g_getRN 0 hE kc_Sm k9 (Nat.le_of_ble_eq_true rfl) rfl nf_18 d_Dr_resultsAgreeWithin_27 (fun x10 e => ?_)
    replace h := lt_i e h; clear e
    obtain ⟨a11, rfl, h⟩ := nn_s h
    obtain ⟨k12, h⟩ := kd_s h
    refine g_getIN 4 hE kc_Om k12 (Nat.le_of_ble_eq_true rfl) rfl nf_21 d_Dr_resultsAgreeWithin_30 (fun x13 e => ?_)
    replace h := lt_i e h; clear e
    refine g_istore (i := 5) (lv' := [some (va_rf (some o)), some (.int v1), some (.int v2), some (.int v3), some (.int v4), some (.int x13)]) hE d_Dr_resultsAgreeWithin_33 (Nat.le_of_ble_eq_true rfl) ⟨rfl, Nat.le_of_ble_eq_true rfl⟩ (lvp_i rfl) ?_
    refine g_iload (i := 5) hE d_Dr_resultsAgreeWithin_35 rfl ?_
    refine g_if_eq hE d_Dr_resultsAgreeWithin_37 (fun c21 => ?_) (fun c21 => ?_)
    · replace h := if_t c21 h
      refine g_iconst hE d_Dr_resultsAgreeWithin_48 ki_0 ?_
      cases h
      exact g_zret hE (Or.inl rfl) d_Dr_resultsAgreeWithin_49 rfl rfl
    · replace h := if_f c21 h
      refine g_iload (i := 5) hE d_Dr_resultsAgreeWithin_40 rfl ?_
      obtain ⟨x14, e15, h⟩ := bd_s h
      refine g_callSN (av := [.inl x13]) (stk := [.int x14]) [] hE (c_M_isPlain (xl X) (xG X) e15) ky_M_isPlain ⟨Nat.le_of_ble_eq_true rfl, Nat.le_of_ble_eq_true rfl⟩ nm_4 m_130 rfl d_Dr_resultsAgreeWithin_42 rfl rfl ct_0 (Nat.zero_le _) (Nat.zero_le _) ?_
      refine gw.cs (c2 := 0) (s2 := 0) rfl rfl ?_
      refine g_if_eq hE d_Dr_resultsAgreeWithin_45 (fun c20 => ?_) (fun c20 => ?_)
      · replace h := if_t c20 h
        refine g_iload_n (i := 3) hE d_Dr_resultsAgreeWithin_50 rfl rfl ?_
        refine g_if_ne hE d_Dr_resultsAgreeWithin_51 (fun c19 => ?_) (fun c19 => ?_)
        · replace h := if_f c19 h
          exact gw.less (lv' := [some (va_rf (some o)), some (.int v1), some (.int v2), none, some (.int v4), none]) (And.intro rfl (And.intro rfl (And.intro rfl (And.intro rfl trivial)))) (w_Dr_resultsAgreeWithin_J65 hE hkb v1 v2 v4 h)
        · replace h := if_t c19 h
          refine g_aload_n (i := 0) hE d_Dr_resultsAgreeWithin_54 rfl rfl ?_
          refine g_iload (i := 5) hE d_Dr_resultsAgreeWithin_55 rfl ?_
          refine g_iload_n (i := 1) hE d_Dr_resultsAgreeWithin_57 rfl rfl ?_
          refine g_iload_n (i := 2) hE d_Dr_resultsAgreeWithin_58 rfl rfl ?_
          obtain ⟨x16, e17, h⟩ := bd_s h
          refine g_callV (av := [.inr (.inr (some o)), .inl x13, .inl v1, .inl v2]) (as := [.inl x13, .inl v1, .inl v2]) (stk := [.int x16]) [] hE (c_Dr_isBelowAll (xl X) (xG X) e17) ky_Dr_isBelowAll ⟨Nat.le_of_ble_eq_true rfl, Nat.le_of_ble_eq_true rfl⟩ rfl kc_Dr k2 m_231 m_232 m_233 rfl d_Dr_resultsAgreeWithin_59 rfl rfl ct_0 (Nat.zero_le _) (Nat.zero_le _) ?_
          refine gw.cs (c2 := 0) (s2 := 0) rfl rfl ?_
          refine g_if_eq hE d_Dr_resultsAgreeWithin_62 (fun c18 => ?_) (fun c18 => ?_)
          · replace h := if_t c18 h
            refine g_iconst hE d_Dr_resultsAgreeWithin_69 ki_0 ?_
            exact gw.less (lv' := [some (va_rf (some o)), some (.int v1), some (.int v2), none, some (.int v4), none]) (And.intro rfl (And.intro rfl (And.intro rfl (And.intro rfl trivial)))) (w_Dr_resultsAgreeWithin_J70 hE hkb v1 v2 v4 0 h)
          · replace h := if_f c18 h
            exact gw.less (lv' := [some (va_rf (some o)), some (.int v1), some (.int v2), none, some (.int v4), none]) (And.intro rfl (And.intro rfl (And.intro rfl (And.intro rfl trivial)))) (w_Dr_resultsAgreeWithin_J65 hE hkb v1 v2 v4 h)
      · replace h := if_f c20 h
        refine g_iconst hE d_Dr_resultsAgreeWithin_48 ki_0 ?_
        cases h
        exact g_zret hE (Or.inl rfl) d_Dr_resultsAgreeWithin_49 rfl rfl
theorem w_Dr_resultsAgreeWithin_L14 {X : GX} (hE : gE X b_Dr_resultsAgreeWithin 6 "StandInMill$Draft" (some (.boolean)) "resultsAgreeWithin" 3 67) {S : gS} {d : gD} {o : Nat} {r : Int32} : ∀ (n : Nat) (v1 : Int32) (v2 : Int32) (v3 : Int32) (v4 : Int32), itr (f_Dr_resultsAgreeWithin_B14 S d o) (fun _ _ _ _ => none) n v1 v2 v3 v4 = some r → gw X 0 0 (gQ X (some (.int r)) S d 0 0) S d 14 [some (va_rf (some o)), some (.int v1), some (.int v2), some (.int v3), some (.int v4), none] [] := by
  intro n
  induction n with
  | zero => intro v1 v2 v3 v4 h; cases h
  | succ n ih => exact w_Dr_resultsAgreeWithin_B14 hE ih
set_option maxRecDepth 100000 in
def f_Dr_resultsAgreeWithin (S : gS) (d : gD) (o : Nat) (v1 : Int32) (v2 : Int32) : Option (Int32) :=
  if (v2 - v1) = 1 then (
    some 1)
  else (
    itr (f_Dr_resultsAgreeWithin_B14 S d o) (fun _ _ _ _ => none) fu v1 v2 0 v1)
set_option maxRecDepth 100000 in
set_option maxHeartbeats 4000000 in
theorem c_Dr_resultsAgreeWithin (l : Launch) (G : gG) {S : gS} {d : gD} {o : Nat} {v1 : Int32} {v2 : Int32} {r : Int32} (h : f_Dr_resultsAgreeWithin S d o v1 v2 = some r) : GM l G y_Dr_resultsAgreeWithin b_Dr_resultsAgreeWithin 6 (some (.boolean)) 3 67 0 0 [.inr (.inr (some o)), .inl v1, .inl v2] S d (some (.int r)) S d := by
  refine GM.of (by decide) (Nat.le_of_ble_eq_true rfl) ?_
  intro X hl0 hG0 hR0 hE0
  have hE : gE X b_Dr_resultsAgreeWithin 6 "StandInMill$Draft" (some (.boolean)) "resultsAgreeWithin" 3 67 := hE0
  unfold f_Dr_resultsAgreeWithin at h
  refine gw.less (lv' := [some (va_rf (some o)), some (.int v1), some (.int v2), none, none, none]) (And.intro rfl (And.intro rfl (And.intro rfl trivial))) ?_
  refine g_iload_n (i := 2) hE d_Dr_resultsAgreeWithin_0 rfl rfl ?_
  refine g_iload_n (i := 1) hE d_Dr_resultsAgreeWithin_1 rfl rfl ?_
  refine g_isub hE d_Dr_resultsAgreeWithin_2 ?_
  refine g_iconst hE d_Dr_resultsAgreeWithin_3 ki_1 ?_
  refine g_icmp_ne hE d_Dr_resultsAgreeWithin_4 (fun c1 => ?_) (fun c1 => ?_)
  · replace h := if_f c1 h
    refine g_iconst hE d_Dr_resultsAgreeWithin_9 ki_0 ?_
    refine g_istore_n (i := 3) (lv' := [some (va_rf (some o)), some (.int v1), some (.int v2), some (.int 0), none, none]) hE d_Dr_resultsAgreeWithin_10 rfl (Nat.le_of_ble_eq_true rfl) ⟨rfl, Nat.le_of_ble_eq_true rfl⟩ (lvp_i rfl) ?_
    refine g_iload_n (i := 1) hE d_Dr_resultsAgreeWithin_11 rfl rfl ?_
    refine g_istore (i := 4) (lv' := [some (va_rf (some o)), some (.int v1), some (.int v2), some (.int 0), some (.int v1), none]) hE d_Dr_resultsAgreeWithin_12 (Nat.le_of_ble_eq_true rfl) ⟨rfl, Nat.le_of_ble_eq_true rfl⟩ (lvp_i rfl) ?_
    exact gw.less (lv' := [some (va_rf (some o)), some (.int v1), some (.int v2), some (.int 0), some (.int v1), none]) (And.intro rfl (And.intro rfl (And.intro rfl (And.intro rfl (And.intro rfl trivial))))) (w_Dr_resultsAgreeWithin_L14 hE fu v1 v2 0 v1 h)
  · replace h := if_t c1 h
    refine g_iconst hE d_Dr_resultsAgreeWithin_7 ki_1 ?_
    cases h
    exact g_zret hE (Or.inr rfl) d_Dr_resultsAgreeWithin_8 rfl rfl
theorem d_Dr_resultsAgree_0 : dc b_Dr_resultsAgree 0 (.iconst 0) 1 1 := ⟨by decide +kernel, rfl⟩
theorem d_Dr_resultsAgree_1 : dc b_Dr_resultsAgree 1 (.istore_n 1) 1 2 := ⟨by decide +kernel, rfl⟩
theorem d_Dr_resultsAgree_2 : dc b_Dr_resultsAgree 2 (.iload_n 1) 1 3 := ⟨by decide +kernel, rfl⟩
theorem d_Dr_resultsAgree_3 : dc b_Dr_resultsAgree 3 (.aload_n 0) 1 4 := ⟨by decide +kernel, rfl⟩
theorem d_Dr_resultsAgree_4 : dc b_Dr_resultsAgree 4 (.getfield 30) 3 7 := ⟨by decide +kernel, rfl⟩
theorem d_Dr_resultsAgree_7 : db b_Dr_resultsAgree 7 (.if_icmp .ge 64) 64 71 10 := ⟨by decide +kernel, by decide, rfl⟩
theorem d_Dr_resultsAgree_10 : dc b_Dr_resultsAgree 10 (.iload_n 1) 1 11 := ⟨by decide +kernel, rfl⟩
theorem d_Dr_resultsAgree_11 : db b_Dr_resultsAgree 11 (.ifCond .eq 29) 29 40 14 := ⟨by decide +kernel, by decide, rfl⟩
theorem d_Dr_resultsAgree_14 : dc b_Dr_resultsAgree 14 (.aload_n 0) 1 15 := ⟨by decide +kernel, rfl⟩
theorem d_Dr_resultsAgree_15 : dc b_Dr_resultsAgree 15 (.getfield 11) 3 18 := ⟨by decide +kernel, rfl⟩
theorem d_Dr_resultsAgree_18 : dc b_Dr_resultsAgree 18 (.iload_n 1) 1 19 := ⟨by decide +kernel, rfl⟩
theorem d_Dr_resultsAgree_19 : dc b_Dr_resultsAgree 19 (.aaload) 1 20 := ⟨by decide +kernel, rfl⟩
theorem d_Dr_resultsAgree_20 : dc b_Dr_resultsAgree 20 (.getfield 34) 3 23 := ⟨by decide +kernel, rfl⟩
theorem d_Dr_resultsAgree_23 : dc b_Dr_resultsAgree 23 (.aload_n 0) 1 24 := ⟨by decide +kernel, rfl⟩
theorem d_Dr_resultsAgree_24 : dc b_Dr_resultsAgree 24 (.getfield 11) 3 27 := ⟨by decide +kernel, rfl⟩
theorem d_Dr_resultsAgree_27 : dc b_Dr_resultsAgree 27 (.iload_n 1) 1 28 := ⟨by decide +kernel, rfl⟩
theorem d_Dr_resultsAgree_28 : dc b_Dr_resultsAgree 28 (.iconst 1) 1 29 := ⟨by decide +kernel, rfl⟩
theorem d_Dr_resultsAgree_29 : dc b_Dr_resultsAgree 29 (.isub) 1 30 := ⟨by decide +kernel, rfl⟩
theorem d_Dr_resultsAgree_30 : dc b_Dr_resultsAgree 30 (.aaload) 1 31 := ⟨by decide +kernel, rfl⟩
theorem d_Dr_resultsAgree_31 : dc b_Dr_resultsAgree 31 (.getfield 34) 3 34 := ⟨by decide +kernel, rfl⟩
theorem d_Dr_resultsAgree_34 : dc b_Dr_resultsAgree 34 (.invokevirtual 38) 3 37 := ⟨by decide +kernel, rfl⟩
theorem d_Dr_resultsAgree_37 : db b_Dr_resultsAgree 37 (.ifCond .ne 7) 7 44 40 := ⟨by decide +kernel, by decide, rfl⟩
theorem d_Dr_resultsAgree_40 : dc b_Dr_resultsAgree 40 (.iconst 1) 1 41 := ⟨by decide +kernel, rfl⟩
theorem d_Dr_resultsAgree_41 : db b_Dr_resultsAgree 41 (.goto 4) 4 45 44 := ⟨by decide +kernel, by decide, rfl⟩
theorem d_Dr_resultsAgree_44 : dc b_Dr_resultsAgree 44 (.iconst 0) 1 45 := ⟨by decide +kernel, rfl⟩
theorem d_Dr_resultsAgree_45 : dc b_Dr_resultsAgree 45 (.istore_n 2) 1 46 := ⟨by decide +kernel, rfl⟩
theorem d_Dr_resultsAgree_46 : dc b_Dr_resultsAgree 46 (.iload_n 2) 1 47 := ⟨by decide +kernel, rfl⟩
theorem d_Dr_resultsAgree_47 : db b_Dr_resultsAgree 47 (.ifCond .eq 18) 18 65 50 := ⟨by decide +kernel, by decide, rfl⟩
theorem d_Dr_resultsAgree_50 : dc b_Dr_resultsAgree 50 (.aload_n 0) 1 51 := ⟨by decide +kernel, rfl⟩
theorem d_Dr_resultsAgree_51 : dc b_Dr_resultsAgree 51 (.iload_n 1) 1 52 := ⟨by decide +kernel, rfl⟩
theorem d_Dr_resultsAgree_52 : dc b_Dr_resultsAgree 52 (.aload_n 0) 1 53 := ⟨by decide +kernel, rfl⟩
theorem d_Dr_resultsAgree_53 : dc b_Dr_resultsAgree 53 (.iload_n 1) 1 54 := ⟨by decide +kernel, rfl⟩
theorem d_Dr_resultsAgree_54 : dc b_Dr_resultsAgree 54 (.invokevirtual 73) 3 57 := ⟨by decide +kernel, rfl⟩
theorem d_Dr_resultsAgree_57 : dc b_Dr_resultsAgree 57 (.invokevirtual 77) 3 60 := ⟨by decide +kernel, rfl⟩
theorem d_Dr_resultsAgree_60 : db b_Dr_resultsAgree 60 (.ifCond .ne 5) 5 65 63 := ⟨by decide +kernel, by decide, rfl⟩
theorem d_Dr_resultsAgree_63 : dc b_Dr_resultsAgree 63 (.iconst 0) 1 64 := ⟨by decide +kernel, rfl⟩
theorem d_Dr_resultsAgree_64 : dc b_Dr_resultsAgree 64 (.ireturn) 1 65 := ⟨by decide +kernel, rfl⟩
theorem d_Dr_resultsAgree_65 : dc b_Dr_resultsAgree 65 (.iinc 1 1) 3 68 := ⟨by decide +kernel, rfl⟩
theorem d_Dr_resultsAgree_68 : db b_Dr_resultsAgree 68 (.goto (-66)) (-66) 2 71 := ⟨by decide +kernel, by decide, rfl⟩
theorem d_Dr_resultsAgree_71 : dc b_Dr_resultsAgree 71 (.iconst 1) 1 72 := ⟨by decide +kernel, rfl⟩
theorem d_Dr_resultsAgree_72 : dc b_Dr_resultsAgree 72 (.ireturn) 1 73 := ⟨by decide +kernel, rfl⟩
def f_Dr_resultsAgree_J65 (S : gS) (d : gD) (o : Nat) (kb : Int32 → Option (Int32)) (v1 : Int32) : Option (Int32) :=
  kb (v1 + 1)
set_option maxRecDepth 100000 in
set_option maxHeartbeats 4000000 in
theorem w_Dr_resultsAgree_J65 {X : GX} (hE : gE X b_Dr_resultsAgree 3 "StandInMill$Draft" (some (.boolean)) "resultsAgree" 4 92) {S : gS} {d : gD} {o : Nat} {r : Int32} {kb : Int32 → Option (Int32)} (hkb : ∀ (v1 : Int32), kb v1 = some r → gw X 0 0 (gQ X (some (.int r)) S d 0 0) S d 2 [some (va_rf (some o)), some (.int v1), none] []) :
    ∀ (v1 : Int32), f_Dr_resultsAgree_J65 S d o kb v1 = some r → gw X 0 0 (gQ X (some (.int r)) S d 0 0) S d 65 [some (va_rf (some o)), some (.int v1), none] [] := by
  intro v1 h
  unfold f_Dr_resultsAgree_J65 at h
  refine g_iinc (i := 1) (lv' := [some (va_rf (some o)), some (.int (v1 + 1)), none]) hE d_Dr_resultsAgree_65 ki_1 rfl (Nat.le_of_ble_eq_true rfl) ⟨rfl, Nat.le_of_ble_eq_true rfl⟩ (lvp_r rfl) ?_
  refine g_goto hE d_Dr_resultsAgree_68 ?_
  exact gw.less (lv' := [some (va_rf (some o)), some (.int (v1 + 1)), none]) (And.intro rfl (And.intro rfl trivial)) (hkb (v1 + 1) h)
def f_Dr_resultsAgree_J45 (S : gS) (d : gD) (o : Nat) (kb : Int32 → Option (Int32)) (v1 : Int32) (u0 : Int32) : Option (Int32) :=
  if u0 = 0 then (
    f_Dr_resultsAgree_J65 S d o kb v1)
  else (
    kd S o 3 <|
    bd (f_Dr_endOfSignature S d o v1) fun x2 =>
    bd (f_Dr_resultsAgreeWithin S d o v1 x2) fun x4 =>
    if x4 = 0 then (
      some 0)
    else (
      f_Dr_resultsAgree_J65 S d o kb v1))
set_option maxRecDepth 100000 in
set_option maxHeartbeats 4000000 in
theorem w_Dr_resultsAgree_J45 {X : GX} (hE : gE X b_Dr_resultsAgree 3 "StandInMill$Draft" (some (.boolean)) "resultsAgree" 4 92) {S : gS} {d : gD} {o : Nat} {r : Int32} {kb : Int32 → Option (Int32)} (hkb : ∀ (v1 : Int32), kb v1 = some r → gw X 0 0 (gQ X (some (.int r)) S d 0 0) S d 2 [some (va_rf (some o)), some (.int v1), none] []) :
    ∀ (v1 : Int32) (u0 : Int32), f_Dr_resultsAgree_J45 S d o kb v1 u0 = some r → gw X 0 0 (gQ X (some (.int r)) S d 0 0) S d 45 [some (va_rf (some o)), some (.int v1), none] [.int u0] := by
  intro v1 u0 h
  unfold f_Dr_resultsAgree_J45 at h
  refine g_istore_n (i := 2) (lv' := [some (va_rf (some o)), some (.int v1), some (.int u0)]) hE d_Dr_resultsAgree_45 rfl (Nat.le_of_ble_eq_true rfl) ⟨rfl, Nat.le_of_ble_eq_true rfl⟩ (lvp_i rfl) ?_
  refine g_iload_n (i := 2) hE d_Dr_resultsAgree_46 rfl rfl ?_
  refine g_if_eq hE d_Dr_resultsAgree_47 (fun c7 => ?_) (fun c7 => ?_)
  · replace h := if_t c7 h
    exact gw.less (lv' := [some (va_rf (some o)), some (.int v1), none]) (And.intro rfl (And.intro rfl trivial)) (w_Dr_resultsAgree_J65 hE hkb v1 h)
  · replace h := if_f c7 h
    refine g_aload_n (i := 0) hE d_Dr_resultsAgree_50 rfl rfl ?_
    refine g_iload_n (i := 1) hE d_Dr_resultsAgree_51 rfl rfl ?_
    refine g_aload_n (i := 0) hE d_Dr_resultsAgree_52 rfl rfl ?_
    refine g_iload_n (i := 1) hE d_Dr_resultsAgree_53 rfl rfl ?_
    obtain ⟨k1, h⟩ := kd_s h
    obtain ⟨x2, e3, h⟩ := bd_s h
    refine g_callV (av := [.inr (.inr (some o)), .inl v1]) (as := [.inl v1]) (stk := [.int x2, .int v1, va_rf (some o)]) [.int v1, va_rf (some o)] hE (c_Dr_endOfSignature (xl X) (xG X) e3) ky_Dr_endOfSignature ⟨Nat.le_of_ble_eq_true rfl, Nat.le_of_ble_eq_true rfl⟩ rfl kc_Dr k1 m_234 m_235 m_236 rfl d_Dr_resultsAgree_54 rfl rfl (Nat.le_trans (ct_i (ct_r ct_n)) (Nat.le_of_ble_eq_true rfl)) (Nat.zero_le _) (Nat.zero_le _) ?_
    refine gw.cs (c2 := 0) (s2 := 0) rfl rfl ?_
    obtain ⟨x4, e5, h⟩ := bd_s h
    refine g_callV (av := [.inr (.inr (some o)), .inl v1, .inl x2]) (as := [.inl v1, .inl x2]) (stk := [.int x4]) [] hE (c_Dr_resultsAgreeWithin (xl X) (xG X) e5) ky_Dr_resultsAgreeWithin ⟨Nat.le_of_ble_eq_true rfl, Nat.le_of_ble_eq_true rfl⟩ rfl kc_Dr k1 m_237 m_238 m_239 rfl d_Dr_resultsAgree_57 rfl rfl ct_0 (Nat.zero_le _) (Nat.zero_le _) ?_
    refine gw.cs (c2 := 0) (s2 := 0) rfl rfl ?_
    refine g_if_ne hE d_Dr_resultsAgree_60 (fun c6 => ?_) (fun c6 => ?_)
    · replace h := if_f c6 h
      exact gw.less (lv' := [some (va_rf (some o)), some (.int v1), none]) (And.intro rfl (And.intro rfl trivial)) (w_Dr_resultsAgree_J65 hE hkb v1 h)
    · replace h := if_t c6 h
      refine g_iconst hE d_Dr_resultsAgree_63 ki_0 ?_
      cases h
      exact g_zret hE (Or.inl rfl) d_Dr_resultsAgree_64 rfl rfl
def f_Dr_resultsAgree_J40 (S : gS) (d : gD) (o : Nat) (kb : Int32 → Option (Int32)) (v1 : Int32) : Option (Int32) :=
  f_Dr_resultsAgree_J45 S d o kb v1 1
set_option maxRecDepth 100000 in
set_option maxHeartbeats 4000000 in
theorem w_Dr_resultsAgree_J40 {X : GX} (hE : gE X b_Dr_resultsAgree 3 "StandInMill$Draft" (some (.boolean)) "resultsAgree" 4 92) {S : gS} {d : gD} {o : Nat} {r : Int32} {kb : Int32 → Option (Int32)} (hkb : ∀ (v1 : Int32), kb v1 = some r → gw X 0 0 (gQ X (some (.int r)) S d 0 0) S d 2 [some (va_rf (some o)), some (.int v1), none] []) :
    ∀ (v1 : Int32), f_Dr_resultsAgree_J40 S d o kb v1 = some r → gw X 0 0 (gQ X (some (.int r)) S d 0 0) S d 40 [some (va_rf (some o)), some (.int v1), none] [] := by
  intro v1 h
  unfold f_Dr_resultsAgree_J40 at h
  refine g_iconst hE d_Dr_resultsAgree_40 ki_1 ?_
  refine g_goto hE d_Dr_resultsAgree_41 ?_
  exact gw.less (lv' := [some (va_rf (some o)), some (.int v1), none]) (And.intro rfl (And.intro rfl trivial)) (w_Dr_resultsAgree_J45 hE hkb v1 1 h)
def f_Dr_resultsAgree_B2 (S : gS) (d : gD) (o : Nat) (kb : Int32 → Option (Int32)) (v1 : Int32) : Option (Int32) :=
  kd S o 3 <|
  lt_ (dI d o 2) fun x2 =>
  if x2 ≤ v1 then (
    some 1)
  else (
    if v1 = 0 then (
      f_Dr_resultsAgree_J40 S d o kb v1)
    else (
      lt_ (sP S o 1) fun x3 =>
      nn x3 fun a4 =>
      kd S a4 63 <|
      gi v1 (sN S a4) <|
      lt_ (sP S a4 v1.toNatClampNeg) fun x7 =>
      nn x7 fun a8 =>
      kd S a8 7 <|
      lt_ (sP S a8 0) fun x10 =>
      lt_ (sP S o 1) fun x11 =>
      nn x11 fun a12 =>
      kd S a12 63 <|
      gi (v1 - 1) (sN S a12) <|
      lt_ (sP S a12 (v1 - 1 : Int32).toNatClampNeg) fun x15 =>
      nn x15 fun a16 =>
      kd S a16 7 <|
      lt_ (sP S a16 0) fun x18 =>
      nn x10 fun a19 =>
      kd S a19 5 <|
      bd (f_Om_hasSignatureOf S d a19 x18) fun x21 =>
      if x21 = 0 then (
        f_Dr_resultsAgree_J40 S d o kb v1)
      else (
        f_Dr_resultsAgree_J45 S d o kb v1 0)))
set_option maxRecDepth 100000 in
set_option maxHeartbeats 4000000 in
theorem w_Dr_resultsAgree_B2 {X : GX} (hE : gE X b_Dr_resultsAgree 3 "StandInMill$Draft" (some (.boolean)) "resultsAgree" 4 92) {S : gS} {d : gD} {o : Nat} {r : Int32} {kb : Int32 → Option (Int32)} (hkb : ∀ (v1 : Int32), kb v1 = some r → gw X 0 0 (gQ X (some (.int r)) S d 0 0) S d 2 [some (va_rf (some o)), some (.int v1), none] []) :
    ∀ (v1 : Int32), f_Dr_resultsAgree_B2 S d o kb v1 = some r → gw X 0 0 (gQ X (some (.int r)) S d 0 0) S d 2 [some (va_rf (some o)), some (.int v1), none] [] := by
  intro v1 h
  unfold f_Dr_resultsAgree_B2 at h
  refine g_iload_n (i := 1) hE d_Dr_resultsAgree_2 rfl rfl ?_
  refine g_aload_n (i := 0) hE d_Dr_resultsAgree_3 rfl rfl ?_
  obtain ⟨k1, h⟩ := kd_s h
  refine g_getI 2 hE kc_Dr k1 (Nat.le_of_ble_eq_true rfl) rfl m_188 d_Dr_resultsAgree_4 (fun x2 e => ?_)
  replace h := lt_i e h; clear e
  refine g_icmp_ge hE d_Dr_resultsAgree_7 (fun c25 => ?_) (fun c25 => ?_)
  · replace h := if_t c25 h
    refine g_iconst hE d_Dr_resultsAgree_71 ki_1 ?_
    cases h
    exact g_zret hE (Or.inr rfl) d_Dr_resultsAgree_72 rfl rfl
  · replace h := if_f c25 h
    refine g_iload_n (i := 1) hE d_Dr_resultsAgree_10 rfl rfl ?_
    refine g_if_eq hE d_Dr_resultsAgree_11 (fun c24 => ?_) (fun c24 => ?_)
    · replace h := if_t c24 h
      exact gw.less (lv' := [some (va_rf (some o)), some (.int v1), none]) (And.intro rfl (And.intro rfl trivial)) (w_Dr_resultsAgree_J40 hE hkb v1 h)
    · replace h := if_f c24 h
      refine g_aload_n (i := 0) hE d_Dr_resultsAgree_14 rfl rfl ?_
      refine g_getR 1 hE kc_Dr k1 (Nat.le_of_ble_eq_true rfl) rfl m_13 d_Dr_resultsAgree_15 (fun x3 e => ?_)
      replace h := lt_i e h; clear e
      refine g_iload_n (i := 1) hE d_Dr_resultsAgree_18 rfl rfl ?_
      obtain ⟨a4, rfl, h⟩ := nn_s h
      obtain ⟨k5, h⟩ := kd_s h
      obtain ⟨g6, h⟩ := gi_s h
      refine g_aald hE k5 (by decide) rfl (fun _ => rfl) g6 d_Dr_resultsAgree_19 (fun x7 e => ?_)
      replace h := lt_i e h; clear e
      obtain ⟨a8, rfl, h⟩ := nn_s h
      obtain ⟨k9, h⟩ := kd_s h
      refine g_getRN 0 hE kc_Sm k9 (Nat.le_of_ble_eq_true rfl) rfl nf_18 d_Dr_resultsAgree_20 (fun x10 e => ?_)
      replace h := lt_i e h; clear e
      refine g_aload_n (i := 0) hE d_Dr_resultsAgree_23 rfl rfl ?_
      refine g_getR 1 hE kc_Dr k1 (Nat.le_of_ble_eq_true rfl) rfl m_13 d_Dr_resultsAgree_24 (fun x11 e => ?_)
      replace h := lt_i e h; clear e
      refine g_iload_n (i := 1) hE d_Dr_resultsAgree_27 rfl rfl ?_
      refine g_iconst hE d_Dr_resultsAgree_28 ki_1 ?_
      refine g_isub hE d_Dr_resultsAgree_29 ?_
      obtain ⟨a12, rfl, h⟩ := nn_s h
      obtain ⟨k13, h⟩ := kd_s h
      obtain ⟨g14, h⟩ := gi_s h
      refine g_aald hE k13 (by decide) rfl (fun _ => rfl) g14 d_Dr_resultsAgree_30 (fun x15 e => ?_)
      replace h := lt_i e h; clear e
      obtain ⟨a16, rfl, h⟩ := nn_s h
      obtain ⟨k17, h⟩ := kd_s h
      refine g_getRN 0 hE kc_Sm k17 (Nat.le_of_ble_eq_true rfl) rfl nf_18 d_Dr_resultsAgree_31 (fun x18 e => ?_)
      replace h := lt_i e h; clear e
      obtain ⟨a19, rfl, h⟩ := nn_s h
      obtain ⟨k20, h⟩ := kd_s h
      obtain ⟨x21, e22, h⟩ := bd_s h
      refine g_callV (av := [.inr (.inr (some a19)), .inr (.inr x18)]) (as := [.inr (.inr x18)]) (stk := [.int x21]) [] hE (c_Om_hasSignatureOf (xl X) (xG X) e22) ky_Om_hasSignatureOf ⟨Nat.le_of_ble_eq_true rfl, Nat.le_of_ble_eq_true rfl⟩ rfl kc_Om k20 m_212 m_213 m_214 rfl d_Dr_resultsAgree_34 rfl rfl ct_0 (Nat.zero_le _) (Nat.zero_le _) ?_
      refine gw.cs (c2 := 0) (s2 := 0) rfl rfl ?_
      refine g_if_ne hE d_Dr_resultsAgree_37 (fun c23 => ?_) (fun c23 => ?_)
      · replace h := if_f c23 h
        refine g_iconst hE d_Dr_resultsAgree_44 ki_0 ?_
        exact gw.less (lv' := [some (va_rf (some o)), some (.int v1), none]) (And.intro rfl (And.intro rfl trivial)) (w_Dr_resultsAgree_J45 hE hkb v1 0 h)
      · replace h := if_t c23 h
        exact gw.less (lv' := [some (va_rf (some o)), some (.int v1), none]) (And.intro rfl (And.intro rfl trivial)) (w_Dr_resultsAgree_J40 hE hkb v1 h)
theorem w_Dr_resultsAgree_L2 {X : GX} (hE : gE X b_Dr_resultsAgree 3 "StandInMill$Draft" (some (.boolean)) "resultsAgree" 4 92) {S : gS} {d : gD} {o : Nat} {r : Int32} : ∀ (n : Nat) (v1 : Int32), itr (f_Dr_resultsAgree_B2 S d o) (fun _ => none) n v1 = some r → gw X 0 0 (gQ X (some (.int r)) S d 0 0) S d 2 [some (va_rf (some o)), some (.int v1), none] [] := by
  intro n
  induction n with
  | zero => intro v1 h; cases h
  | succ n ih => exact w_Dr_resultsAgree_B2 hE ih
set_option maxRecDepth 100000 in
def f_Dr_resultsAgree (S : gS) (d : gD) (o : Nat) : Option (Int32) :=
  itr (f_Dr_resultsAgree_B2 S d o) (fun _ => none) fu 0
set_option maxRecDepth 100000 in
set_option maxHeartbeats 4000000 in
theorem c_Dr_resultsAgree (l : Launch) (G : gG) {S : gS} {d : gD} {o : Nat} {r : Int32} (h : f_Dr_resultsAgree S d o = some r) : GM l G y_Dr_resultsAgree b_Dr_resultsAgree 3 (some (.boolean)) 4 92 0 0 [.inr (.inr (some o))] S d (some (.int r)) S d := by
  refine GM.of (by decide) (Nat.le_of_ble_eq_true rfl) ?_
  intro X hl0 hG0 hR0 hE0
  have hE : gE X b_Dr_resultsAgree 3 "StandInMill$Draft" (some (.boolean)) "resultsAgree" 4 92 := hE0
  unfold f_Dr_resultsAgree at h
  refine gw.less (lv' := [some (va_rf (some o)), none, none]) (And.intro rfl trivial) ?_
  refine g_iconst hE d_Dr_resultsAgree_0 ki_0 ?_
  refine g_istore_n (i := 1) (lv' := [some (va_rf (some o)), some (.int 0), none]) hE d_Dr_resultsAgree_1 rfl (Nat.le_of_ble_eq_true rfl) ⟨rfl, Nat.le_of_ble_eq_true rfl⟩ (lvp_r rfl) ?_
  exact gw.less (lv' := [some (va_rf (some o)), some (.int 0), none]) (And.intro rfl (And.intro rfl trivial)) (w_Dr_resultsAgree_L2 hE fu 0 h)
theorem d_M_faultOfDraft_0 : dc b_M_faultOfDraft 0 (.aload_n 0) 1 1 := ⟨by decide +kernel, rfl⟩
theorem d_M_faultOfDraft_1 : dc b_M_faultOfDraft 1 (.getfield 50) 3 4 := ⟨by decide +kernel, rfl⟩
theorem d_M_faultOfDraft_4 : dc b_M_faultOfDraft 4 (.invokevirtual 328) 3 7 := ⟨by decide +kernel, rfl⟩
theorem d_M_faultOfDraft_7 : db b_M_faultOfDraft 7 (.ifCond .ne 5) 5 12 10 := ⟨by decide +kernel, by decide, rfl⟩
theorem d_M_faultOfDraft_10 : dc b_M_faultOfDraft 10 (.iconst 4) 1 11 := ⟨by decide +kernel, rfl⟩
theorem d_M_faultOfDraft_11 : dc b_M_faultOfDraft 11 (.ireturn) 1 12 := ⟨by decide +kernel, rfl⟩
theorem d_M_faultOfDraft_12 : dc b_M_faultOfDraft 12 (.aload_n 0) 1 13 := ⟨by decide +kernel, rfl⟩
theorem d_M_faultOfDraft_13 : dc b_M_faultOfDraft 13 (.getfield 50) 3 16 := ⟨by decide +kernel, rfl⟩
theorem d_M_faultOfDraft_16 : dc b_M_faultOfDraft 16 (.getfield 332) 3 19 := ⟨by decide +kernel, rfl⟩
theorem d_M_faultOfDraft_19 : dc b_M_faultOfDraft 19 (.bipush 40) 2 21 := ⟨by decide +kernel, rfl⟩
theorem d_M_faultOfDraft_21 : db b_M_faultOfDraft 21 (.if_icmp .le 5) 5 26 24 := ⟨by decide +kernel, by decide, rfl⟩
theorem d_M_faultOfDraft_24 : dc b_M_faultOfDraft 24 (.iconst 5) 1 25 := ⟨by decide +kernel, rfl⟩
theorem d_M_faultOfDraft_25 : dc b_M_faultOfDraft 25 (.ireturn) 1 26 := ⟨by decide +kernel, rfl⟩
theorem d_M_faultOfDraft_26 : dc b_M_faultOfDraft 26 (.aload_n 0) 1 27 := ⟨by decide +kernel, rfl⟩
theorem d_M_faultOfDraft_27 : dc b_M_faultOfDraft 27 (.getfield 112) 3 30 := ⟨by decide +kernel, rfl⟩
theorem d_M_faultOfDraft_30 : dc b_M_faultOfDraft 30 (.bipush 16) 2 32 := ⟨by decide +kernel, rfl⟩
theorem d_M_faultOfDraft_32 : db b_M_faultOfDraft 32 (.if_icmp .ne 8) 8 40 35 := ⟨by decide +kernel, by decide, rfl⟩
theorem d_M_faultOfDraft_35 : dc b_M_faultOfDraft 35 (.bipush 6) 2 37 := ⟨by decide +kernel, rfl⟩
theorem d_M_faultOfDraft_37 : db b_M_faultOfDraft 37 (.goto 4) 4 41 40 := ⟨by decide +kernel, by decide, rfl⟩
theorem d_M_faultOfDraft_40 : dc b_M_faultOfDraft 40 (.iconst 0) 1 41 := ⟨by decide +kernel, rfl⟩
theorem d_M_faultOfDraft_41 : dc b_M_faultOfDraft 41 (.ireturn) 1 42 := ⟨by decide +kernel, rfl⟩
set_option maxRecDepth 100000 in
def f_M_faultOfDraft (S : gS) (d : gD) (o : Nat) : Option (Int32) :=
  kd S o 1 <|
  lt_ (sP S o 11) fun x2 =>
  nn x2 fun a3 =>
  kd S a3 3 <|
  bd (f_Dr_resultsAgree S d a3) fun x5 =>
  if x5 = 0 then (
    some 4)
  else (
    lt_ (sP S o 11) fun x7 =>
    nn x7 fun a8 =>
    kd S a8 3 <|
    lt_ (dI d a8 2) fun x10 =>
    if x10 ≤ 40 then (
      lt_ (dI d o 10) fun x11 =>
      if x11 = 16 then (
        some 6)
      else (
        some 0))
    else (
      some 5))
set_option maxRecDepth 100000 in
set_option maxHeartbeats 4000000 in
theorem c_M_faultOfDraft (l : Launch) (G : gG) {S : gS} {d : gD} {o : Nat} {r : Int32} (h : f_M_faultOfDraft S d o = some r) : GM l G y_M_faultOfDraft b_M_faultOfDraft 1 (some (.int)) 5 114 0 0 [.inr (.inr (some o))] S d (some (.int r)) S d := by
  refine GM.of (by decide) (Nat.le_of_ble_eq_true rfl) ?_
  intro X hl0 hG0 hR0 hE0
  have hE : gE X b_M_faultOfDraft 1 "StandInMill" (some (.int)) "faultOfDraft" 5 114 := hE0
  unfold f_M_faultOfDraft at h
  refine gw.less (lv' := [some (va_rf (some o))]) (And.intro rfl trivial) ?_
  refine g_aload_n (i := 0) hE d_M_faultOfDraft_0 rfl rfl ?_
  obtain ⟨k1, h⟩ := kd_s h
  refine g_getR 11 hE kc_M k1 (Nat.le_of_ble_eq_true rfl) rfl m_56 d_M_faultOfDraft_1 (fun x2 e => ?_)
  replace h := lt_i e h; clear e
  obtain ⟨a3, rfl, h⟩ := nn_s h
  obtain ⟨k4, h⟩ := kd_s h
  obtain ⟨x5, e6, h⟩ := bd_s h
  refine g_callV (av := [.inr (.inr (some a3))]) (as := []) (stk := [.int x5]) [] hE (c_Dr_resultsAgree (xl X) (xG X) e6) ky_Dr_resultsAgree ⟨Nat.le_of_ble_eq_true rfl, Nat.le_of_ble_eq_true rfl⟩ rfl kc_Dr k4 m_240 m_241 m_242 rfl d_M_faultOfDraft_4 rfl rfl ct_0 (Nat.zero_le _) (Nat.zero_le _) ?_
  refine gw.cs (c2 := 0) (s2 := 0) rfl rfl ?_
  refine g_if_ne hE d_M_faultOfDraft_7 (fun c14 => ?_) (fun c14 => ?_)
  · replace h := if_f c14 h
    refine g_aload_n (i := 0) hE d_M_faultOfDraft_12 rfl rfl ?_
    refine g_getR 11 hE kc_M k1 (Nat.le_of_ble_eq_true rfl) rfl m_56 d_M_faultOfDraft_13 (fun x7 e => ?_)
    replace h := lt_i e h; clear e
    obtain ⟨a8, rfl, h⟩ := nn_s h
    obtain ⟨k9, h⟩ := kd_s h
    refine g_getIN 2 hE kc_Dr k9 (Nat.le_of_ble_eq_true rfl) rfl nf_24 d_M_faultOfDraft_16 (fun x10 e => ?_)
    replace h := lt_i e h; clear e
    refine g_bipush hE d_M_faultOfDraft_19 kb_40 ?_
    refine g_icmp_le hE d_M_faultOfDraft_21 (fun c13 => ?_) (fun c13 => ?_)
    · replace h := if_t c13 h
      refine g_aload_n (i := 0) hE d_M_faultOfDraft_26 rfl rfl ?_
      refine g_getI 10 hE kc_M k1 (Nat.le_of_ble_eq_true rfl) rfl m_111 d_M_faultOfDraft_27 (fun x11 e => ?_)
      replace h := lt_i e h; clear e
      refine g_bipush hE d_M_faultOfDraft_30 kb_16 ?_
      refine g_icmp_ne hE d_M_faultOfDraft_32 (fun c12 => ?_) (fun c12 => ?_)
      · replace h := if_f c12 h
        refine g_iconst hE d_M_faultOfDraft_40 ki_0 ?_
        cases h
        exact g_iret hE d_M_faultOfDraft_41 rfl rfl
      · replace h := if_t c12 h
        refine g_bipush hE d_M_faultOfDraft_35 kb_6 ?_
        refine g_goto hE d_M_faultOfDraft_37 ?_
        cases h
        exact g_iret hE d_M_faultOfDraft_41 rfl rfl
    · replace h := if_f c13 h
      refine g_iconst hE d_M_faultOfDraft_24 ki_5 ?_
      cases h
      exact g_iret hE d_M_faultOfDraft_25 rfl rfl
  · replace h := if_t c14 h
    refine g_iconst hE d_M_faultOfDraft_10 ki_4 ?_
    cases h
    exact g_iret hE d_M_faultOfDraft_11 rfl rfl
theorem d_M_standsOfPackage_0 : dc b_M_standsOfPackage 0 (.iconst 0) 1 1 := ⟨by decide +kernel, rfl⟩
theorem d_M_standsOfPackage_1 : dc b_M_standsOfPackage 1 (.istore_n 2) 1 2 := ⟨by decide +kernel, rfl⟩
theorem d_M_standsOfPackage_2 : dc b_M_standsOfPackage 2 (.iconst 0) 1 3 := ⟨by decide +kernel, rfl⟩
theorem d_M_standsOfPackage_3 : dc b_M_standsOfPackage 3 (.istore_n 3) 1 4 := ⟨by decide +kernel, rfl⟩
theorem d_M_standsOfPackage_4 : dc b_M_standsOfPackage 4 (.iload_n 3) 1 5 := ⟨by decide +kernel, rfl⟩
theorem d_M_standsOfPackage_5 : dc b_M_standsOfPackage 5 (.aload_n 0) 1 6 := ⟨by decide +kernel, rfl⟩
theorem d_M_standsOfPackage_6 : dc b_M_standsOfPackage 6 (.getfield 112) 3 9 := ⟨by decide +kernel, rfl⟩
theorem d_M_standsOfPackage_9 : db b_M_standsOfPackage 9 (.if_icmp .ge 30) 30 39 12 := ⟨by decide +kernel, by decide, rfl⟩
theorem d_M_standsOfPackage_12 : dc b_M_standsOfPackage 12 (.iload_n 2) 1 13 := ⟨by decide +kernel, rfl⟩
theorem d_M_standsOfPackage_13 : dc b_M_standsOfPackage 13 (.aload_n 0) 1 14 := ⟨by decide +kernel, rfl⟩
theorem d_M_standsOfPackage_14 : dc b_M_standsOfPackage 14 (.getfield 41) 3 17 := ⟨by decide +kernel, rfl⟩
theorem d_M_standsOfPackage_17 : dc b_M_standsOfPackage 17 (.iload_n 3) 1 18 := ⟨by decide +kernel, rfl⟩
theorem d_M_standsOfPackage_18 : dc b_M_standsOfPackage 18 (.aaload) 1 19 := ⟨by decide +kernel, rfl⟩
theorem d_M_standsOfPackage_19 : dc b_M_standsOfPackage 19 (.getfield 238) 3 22 := ⟨by decide +kernel, rfl⟩
theorem d_M_standsOfPackage_22 : dc b_M_standsOfPackage 22 (.iload_n 1) 1 23 := ⟨by decide +kernel, rfl⟩
theorem d_M_standsOfPackage_23 : db b_M_standsOfPackage 23 (.if_icmp .ne 7) 7 30 26 := ⟨by decide +kernel, by decide, rfl⟩
theorem d_M_standsOfPackage_26 : dc b_M_standsOfPackage 26 (.iconst 1) 1 27 := ⟨by decide +kernel, rfl⟩
theorem d_M_standsOfPackage_27 : db b_M_standsOfPackage 27 (.goto 4) 4 31 30 := ⟨by decide +kernel, by decide, rfl⟩
theorem d_M_standsOfPackage_30 : dc b_M_standsOfPackage 30 (.iconst 0) 1 31 := ⟨by decide +kernel, rfl⟩
theorem d_M_standsOfPackage_31 : dc b_M_standsOfPackage 31 (.iadd) 1 32 := ⟨by decide +kernel, rfl⟩
theorem d_M_standsOfPackage_32 : dc b_M_standsOfPackage 32 (.istore_n 2) 1 33 := ⟨by decide +kernel, rfl⟩
theorem d_M_standsOfPackage_33 : dc b_M_standsOfPackage 33 (.iinc 3 1) 3 36 := ⟨by decide +kernel, rfl⟩
theorem d_M_standsOfPackage_36 : db b_M_standsOfPackage 36 (.goto (-32)) (-32) 4 39 := ⟨by decide +kernel, by decide, rfl⟩
theorem d_M_standsOfPackage_39 : dc b_M_standsOfPackage 39 (.iload_n 2) 1 40 := ⟨by decide +kernel, rfl⟩
theorem d_M_standsOfPackage_40 : dc b_M_standsOfPackage 40 (.ireturn) 1 41 := ⟨by decide +kernel, rfl⟩
def f_M_standsOfPackage_J31 (S : gS) (d : gD) (o : Nat) (kb : Int32 → Int32 → Int32 → Option (Int32)) (v1 : Int32) (v3 : Int32) (u0 : Int32) (u1 : Int32) : Option (Int32) :=
  kb v1 (u0 + u1) (v3 + 1)
set_option maxRecDepth 100000 in
set_option maxHeartbeats 4000000 in
theorem w_M_standsOfPackage_J31 {X : GX} (hE : gE X b_M_standsOfPackage 4 "StandInMill" (some (.int)) "standsOfPackage" 0 0) {S : gS} {d : gD} {o : Nat} {r : Int32} {kb : Int32 → Int32 → Int32 → Option (Int32)} (hkb : ∀ (v1 : Int32) (v2 : Int32) (v3 : Int32), kb v1 v2 v3 = some r → gw X 0 0 (gQ X (some (.int r)) S d 0 0) S d 4 [some (va_rf (some o)), some (.int v1), some (.int v2), some (.int v3)] []) :
    ∀ (v1 : Int32) (v3 : Int32) (u0 : Int32) (u1 : Int32), f_M_standsOfPackage_J31 S d o kb v1 v3 u0 u1 = some r → gw X 0 0 (gQ X (some (.int r)) S d 0 0) S d 31 [some (va_rf (some o)), some (.int v1), none, some (.int v3)] [.int u1, .int u0] := by
  intro v1 v3 u0 u1 h
  unfold f_M_standsOfPackage_J31 at h
  refine g_iadd hE d_M_standsOfPackage_31 ?_
  refine g_istore_n (i := 2) (lv' := [some (va_rf (some o)), some (.int v1), some (.int (u0 + u1)), some (.int v3)]) hE d_M_standsOfPackage_32 rfl (Nat.le_of_ble_eq_true rfl) ⟨rfl, Nat.le_of_ble_eq_true rfl⟩ (lvp_i rfl) ?_
  refine g_iinc (i := 3) (lv' := [some (va_rf (some o)), some (.int v1), some (.int (u0 + u1)), some (.int (v3 + 1))]) hE d_M_standsOfPackage_33 ki_1 rfl (Nat.le_of_ble_eq_true rfl) ⟨rfl, Nat.le_of_ble_eq_true rfl⟩ (lvp_i rfl) ?_
  refine g_goto hE d_M_standsOfPackage_36 ?_
  exact gw.less (lv' := [some (va_rf (some o)), some (.int v1), some (.int (u0 + u1)), some (.int (v3 + 1))]) (And.intro rfl (And.intro rfl (And.intro rfl (And.intro rfl trivial)))) (hkb v1 (u0 + u1) (v3 + 1) h)
def f_M_standsOfPackage_B4 (S : gS) (d : gD) (o : Nat) (kb : Int32 → Int32 → Int32 → Option (Int32)) (v1 : Int32) (v2 : Int32) (v3 : Int32) : Option (Int32) :=
  kd S o 1 <|
  lt_ (dI d o 10) fun x2 =>
  if x2 ≤ v3 then (
    some v2)
  else (
    lt_ (sP S o 9) fun x3 =>
    nn x3 fun a4 =>
    kd S a4 62 <|
    gi v3 (sN S a4) <|
    lt_ (sP S a4 v3.toNatClampNeg) fun x7 =>
    nn x7 fun a8 =>
    kd S a8 6 <|
    lt_ (dI d a8 2) fun x10 =>
    if x10 = v1 then (
      f_M_standsOfPackage_J31 S d o kb v1 v3 v2 1)
    else (
      f_M_standsOfPackage_J31 S d o kb v1 v3 v2 0))
set_option maxRecDepth 100000 in
set_option maxHeartbeats 4000000 in
theorem w_M_standsOfPackage_B4 {X : GX} (hE : gE X b_M_standsOfPackage 4 "StandInMill" (some (.int)) "standsOfPackage" 0 0) {S : gS} {d : gD} {o : Nat} {r : Int32} {kb : Int32 → Int32 → Int32 → Option (Int32)} (hkb : ∀ (v1 : Int32) (v2 : Int32) (v3 : Int32), kb v1 v2 v3 = some r → gw X 0 0 (gQ X (some (.int r)) S d 0 0) S d 4 [some (va_rf (some o)), some (.int v1), some (.int v2), some (.int v3)] []) :
    ∀ (v1 : Int32) (v2 : Int32) (v3 : Int32), f_M_standsOfPackage_B4 S d o kb v1 v2 v3 = some r → gw X 0 0 (gQ X (some (.int r)) S d 0 0) S d 4 [some (va_rf (some o)), some (.int v1), some (.int v2), some (.int v3)] [] := by
  intro v1 v2 v3 h
  unfold f_M_standsOfPackage_B4 at h
  refine g_iload_n (i := 3) hE d_M_standsOfPackage_4 rfl rfl ?_
  refine g_aload_n (i := 0) hE d_M_standsOfPackage_5 rfl rfl ?_
  obtain ⟨k1, h⟩ := kd_s h
  refine g_getI 10 hE kc_M k1 (Nat.le_of_ble_eq_true rfl) rfl m_111 d_M_standsOfPackage_6 (fun x2 e => ?_)
  replace h := lt_i e h; clear e
  refine g_icmp_ge hE d_M_standsOfPackage_9 (fun c12 => ?_) (fun c12 => ?_)
  · replace h := if_t c12 h
    refine g_iload_n (i := 2) hE d_M_standsOfPackage_39 rfl rfl ?_
    cases h
    exact g_iret hE d_M_standsOfPackage_40 rfl rfl
  · replace h := if_f c12 h
    refine g_iload_n (i := 2) hE d_M_standsOfPackage_12 rfl rfl ?_
    refine g_aload_n (i := 0) hE d_M_standsOfPackage_13 rfl rfl ?_
    refine g_getR 9 hE kc_M k1 (Nat.le_of_ble_eq_true rfl) rfl m_50 d_M_standsOfPackage_14 (fun x3 e => ?_)
    replace h := lt_i e h; clear e
    refine g_iload_n (i := 3) hE d_M_standsOfPackage_17 rfl rfl ?_
    obtain ⟨a4, rfl, h⟩ := nn_s h
    obtain ⟨k5, h⟩ := kd_s h
    obtain ⟨g6, h⟩ := gi_s h
    refine g_aald hE k5 (by decide) rfl (fun _ => rfl) g6 d_M_standsOfPackage_18 (fun x7 e => ?_)
    replace h := lt_i e h; clear e
    obtain ⟨a8, rfl, h⟩ := nn_s h
    obtain ⟨k9, h⟩ := kd_s h
    refine g_getIN 2 hE kc_Si k9 (Nat.le_of_ble_eq_true rfl) rfl nf_25 d_M_standsOfPackage_19 (fun x10 e => ?_)
    replace h := lt_i e h; clear e
    refine g_iload_n (i := 1) hE d_M_standsOfPackage_22 rfl rfl ?_
    refine g_icmp_ne hE d_M_standsOfPackage_23 (fun c11 => ?_) (fun c11 => ?_)
    · replace h := if_f c11 h
      refine g_iconst hE d_M_standsOfPackage_30 ki_0 ?_
      exact gw.less (lv' := [some (va_rf (some o)), some (.int v1), none, some (.int v3)]) (And.intro rfl (And.intro rfl (And.intro rfl trivial))) (w_M_standsOfPackage_J31 hE hkb v1 v3 v2 0 h)
    · replace h := if_t c11 h
      refine g_iconst hE d_M_standsOfPackage_26 ki_1 ?_
      refine g_goto hE d_M_standsOfPackage_27 ?_
      exact gw.less (lv' := [some (va_rf (some o)), some (.int v1), none, some (.int v3)]) (And.intro rfl (And.intro rfl (And.intro rfl trivial))) (w_M_standsOfPackage_J31 hE hkb v1 v3 v2 1 h)
theorem w_M_standsOfPackage_L4 {X : GX} (hE : gE X b_M_standsOfPackage 4 "StandInMill" (some (.int)) "standsOfPackage" 0 0) {S : gS} {d : gD} {o : Nat} {r : Int32} : ∀ (n : Nat) (v1 : Int32) (v2 : Int32) (v3 : Int32), itr (f_M_standsOfPackage_B4 S d o) (fun _ _ _ => none) n v1 v2 v3 = some r → gw X 0 0 (gQ X (some (.int r)) S d 0 0) S d 4 [some (va_rf (some o)), some (.int v1), some (.int v2), some (.int v3)] [] := by
  intro n
  induction n with
  | zero => intro v1 v2 v3 h; cases h
  | succ n ih => exact w_M_standsOfPackage_B4 hE ih
set_option maxRecDepth 100000 in
def f_M_standsOfPackage (S : gS) (d : gD) (o : Nat) (v1 : Int32) : Option (Int32) :=
  itr (f_M_standsOfPackage_B4 S d o) (fun _ _ _ => none) fu v1 0 0
set_option maxRecDepth 100000 in
set_option maxHeartbeats 4000000 in
theorem c_M_standsOfPackage (l : Launch) (G : gG) {S : gS} {d : gD} {o : Nat} {v1 : Int32} {r : Int32} (h : f_M_standsOfPackage S d o v1 = some r) : GM l G y_M_standsOfPackage b_M_standsOfPackage 4 (some (.int)) 0 0 0 0 [.inr (.inr (some o)), .inl v1] S d (some (.int r)) S d := by
  refine GM.of (by decide) (Nat.le_of_ble_eq_true rfl) ?_
  intro X hl0 hG0 hR0 hE0
  have hE : gE X b_M_standsOfPackage 4 "StandInMill" (some (.int)) "standsOfPackage" 0 0 := hE0
  unfold f_M_standsOfPackage at h
  refine gw.less (lv' := [some (va_rf (some o)), some (.int v1), none, none]) (And.intro rfl (And.intro rfl trivial)) ?_
  refine g_iconst hE d_M_standsOfPackage_0 ki_0 ?_
  refine g_istore_n (i := 2) (lv' := [some (va_rf (some o)), some (.int v1), some (.int 0), none]) hE d_M_standsOfPackage_1 rfl (Nat.le_of_ble_eq_true rfl) ⟨rfl, Nat.le_of_ble_eq_true rfl⟩ (lvp_i rfl) ?_
  refine g_iconst hE d_M_standsOfPackage_2 ki_0 ?_
  refine g_istore_n (i := 3) (lv' := [some (va_rf (some o)), some (.int v1), some (.int 0), some (.int 0)]) hE d_M_standsOfPackage_3 rfl (Nat.le_of_ble_eq_true rfl) ⟨rfl, Nat.le_of_ble_eq_true rfl⟩ (lvp_i rfl) ?_
  exact gw.less (lv' := [some (va_rf (some o)), some (.int v1), some (.int 0), some (.int 0)]) (And.intro rfl (And.intro rfl (And.intro rfl (And.intro rfl trivial)))) (w_M_standsOfPackage_L4 hE fu v1 0 0 h)
theorem d_Si_init_0 : dc b_Si_init 0 (.aload_n 0) 1 1 := ⟨by decide +kernel, rfl⟩
theorem d_Si_init_1 : dc b_Si_init 1 (.invokespecial 3) 3 4 := ⟨by decide +kernel, rfl⟩
theorem d_Si_init_4 : dc b_Si_init 4 (.aload_n 0) 1 5 := ⟨by decide +kernel, rfl⟩
theorem d_Si_init_5 : dc b_Si_init 5 (.iconst (-1)) 1 6 := ⟨by decide +kernel, rfl⟩
theorem d_Si_init_6 : dc b_Si_init 6 (.putfield 9) 3 9 := ⟨by decide +kernel, rfl⟩
theorem d_Si_init_9 : dc b_Si_init 9 (.aload_n 0) 1 10 := ⟨by decide +kernel, rfl⟩
theorem d_Si_init_10 : dc b_Si_init 10 (.iload_n 1) 1 11 := ⟨by decide +kernel, rfl⟩
theorem d_Si_init_11 : dc b_Si_init 11 (.putfield 15) 3 14 := ⟨by decide +kernel, rfl⟩
theorem d_Si_init_14 : dc b_Si_init 14 (.aload_n 0) 1 15 := ⟨by decide +kernel, rfl⟩
theorem d_Si_init_15 : dc b_Si_init 15 (.iload_n 2) 1 16 := ⟨by decide +kernel, rfl⟩
theorem d_Si_init_16 : dc b_Si_init 16 (.putfield 18) 3 19 := ⟨by decide +kernel, rfl⟩
theorem d_Si_init_19 : dc b_Si_init 19 (.aload_n 0) 1 20 := ⟨by decide +kernel, rfl⟩
theorem d_Si_init_20 : dc b_Si_init 20 (.iload_n 3) 1 21 := ⟨by decide +kernel, rfl⟩
theorem d_Si_init_21 : dc b_Si_init 21 (.putfield 21) 3 24 := ⟨by decide +kernel, rfl⟩
theorem d_Si_init_24 : dc b_Si_init 24 (.aload_n 0) 1 25 := ⟨by decide +kernel, rfl⟩
theorem d_Si_init_25 : dc b_Si_init 25 (.iload 4) 2 27 := ⟨by decide +kernel, rfl⟩
theorem d_Si_init_27 : dc b_Si_init 27 (.putfield 24) 3 30 := ⟨by decide +kernel, rfl⟩
theorem d_Si_init_30 : dc b_Si_init 30 (.aload_n 0) 1 31 := ⟨by decide +kernel, rfl⟩
theorem d_Si_init_31 : dc b_Si_init 31 (.iload 5) 2 33 := ⟨by decide +kernel, rfl⟩
theorem d_Si_init_33 : dc b_Si_init 33 (.anewarray 27) 3 36 := ⟨by decide +kernel, rfl⟩
theorem d_Si_init_36 : dc b_Si_init 36 (.putfield 29) 3 39 := ⟨by decide +kernel, rfl⟩
theorem d_Si_init_39 : dc b_Si_init 39 (.return_) 1 40 := ⟨by decide +kernel, rfl⟩
set_option maxRecDepth 100000 in
def f_Si_init (S : gS) (d : gD) (o : Nat) (v1 : Int32) (v2 : Int32) (v3 : Int32) (v4 : Int32) (v5 : Int32) : Option ((Unit × gS × gD) × Nat × Nat) :=
  kd S o 6 <|
  lt_ (wI d o 6 (-1)) fun d2 =>
  lt_ (wI d2 o 0 v1) fun d3 =>
  lt_ (wI d3 o 1 v2) fun d4 =>
  lt_ (wI d4 o 2 v3) fun d5 =>
  lt_ (wI d5 o 3 v4) fun d6 =>
  nl v5 <|
  ac 1 (v5.toNatClampNeg) <|
  lt_ (nS S 63 (v5.toNatClampNeg)) fun S7 =>
  lt_ (nD S d6) fun d8 =>
  lt_ (sZ S) fun a9 =>
  kd S7 o 6 <|
  lt_ (wP S7 o 4 (some a9)) fun S15 =>
  some (((), S15, d8), 0, 0)
set_option maxRecDepth 100000 in
set_option maxHeartbeats 4000000 in
theorem c_Si_init (l : Launch) (G : gG) {S : gS} {d : gD} {o : Nat} {v1 : Int32} {v2 : Int32} {v3 : Int32} {v4 : Int32} {v5 : Int32} {r : Unit} {d' : gD} {S' : gS} {dc ds : Nat} (h : f_Si_init S d o v1 v2 v3 v4 v5 = some ((r, S', d'), dc, ds)) : GM l G y_Si_init b_Si_init 6 none 1 20 dc ds [.inr (.inr (some o)), .inl v1, .inl v2, .inl v3, .inl v4, .inl v5] S d (none) S' d' := by
  refine GM.of (by decide) (Nat.le_of_ble_eq_true rfl) ?_
  intro X hl0 hG0 hR0 hE0
  have hE : gE X b_Si_init 6 "StandInMill$StandIn" none "<init>" 1 20 := hE0
  have hmc : (xR X).cells = dc := by rw [hR0]
  have hms : (xR X).slots = ds := by rw [hR0]
  obtain ⟨mc, emc⟩ : ∃ z, z = dc := ⟨_, rfl⟩
  obtain ⟨ms, ems⟩ : ∃ z, z = ds := ⟨_, rfl⟩
  rw [← emc] at hmc
  rw [← ems] at hms
  have hc : 0 + dc = mc := by omega
  have hs : 0 + ds = ms := by omega
  show gw X 0 0 (gQ X _ _ _ dc ds) _ _ _ _ _
  rw [← emc, ← ems]
  clear hR0 emc ems
  unfold f_Si_init at h
  refine gw.less (lv' := [some (va_rf (some o)), some (.int v1), some (.int v2), some (.int v3), some (.int v4), some (.int v5)]) (And.intro rfl (And.intro rfl (And.intro rfl (And.intro rfl (And.intro rfl (And.intro rfl trivial)))))) ?_
  refine g_aload_n (i := 0) hE d_Si_init_0 rfl rfl ?_
  refine g_objInit hE m_243 m_1 m_2 ⟨Nat.le_of_ble_eq_true rfl, Nat.le_of_ble_eq_true rfl⟩ ct_0 d_Si_init_1 ?_
  refine g_aload_n (i := 0) hE d_Si_init_4 rfl rfl ?_
  refine g_iconst hE d_Si_init_5 ki_m1 ?_
  obtain ⟨k1, h⟩ := kd_s h
  refine g_putI 6 hE kc_Si k1 (Nat.le_of_ble_eq_true rfl) rfl m_244 rfl (by decide +kernel) d_Si_init_6 (fun d2 e => ?_)
  replace h := lt_i e h; clear e
  refine g_aload_n (i := 0) hE d_Si_init_9 rfl rfl ?_
  refine g_iload_n (i := 1) hE d_Si_init_10 rfl rfl ?_
  refine g_putIF 0 hE kc_Si k1 (Nat.le_of_ble_eq_true rfl) rfl m_245 rfl (by decide +kernel) d_Si_init_11 rfl rfl (fun d3 e => ?_)
  replace h := lt_i e h; clear e
  refine g_aload_n (i := 0) hE d_Si_init_14 rfl rfl ?_
  refine g_iload_n (i := 2) hE d_Si_init_15 rfl rfl ?_
  refine g_putIF 1 hE kc_Si k1 (Nat.le_of_ble_eq_true rfl) rfl m_246 rfl (by decide +kernel) d_Si_init_16 rfl rfl (fun d4 e => ?_)
  replace h := lt_i e h; clear e
  refine g_aload_n (i := 0) hE d_Si_init_19 rfl rfl ?_
  refine g_iload_n (i := 3) hE d_Si_init_20 rfl rfl ?_
  refine g_putIF 2 hE kc_Si k1 (Nat.le_of_ble_eq_true rfl) rfl m_247 rfl (by decide +kernel) d_Si_init_21 rfl rfl (fun d5 e => ?_)
  replace h := lt_i e h; clear e
  refine g_aload_n (i := 0) hE d_Si_init_24 rfl rfl ?_
  refine g_iload (i := 4) hE d_Si_init_25 rfl ?_
  refine g_putIF 3 hE kc_Si k1 (Nat.le_of_ble_eq_true rfl) rfl m_248 rfl (by decide +kernel) d_Si_init_27 rfl rfl (fun d6 e => ?_)
  replace h := lt_i e h; clear e
  refine g_aload_n (i := 0) hE d_Si_init_30 rfl rfl ?_
  refine g_iload (i := 5) hE d_Si_init_31 rfl ?_
  obtain ⟨g10, h⟩ := nl_s h
  obtain ⟨dc0, ds0, h, hc0, hs0⟩ := ac_s h
  refine g_newq (κ := 63) hE rfl (by decide) (fun _ => rfl) (by decide) m_249 g10 (cnt_room hmc hc hc0) (cnt_room hms hs hs0) d_Si_init_33 (fun S7 d8 a9 e1 e2 e3 => ?_)
  have k11 : sK S7 a9 = 63 := by rw [← e1, ← e3]; exact nS_new
  replace h := lt_i e1 h; replace h := lt_i e2 h; replace h := lt_i e3 h; clear e1 e2 e3
  refine gw.gen (fun c12 s13 ec es => ?_)
  replace hc := cnt_step hc hc0 ec; replace hs := cnt_step hs hs0 es; clear hc0 hs0 ec es
  obtain ⟨k14, h⟩ := kd_s h
  refine g_putRF (fty := .array (.object "StandInMill$StandMethod")) 4 hE kc_Si k14 (Nat.le_of_ble_eq_true rfl) rfl m_250 rfl (by decide +kernel) rfl d_Si_init_36 rfl rfl (fun S15 e => ?_)
  replace k11 : sK S15 a9 = 63 := by rw [← e]; exact k11
  replace k14 : sK S15 o = 6 := by rw [← e]; exact k14
  replace h := lt_i e h; clear e
  cases h
  exact g_vret hE d_Si_init_39 hc hs
theorem d_Rw_at_0 : dc b_Rw_at 0 (.iload_n 1) 1 1 := ⟨by decide +kernel, rfl⟩
theorem d_Rw_at_1 : dc b_Rw_at 1 (.aload_n 0) 1 2 := ⟨by decide +kernel, rfl⟩
theorem d_Rw_at_2 : dc b_Rw_at 2 (.getfield 15) 3 5 := ⟨by decide +kernel, rfl⟩
theorem d_Rw_at_5 : dc b_Rw_at 5 (.invokestatic 19) 3 8 := ⟨by decide +kernel, rfl⟩
theorem d_Rw_at_8 : db b_Rw_at 8 (.ifCond .eq 12) 12 20 11 := ⟨by decide +kernel, by decide, rfl⟩
theorem d_Rw_at_11 : dc b_Rw_at 11 (.aload_n 0) 1 12 := ⟨by decide +kernel, rfl⟩
theorem d_Rw_at_12 : dc b_Rw_at 12 (.getfield 9) 3 15 := ⟨by decide +kernel, rfl⟩
theorem d_Rw_at_15 : dc b_Rw_at 15 (.iload_n 1) 1 16 := ⟨by decide +kernel, rfl⟩
theorem d_Rw_at_16 : dc b_Rw_at 16 (.iaload) 1 17 := ⟨by decide +kernel, rfl⟩
theorem d_Rw_at_17 : db b_Rw_at 17 (.goto 4) 4 21 20 := ⟨by decide +kernel, by decide, rfl⟩
theorem d_Rw_at_20 : dc b_Rw_at 20 (.iconst 0) 1 21 := ⟨by decide +kernel, rfl⟩
theorem d_Rw_at_21 : dc b_Rw_at 21 (.ireturn) 1 22 := ⟨by decide +kernel, rfl⟩
set_option maxRecDepth 100000 in
def f_Rw_at (S : gS) (d : gD) (o : Nat) (v1 : Int32) : Option (Int32) :=
  kd S o 2 <|
  lt_ (dI d o 1) fun x2 =>
  bd (f_M_isWithin S d v1 x2) fun x3 =>
  if x3 = 0 then (
    some 0)
  else (
    lt_ (sP S o 0) fun x5 =>
    nn x5 fun a6 =>
    kd S a6 50 <|
    gi v1 (sN S a6) <|
    lt_ (dI d a6 v1.toNatClampNeg) fun x9 =>
    some x9)
set_option maxRecDepth 100000 in
set_option maxHeartbeats 4000000 in
theorem c_Rw_at (l : Launch) (G : gG) {S : gS} {d : gD} {o : Nat} {v1 : Int32} {r : Int32} (h : f_Rw_at S d o v1 = some r) : GM l G y_Rw_at b_Rw_at 2 (some (.int)) 1 21 0 0 [.inr (.inr (some o)), .inl v1] S d (some (.int r)) S d := by
  refine GM.of (by decide) (Nat.le_of_ble_eq_true rfl) ?_
  intro X hl0 hG0 hR0 hE0
  have hE : gE X b_Rw_at 2 "StandInMill$ClassRow" (some (.int)) "at" 1 21 := hE0
  unfold f_Rw_at at h
  refine gw.less (lv' := [some (va_rf (some o)), some (.int v1)]) (And.intro rfl (And.intro rfl trivial)) ?_
  refine g_iload_n (i := 1) hE d_Rw_at_0 rfl rfl ?_
  refine g_aload_n (i := 0) hE d_Rw_at_1 rfl rfl ?_
  obtain ⟨k1, h⟩ := kd_s h
  refine g_getI 1 hE kc_Rw k1 (Nat.le_of_ble_eq_true rfl) rfl m_151 d_Rw_at_2 (fun x2 e => ?_)
  replace h := lt_i e h; clear e
  obtain ⟨x3, e4, h⟩ := bd_s h
  refine g_callSN (av := [.inl v1, .inl x2]) (stk := [.int x3]) [] hE (c_M_isWithin (xl X) (xG X) e4) ky_M_isWithin ⟨Nat.le_of_ble_eq_true rfl, Nat.le_of_ble_eq_true rfl⟩ nm_5 m_74 rfl d_Rw_at_5 rfl rfl ct_0 (Nat.zero_le _) (Nat.zero_le _) ?_
  refine gw.cs (c2 := 0) (s2 := 0) rfl rfl ?_
  refine g_if_eq hE d_Rw_at_8 (fun c10 => ?_) (fun c10 => ?_)
  · replace h := if_t c10 h
    refine g_iconst hE d_Rw_at_20 ki_0 ?_
    cases h
    exact g_iret hE d_Rw_at_21 rfl rfl
  · replace h := if_f c10 h
    refine g_aload_n (i := 0) hE d_Rw_at_11 rfl rfl ?_
    refine g_getR 0 hE kc_Rw k1 (Nat.le_of_ble_eq_true rfl) rfl m_10 d_Rw_at_12 (fun x5 e => ?_)
    replace h := lt_i e h; clear e
    refine g_iload_n (i := 1) hE d_Rw_at_15 rfl rfl ?_
    obtain ⟨a6, rfl, h⟩ := nn_s h
    obtain ⟨k7, h⟩ := kd_s h
    obtain ⟨g8, h⟩ := gi_s h
    refine g_iald hE k7 g8 d_Rw_at_16 (fun x9 e => ?_)
    replace h := lt_i e h; clear e
    refine g_goto hE d_Rw_at_17 ?_
    cases h
    exact g_iret hE d_Rw_at_21 rfl rfl
