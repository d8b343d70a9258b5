theorem d_R_isClass_0 : dc b_R_isClass 0 (.iload_n 1) 1 1 := ⟨by decide +kernel, rfl⟩
theorem d_R_isClass_1 : dc b_R_isClass 1 (.bipush 8) 2 3 := ⟨by decide +kernel, rfl⟩
theorem d_R_isClass_3 : db b_R_isClass 3 (.if_icmp .lt 15) 15 18 6 := ⟨by decide +kernel, by decide, rfl⟩
theorem d_R_isClass_6 : dc b_R_isClass 6 (.iload_n 1) 1 7 := ⟨by decide +kernel, rfl⟩
theorem d_R_isClass_7 : dc b_R_isClass 7 (.aload_n 0) 1 8 := ⟨by decide +kernel, rfl⟩
theorem d_R_isClass_8 : dc b_R_isClass 8 (.getfield 20) 3 11 := ⟨by decide +kernel, rfl⟩
theorem d_R_isClass_11 : db b_R_isClass 11 (.if_icmp .ge 7) 7 18 14 := ⟨by decide +kernel, by decide, rfl⟩
theorem d_R_isClass_14 : dc b_R_isClass 14 (.iconst 1) 1 15 := ⟨by decide +kernel, rfl⟩
theorem d_R_isClass_15 : db b_R_isClass 15 (.goto 4) 4 19 18 := ⟨by decide +kernel, by decide, rfl⟩
theorem d_R_isClass_18 : dc b_R_isClass 18 (.iconst 0) 1 19 := ⟨by decide +kernel, rfl⟩
theorem d_R_isClass_19 : dc b_R_isClass 19 (.ireturn) 1 20 := ⟨by decide +kernel, rfl⟩
set_option maxRecDepth 100000 in
def f_R_isClass (S : gS) (d : gD) (o : Nat) (v1 : Int32) : Option (Int32) :=
  if v1 < 8 then (
    some 0)
  else (
    kd S o 10 <|
    lt_ (dI d o 3) fun x2 =>
    if x2 ≤ v1 then (
      some 0)
    else (
      some 1))
set_option maxRecDepth 100000 in
set_option maxHeartbeats 4000000 in
theorem c_R_isClass (l : Launch) (G : gG) {S : gS} {d : gD} {o : Nat} {v1 : Int32} {r : Int32} (h : f_R_isClass S d o v1 = some r) : GM l G y_R_isClass b_R_isClass 2 (some (.boolean)) 0 0 0 0 [.inr (.inr (some o)), .inl v1] S d (some (.int r)) S d := by
  refine GM.of (by decide) (Nat.le_of_ble_eq_true rfl) ?_
  intro X hl0 hG0 hR0 hE0
  have hE : gE X b_R_isClass 2 "StandInMillModel" (some (.boolean)) "isClass" 0 0 := hE0
  unfold f_R_isClass at h
  refine gw.less (lv' := [some (va_rf (some o)), some (.int v1)]) (And.intro rfl (And.intro rfl trivial)) ?_
  refine g_iload_n (i := 1) hE d_R_isClass_0 rfl rfl ?_
  refine g_bipush hE d_R_isClass_1 kb_8 ?_
  refine g_icmp_lt hE d_R_isClass_3 (fun c4 => ?_) (fun c4 => ?_)
  · replace h := if_t c4 h
    refine g_iconst hE d_R_isClass_18 ki_0 ?_
    cases h
    exact g_zret hE (Or.inl rfl) d_R_isClass_19 rfl rfl
  · replace h := if_f c4 h
    refine g_iload_n (i := 1) hE d_R_isClass_6 rfl rfl ?_
    refine g_aload_n (i := 0) hE d_R_isClass_7 rfl rfl ?_
    obtain ⟨k1, h⟩ := kd_s h
    refine g_getI 3 hE kc_R k1 (Nat.le_of_ble_eq_true rfl) rfl m_379 d_R_isClass_8 (fun x2 e => ?_)
    replace h := lt_i e h; clear e
    refine g_icmp_ge hE d_R_isClass_11 (fun c3 => ?_) (fun c3 => ?_)
    · replace h := if_t c3 h
      refine g_iconst hE d_R_isClass_18 ki_0 ?_
      cases h
      exact g_zret hE (Or.inl rfl) d_R_isClass_19 rfl rfl
    · replace h := if_f c3 h
      refine g_iconst hE d_R_isClass_14 ki_1 ?_
      refine g_goto hE d_R_isClass_15 ?_
      cases h
      exact g_zret hE (Or.inr rfl) d_R_isClass_19 rfl rfl
theorem d_R_isFace_0 : dc b_R_isFace 0 (.iload_n 1) 1 1 := ⟨by decide +kernel, rfl⟩
theorem d_R_isFace_1 : dc b_R_isFace 1 (.bipush 24) 2 3 := ⟨by decide +kernel, rfl⟩
theorem d_R_isFace_3 : db b_R_isFace 3 (.if_icmp .lt 18) 18 21 6 := ⟨by decide +kernel, by decide, rfl⟩
theorem d_R_isFace_6 : dc b_R_isFace 6 (.iload_n 1) 1 7 := ⟨by decide +kernel, rfl⟩
theorem d_R_isFace_7 : dc b_R_isFace 7 (.bipush 24) 2 9 := ⟨by decide +kernel, rfl⟩
theorem d_R_isFace_9 : dc b_R_isFace 9 (.aload_n 0) 1 10 := ⟨by decide +kernel, rfl⟩
theorem d_R_isFace_10 : dc b_R_isFace 10 (.getfield 26) 3 13 := ⟨by decide +kernel, rfl⟩
theorem d_R_isFace_13 : dc b_R_isFace 13 (.iadd) 1 14 := ⟨by decide +kernel, rfl⟩
theorem d_R_isFace_14 : db b_R_isFace 14 (.if_icmp .ge 7) 7 21 17 := ⟨by decide +kernel, by decide, rfl⟩
theorem d_R_isFace_17 : dc b_R_isFace 17 (.iconst 1) 1 18 := ⟨by decide +kernel, rfl⟩
theorem d_R_isFace_18 : db b_R_isFace 18 (.goto 4) 4 22 21 := ⟨by decide +kernel, by decide, rfl⟩
theorem d_R_isFace_21 : dc b_R_isFace 21 (.iconst 0) 1 22 := ⟨by decide +kernel, rfl⟩
theorem d_R_isFace_22 : dc b_R_isFace 22 (.ireturn) 1 23 := ⟨by decide +kernel, rfl⟩
set_option maxRecDepth 100000 in
def f_R_isFace (S : gS) (d : gD) (o : Nat) (v1 : Int32) : Option (Int32) :=
  if v1 < 24 then (
    some 0)
  else (
    kd S o 10 <|
    lt_ (dI d o 5) fun x2 =>
    if (24 + x2) ≤ v1 then (
      some 0)
    else (
      some 1))
set_option maxRecDepth 100000 in
set_option maxHeartbeats 4000000 in
theorem c_R_isFace (l : Launch) (G : gG) {S : gS} {d : gD} {o : Nat} {v1 : Int32} {r : Int32} (h : f_R_isFace S d o v1 = some r) : GM l G y_R_isFace b_R_isFace 2 (some (.boolean)) 0 0 0 0 [.inr (.inr (some o)), .inl v1] S d (some (.int r)) S d := by
  refine GM.of (by decide) (Nat.le_of_ble_eq_true rfl) ?_
  intro X hl0 hG0 hR0 hE0
  have hE : gE X b_R_isFace 2 "StandInMillModel" (some (.boolean)) "isFace" 0 0 := hE0
  unfold f_R_isFace at h
  refine gw.less (lv' := [some (va_rf (some o)), some (.int v1)]) (And.intro rfl (And.intro rfl trivial)) ?_
  refine g_iload_n (i := 1) hE d_R_isFace_0 rfl rfl ?_
  refine g_bipush hE d_R_isFace_1 kb_24 ?_
  refine g_icmp_lt hE d_R_isFace_3 (fun c4 => ?_) (fun c4 => ?_)
  · replace h := if_t c4 h
    refine g_iconst hE d_R_isFace_21 ki_0 ?_
    cases h
    exact g_zret hE (Or.inl rfl) d_R_isFace_22 rfl rfl
  · replace h := if_f c4 h
    refine g_iload_n (i := 1) hE d_R_isFace_6 rfl rfl ?_
    refine g_bipush hE d_R_isFace_7 kb_24 ?_
    refine g_aload_n (i := 0) hE d_R_isFace_9 rfl rfl ?_
    obtain ⟨k1, h⟩ := kd_s h
    refine g_getI 5 hE kc_R k1 (Nat.le_of_ble_eq_true rfl) rfl m_381 d_R_isFace_10 (fun x2 e => ?_)
    replace h := lt_i e h; clear e
    refine g_iadd hE d_R_isFace_13 ?_
    refine g_icmp_ge hE d_R_isFace_14 (fun c3 => ?_) (fun c3 => ?_)
    · replace h := if_t c3 h
      refine g_iconst hE d_R_isFace_21 ki_0 ?_
      cases h
      exact g_zret hE (Or.inl rfl) d_R_isFace_22 rfl rfl
    · replace h := if_f c3 h
      refine g_iconst hE d_R_isFace_17 ki_1 ?_
      refine g_goto hE d_R_isFace_18 ?_
      cases h
      exact g_zret hE (Or.inr rfl) d_R_isFace_22 rfl rfl
theorem d_R_isPlain_0 : dc b_R_isPlain 0 (.iload_n 0) 1 1 := ⟨by decide +kernel, rfl⟩
theorem d_R_isPlain_1 : dc b_R_isPlain 1 (.iconst 1) 1 2 := ⟨by decide +kernel, rfl⟩
theorem d_R_isPlain_2 : db b_R_isPlain 2 (.if_icmp .lt 13) 13 15 5 := ⟨by decide +kernel, by decide, rfl⟩
theorem d_R_isPlain_5 : dc b_R_isPlain 5 (.iload_n 0) 1 6 := ⟨by decide +kernel, rfl⟩
theorem d_R_isPlain_6 : dc b_R_isPlain 6 (.bipush 6) 2 8 := ⟨by decide +kernel, rfl⟩
theorem d_R_isPlain_8 : db b_R_isPlain 8 (.if_icmp .gt 7) 7 15 11 := ⟨by decide +kernel, by decide, rfl⟩
theorem d_R_isPlain_11 : dc b_R_isPlain 11 (.iconst 1) 1 12 := ⟨by decide +kernel, rfl⟩
theorem d_R_isPlain_12 : db b_R_isPlain 12 (.goto 4) 4 16 15 := ⟨by decide +kernel, by decide, rfl⟩
theorem d_R_isPlain_15 : dc b_R_isPlain 15 (.iconst 0) 1 16 := ⟨by decide +kernel, rfl⟩
theorem d_R_isPlain_16 : dc b_R_isPlain 16 (.ireturn) 1 17 := ⟨by decide +kernel, rfl⟩
set_option maxRecDepth 100000 in
def f_R_isPlain (S : gS) (d : gD) (v0 : Int32) : Option (Int32) :=
  if v0 < 1 then (
    some 0)
  else (
    if 6 < v0 then (
      some 0)
    else (
      some 1))
set_option maxRecDepth 100000 in
set_option maxHeartbeats 4000000 in
theorem c_R_isPlain (l : Launch) (G : gG) {S : gS} {d : gD} {v0 : Int32} {r : Int32} (h : f_R_isPlain S d v0 = some r) : GM l G y_R_isPlain b_R_isPlain 1 (some (.boolean)) 0 0 0 0 [.inl v0] S d (some (.int r)) S d := by
  refine GM.of (by decide) (Nat.le_of_ble_eq_true rfl) ?_
  intro X hl0 hG0 hR0 hE0
  have hE : gE X b_R_isPlain 1 "StandInMillModel" (some (.boolean)) "isPlain" 0 0 := hE0
  unfold f_R_isPlain at h
  refine gw.less (lv' := [some (.int v0)]) (And.intro rfl trivial) ?_
  refine g_iload_n (i := 0) hE d_R_isPlain_0 rfl rfl ?_
  refine g_iconst hE d_R_isPlain_1 ki_1 ?_
  refine g_icmp_lt hE d_R_isPlain_2 (fun c2 => ?_) (fun c2 => ?_)
  · replace h := if_t c2 h
    refine g_iconst hE d_R_isPlain_15 ki_0 ?_
    cases h
    exact g_zret hE (Or.inl rfl) d_R_isPlain_16 rfl rfl
  · replace h := if_f c2 h
    refine g_iload_n (i := 0) hE d_R_isPlain_5 rfl rfl ?_
    refine g_bipush hE d_R_isPlain_6 kb_6 ?_
    refine g_icmp_gt hE d_R_isPlain_8 (fun c1 => ?_) (fun c1 => ?_)
    · replace h := if_t c1 h
      refine g_iconst hE d_R_isPlain_15 ki_0 ?_
      cases h
      exact g_zret hE (Or.inl rfl) d_R_isPlain_16 rfl rfl
    · replace h := if_f c1 h
      refine g_iconst hE d_R_isPlain_11 ki_1 ?_
      refine g_goto hE d_R_isPlain_12 ?_
      cases h
      exact g_zret hE (Or.inr rfl) d_R_isPlain_16 rfl rfl
theorem d_R_isBox_0 : dc b_R_isBox 0 (.iload_n 0) 1 1 := ⟨by decide +kernel, rfl⟩
theorem d_R_isBox_1 : dc b_R_isBox 1 (.bipush 41) 2 3 := ⟨by decide +kernel, rfl⟩
theorem d_R_isBox_3 : db b_R_isBox 3 (.if_icmp .lt 13) 13 16 6 := ⟨by decide +kernel, by decide, rfl⟩
theorem d_R_isBox_6 : dc b_R_isBox 6 (.iload_n 0) 1 7 := ⟨by decide +kernel, rfl⟩
theorem d_R_isBox_7 : dc b_R_isBox 7 (.bipush 46) 2 9 := ⟨by decide +kernel, rfl⟩
theorem d_R_isBox_9 : db b_R_isBox 9 (.if_icmp .gt 7) 7 16 12 := ⟨by decide +kernel, by decide, rfl⟩
theorem d_R_isBox_12 : dc b_R_isBox 12 (.iconst 1) 1 13 := ⟨by decide +kernel, rfl⟩
theorem d_R_isBox_13 : db b_R_isBox 13 (.goto 4) 4 17 16 := ⟨by decide +kernel, by decide, rfl⟩
theorem d_R_isBox_16 : dc b_R_isBox 16 (.iconst 0) 1 17 := ⟨by decide +kernel, rfl⟩
theorem d_R_isBox_17 : dc b_R_isBox 17 (.ireturn) 1 18 := ⟨by decide +kernel, rfl⟩
set_option maxRecDepth 100000 in
def f_R_isBox (S : gS) (d : gD) (v0 : Int32) : Option (Int32) :=
  if v0 < 41 then (
    some 0)
  else (
    if 46 < v0 then (
      some 0)
    else (
      some 1))
set_option maxRecDepth 100000 in
set_option maxHeartbeats 4000000 in
theorem c_R_isBox (l : Launch) (G : gG) {S : gS} {d : gD} {v0 : Int32} {r : Int32} (h : f_R_isBox S d v0 = some r) : GM l G y_R_isBox b_R_isBox 1 (some (.boolean)) 0 0 0 0 [.inl v0] S d (some (.int r)) S d := by
  refine GM.of (by decide) (Nat.le_of_ble_eq_true rfl) ?_
  intro X hl0 hG0 hR0 hE0
  have hE : gE X b_R_isBox 1 "StandInMillModel" (some (.boolean)) "isBox" 0 0 := hE0
  unfold f_R_isBox at h
  refine gw.less (lv' := [some (.int v0)]) (And.intro rfl trivial) ?_
  refine g_iload_n (i := 0) hE d_R_isBox_0 rfl rfl ?_
  refine g_bipush hE d_R_isBox_1 kb_41 ?_
  refine g_icmp_lt hE d_R_isBox_3 (fun c2 => ?_) (fun c2 => ?_)
  · replace h := if_t c2 h
    refine g_iconst hE d_R_isBox_16 ki_0 ?_
    cases h
    exact g_zret hE (Or.inl rfl) d_R_isBox_17 rfl rfl
  · replace h := if_f c2 h
    refine g_iload_n (i := 0) hE d_R_isBox_6 rfl rfl ?_
    refine g_bipush hE d_R_isBox_7 kb_46 ?_
    refine g_icmp_gt hE d_R_isBox_9 (fun c1 => ?_) (fun c1 => ?_)
    · replace h := if_t c1 h
      refine g_iconst hE d_R_isBox_16 ki_0 ?_
      cases h
      exact g_zret hE (Or.inl rfl) d_R_isBox_17 rfl rfl
    · replace h := if_f c1 h
      refine g_iconst hE d_R_isBox_12 ki_1 ?_
      refine g_goto hE d_R_isBox_13 ?_
      cases h
      exact g_zret hE (Or.inr rfl) d_R_isBox_17 rfl rfl
theorem d_R_there_0 : dc b_R_there 0 (.iload_n 1) 1 1 := ⟨by decide +kernel, rfl⟩
theorem d_R_there_1 : dc b_R_there 1 (.invokestatic 157) 3 4 := ⟨by decide +kernel, rfl⟩
theorem d_R_there_4 : db b_R_there 4 (.ifCond .ne 32) 32 36 7 := ⟨by decide +kernel, by decide, rfl⟩
theorem d_R_there_7 : dc b_R_there 7 (.iload_n 1) 1 8 := ⟨by decide +kernel, rfl⟩
theorem d_R_there_8 : dc b_R_there 8 (.bipush 7) 2 10 := ⟨by decide +kernel, rfl⟩
theorem d_R_there_10 : db b_R_there 10 (.if_icmp .eq 26) 26 36 13 := ⟨by decide +kernel, by decide, rfl⟩
theorem d_R_there_13 : dc b_R_there 13 (.aload_n 0) 1 14 := ⟨by decide +kernel, rfl⟩
theorem d_R_there_14 : dc b_R_there 14 (.iload_n 1) 1 15 := ⟨by decide +kernel, rfl⟩
theorem d_R_there_15 : dc b_R_there 15 (.invokevirtual 161) 3 18 := ⟨by decide +kernel, rfl⟩
theorem d_R_there_18 : db b_R_there 18 (.ifCond .ne 18) 18 36 21 := ⟨by decide +kernel, by decide, rfl⟩
theorem d_R_there_21 : dc b_R_there 21 (.aload_n 0) 1 22 := ⟨by decide +kernel, rfl⟩
theorem d_R_there_22 : dc b_R_there 22 (.iload_n 1) 1 23 := ⟨by decide +kernel, rfl⟩
theorem d_R_there_23 : dc b_R_there 23 (.invokevirtual 164) 3 26 := ⟨by decide +kernel, rfl⟩
theorem d_R_there_26 : db b_R_there 26 (.ifCond .ne 10) 10 36 29 := ⟨by decide +kernel, by decide, rfl⟩
theorem d_R_there_29 : dc b_R_there 29 (.iload_n 1) 1 30 := ⟨by decide +kernel, rfl⟩
theorem d_R_there_30 : dc b_R_there 30 (.invokestatic 167) 3 33 := ⟨by decide +kernel, rfl⟩
theorem d_R_there_33 : db b_R_there 33 (.ifCond .eq 7) 7 40 36 := ⟨by decide +kernel, by decide, rfl⟩
theorem d_R_there_36 : dc b_R_there 36 (.iconst 1) 1 37 := ⟨by decide +kernel, rfl⟩
theorem d_R_there_37 : db b_R_there 37 (.goto 4) 4 41 40 := ⟨by decide +kernel, by decide, rfl⟩
theorem d_R_there_40 : dc b_R_there 40 (.iconst 0) 1 41 := ⟨by decide +kernel, rfl⟩
theorem d_R_there_41 : dc b_R_there 41 (.ireturn) 1 42 := ⟨by decide +kernel, rfl⟩
def f_R_there_J36 (S : gS) (d : gD) (o : Nat) : Option (Int32) :=
  some 1
set_option maxRecDepth 100000 in
set_option maxHeartbeats 4000000 in
theorem w_R_there_J36 {X : GX} (hE : gE X b_R_there 2 "StandInMillModel" (some (.boolean)) "there" 1 21) {S : gS} {d : gD} {o : Nat} {r : Int32} :
    ∀ (_ : Unit), f_R_there_J36 S d o = some r → gw X 0 0 (gQ X (some (.int r)) S d 0 0) S d 36 [some (va_rf (some o)), none] [] := by
  intro _ h
  unfold f_R_there_J36 at h
  refine g_iconst hE d_R_there_36 ki_1 ?_
  refine g_goto hE d_R_there_37 ?_
  cases h
  exact g_zret hE (Or.inr rfl) d_R_there_41 rfl rfl
set_option maxRecDepth 100000 in
def f_R_there (S : gS) (d : gD) (o : Nat) (v1 : Int32) : Option (Int32) :=
  bd (f_R_isPlain S d v1) fun x1 =>
  if x1 = 0 then (
    if v1 = 7 then (
      f_R_there_J36 S d o)
    else (
      kd S o 10 <|
      bd (f_R_isClass S d o v1) fun x4 =>
      if x4 = 0 then (
        bd (f_R_isFace S d o v1) fun x6 =>
        if x6 = 0 then (
          bd (f_R_isBox S d v1) fun x8 =>
          if x8 = 0 then (
            some 0)
          else (
            f_R_there_J36 S d o))
        else (
          f_R_there_J36 S d o))
      else (
        f_R_there_J36 S d o)))
  else (
    f_R_there_J36 S d o)
set_option maxRecDepth 100000 in
set_option maxHeartbeats 4000000 in
theorem c_R_there (l : Launch) (G : gG) {S : gS} {d : gD} {o : Nat} {v1 : Int32} {r : Int32} (h : f_R_there S d o v1 = some r) : GM l G y_R_there b_R_there 2 (some (.boolean)) 1 21 0 0 [.inr (.inr (some o)), .inl v1] S d (some (.int r)) S d := by
  refine GM.of (by decide) (Nat.le_of_ble_eq_true rfl) ?_
  intro X hl0 hG0 hR0 hE0
  have hE : gE X b_R_there 2 "StandInMillModel" (some (.boolean)) "there" 1 21 := hE0
  unfold f_R_there at h
  refine gw.less (lv' := [some (va_rf (some o)), some (.int v1)]) (And.intro rfl (And.intro rfl trivial)) ?_
  refine g_iload_n (i := 1) hE d_R_there_0 rfl rfl ?_
  obtain ⟨x1, e2, h⟩ := bd_s h
  refine g_callS (av := [.inl v1]) (stk := [.int x1]) [] hE (c_R_isPlain (xl X) (xG X) e2) ky_R_isPlain ⟨Nat.le_of_ble_eq_true rfl, Nat.le_of_ble_eq_true rfl⟩ m_425 m_426 rfl d_R_there_1 rfl rfl ct_0 (Nat.zero_le _) (Nat.zero_le _) ?_
  refine gw.cs (c2 := 0) (s2 := 0) rfl rfl ?_
  refine g_if_ne hE d_R_there_4 (fun c14 => ?_) (fun c14 => ?_)
  · replace h := if_f c14 h
    exact gw.less (lv' := [some (va_rf (some o)), none]) (And.intro rfl trivial) (w_R_there_J36 hE () h)
  · replace h := if_t c14 h
    refine g_iload_n (i := 1) hE d_R_there_7 rfl rfl ?_
    refine g_bipush hE d_R_there_8 kb_7 ?_
    refine g_icmp_eq hE d_R_there_10 (fun c13 => ?_) (fun c13 => ?_)
    · replace h := if_t c13 h
      exact gw.less (lv' := [some (va_rf (some o)), none]) (And.intro rfl trivial) (w_R_there_J36 hE () h)
    · replace h := if_f c13 h
      refine g_aload_n (i := 0) hE d_R_there_13 rfl rfl ?_
      refine g_iload_n (i := 1) hE d_R_there_14 rfl rfl ?_
      obtain ⟨k3, h⟩ := kd_s h
      obtain ⟨x4, e5, h⟩ := bd_s h
      refine g_callV (av := [.inr (.inr (some o)), .inl v1]) (as := [.inl v1]) (stk := [.int x4]) [] hE (c_R_isClass (xl X) (xG X) e5) ky_R_isClass ⟨Nat.le_of_ble_eq_true rfl, Nat.le_of_ble_eq_true rfl⟩ rfl kc_R k3 m_427 m_428 m_429 rfl d_R_there_15 rfl rfl ct_0 (Nat.zero_le _) (Nat.zero_le _) ?_
      refine gw.cs (c2 := 0) (s2 := 0) rfl rfl ?_
      refine g_if_ne hE d_R_there_18 (fun c12 => ?_) (fun c12 => ?_)
      · replace h := if_f c12 h
        exact gw.less (lv' := [some (va_rf (some o)), none]) (And.intro rfl trivial) (w_R_there_J36 hE () h)
      · replace h := if_t c12 h
        refine g_aload_n (i := 0) hE d_R_there_21 rfl rfl ?_
        refine g_iload_n (i := 1) hE d_R_there_22 rfl rfl ?_
        obtain ⟨x6, e7, h⟩ := bd_s h
        refine g_callV (av := [.inr (.inr (some o)), .inl v1]) (as := [.inl v1]) (stk := [.int x6]) [] hE (c_R_isFace (xl X) (xG X) e7) ky_R_isFace ⟨Nat.le_of_ble_eq_true rfl, Nat.le_of_ble_eq_true rfl⟩ rfl kc_R k3 m_430 m_431 m_432 rfl d_R_there_23 rfl rfl ct_0 (Nat.zero_le _) (Nat.zero_le _) ?_
        refine gw.cs (c2 := 0) (s2 := 0) rfl rfl ?_
        refine g_if_ne hE d_R_there_26 (fun c11 => ?_) (fun c11 => ?_)
        · replace h := if_f c11 h
          exact gw.less (lv' := [some (va_rf (some o)), none]) (And.intro rfl trivial) (w_R_there_J36 hE () h)
        · replace h := if_t c11 h
          refine g_iload_n (i := 1) hE d_R_there_29 rfl rfl ?_
          obtain ⟨x8, e9, h⟩ := bd_s h
          refine g_callS (av := [.inl v1]) (stk := [.int x8]) [] hE (c_R_isBox (xl X) (xG X) e9) ky_R_isBox ⟨Nat.le_of_ble_eq_true rfl, Nat.le_of_ble_eq_true rfl⟩ m_433 m_434 rfl d_R_there_30 rfl rfl ct_0 (Nat.zero_le _) (Nat.zero_le _) ?_
          refine gw.cs (c2 := 0) (s2 := 0) rfl rfl ?_
          refine g_if_eq hE d_R_there_33 (fun c10 => ?_) (fun c10 => ?_)
          · replace h := if_t c10 h
            refine g_iconst hE d_R_there_40 ki_0 ?_
            cases h
            exact g_zret hE (Or.inl rfl) d_R_there_41 rfl rfl
          · replace h := if_f c10 h
            exact gw.less (lv' := [some (va_rf (some o)), none]) (And.intro rfl trivial) (w_R_there_J36 hE () h)
theorem d_R_isBelow_0 : dc b_R_isBelow 0 (.iload_n 1) 1 1 := ⟨by decide +kernel, rfl⟩
theorem d_R_isBelow_1 : dc b_R_isBelow 1 (.iload_n 2) 1 2 := ⟨by decide +kernel, rfl⟩
theorem d_R_isBelow_2 : db b_R_isBelow 2 (.if_icmp .ne 5) 5 7 5 := ⟨by decide +kernel, by decide, rfl⟩
theorem d_R_isBelow_5 : dc b_R_isBelow 5 (.iconst 1) 1 6 := ⟨by decide +kernel, rfl⟩
theorem d_R_isBelow_6 : dc b_R_isBelow 6 (.ireturn) 1 7 := ⟨by decide +kernel, rfl⟩
theorem d_R_isBelow_7 : dc b_R_isBelow 7 (.aload_n 0) 1 8 := ⟨by decide +kernel, rfl⟩
theorem d_R_isBelow_8 : dc b_R_isBelow 8 (.iload_n 1) 1 9 := ⟨by decide +kernel, rfl⟩
theorem d_R_isBelow_9 : dc b_R_isBelow 9 (.invokevirtual 170) 3 12 := ⟨by decide +kernel, rfl⟩
theorem d_R_isBelow_12 : db b_R_isBelow 12 (.ifCond .eq 25) 25 37 15 := ⟨by decide +kernel, by decide, rfl⟩
theorem d_R_isBelow_15 : dc b_R_isBelow 15 (.aload_n 0) 1 16 := ⟨by decide +kernel, rfl⟩
theorem d_R_isBelow_16 : dc b_R_isBelow 16 (.iload_n 2) 1 17 := ⟨by decide +kernel, rfl⟩
theorem d_R_isBelow_17 : dc b_R_isBelow 17 (.invokevirtual 170) 3 20 := ⟨by decide +kernel, rfl⟩
theorem d_R_isBelow_20 : db b_R_isBelow 20 (.ifCond .eq 17) 17 37 23 := ⟨by decide +kernel, by decide, rfl⟩
theorem d_R_isBelow_23 : dc b_R_isBelow 23 (.iload_n 1) 1 24 := ⟨by decide +kernel, rfl⟩
theorem d_R_isBelow_24 : dc b_R_isBelow 24 (.invokestatic 157) 3 27 := ⟨by decide +kernel, rfl⟩
theorem d_R_isBelow_27 : db b_R_isBelow 27 (.ifCond .ne 10) 10 37 30 := ⟨by decide +kernel, by decide, rfl⟩
theorem d_R_isBelow_30 : dc b_R_isBelow 30 (.iload_n 2) 1 31 := ⟨by decide +kernel, rfl⟩
theorem d_R_isBelow_31 : dc b_R_isBelow 31 (.invokestatic 157) 3 34 := ⟨by decide +kernel, rfl⟩
theorem d_R_isBelow_34 : db b_R_isBelow 34 (.ifCond .eq 5) 5 39 37 := ⟨by decide +kernel, by decide, rfl⟩
theorem d_R_isBelow_37 : dc b_R_isBelow 37 (.iconst 0) 1 38 := ⟨by decide +kernel, rfl⟩
theorem d_R_isBelow_38 : dc b_R_isBelow 38 (.ireturn) 1 39 := ⟨by decide +kernel, rfl⟩
theorem d_R_isBelow_39 : dc b_R_isBelow 39 (.iload_n 2) 1 40 := ⟨by decide +kernel, rfl⟩
theorem d_R_isBelow_40 : dc b_R_isBelow 40 (.bipush 7) 2 42 := ⟨by decide +kernel, rfl⟩
theorem d_R_isBelow_42 : db b_R_isBelow 42 (.if_icmp .ne 5) 5 47 45 := ⟨by decide +kernel, by decide, rfl⟩
theorem d_R_isBelow_45 : dc b_R_isBelow 45 (.iconst 1) 1 46 := ⟨by decide +kernel, rfl⟩
theorem d_R_isBelow_46 : dc b_R_isBelow 46 (.ireturn) 1 47 := ⟨by decide +kernel, rfl⟩
theorem d_R_isBelow_47 : dc b_R_isBelow 47 (.aload_n 0) 1 48 := ⟨by decide +kernel, rfl⟩
theorem d_R_isBelow_48 : dc b_R_isBelow 48 (.iload_n 1) 1 49 := ⟨by decide +kernel, rfl⟩
theorem d_R_isBelow_49 : dc b_R_isBelow 49 (.invokevirtual 161) 3 52 := ⟨by decide +kernel, rfl⟩
theorem d_R_isBelow_52 : db b_R_isBelow 52 (.ifCond .eq 37) 37 89 55 := ⟨by decide +kernel, by decide, rfl⟩
theorem d_R_isBelow_55 : dc b_R_isBelow 55 (.iload_n 1) 1 56 := ⟨by decide +kernel, rfl⟩
theorem d_R_isBelow_56 : dc b_R_isBelow 56 (.istore_n 3) 1 57 := ⟨by decide +kernel, rfl⟩
theorem d_R_isBelow_57 : dc b_R_isBelow 57 (.iload_n 3) 1 58 := ⟨by decide +kernel, rfl⟩
theorem d_R_isBelow_58 : dc b_R_isBelow 58 (.bipush 7) 2 60 := ⟨by decide +kernel, rfl⟩
theorem d_R_isBelow_60 : db b_R_isBelow 60 (.if_icmp .eq 18) 18 78 63 := ⟨by decide +kernel, by decide, rfl⟩
theorem d_R_isBelow_63 : dc b_R_isBelow 63 (.iload_n 3) 1 64 := ⟨by decide +kernel, rfl⟩
theorem d_R_isBelow_64 : dc b_R_isBelow 64 (.iload_n 2) 1 65 := ⟨by decide +kernel, rfl⟩
theorem d_R_isBelow_65 : db b_R_isBelow 65 (.if_icmp .eq 13) 13 78 68 := ⟨by decide +kernel, by decide, rfl⟩
theorem d_R_isBelow_68 : dc b_R_isBelow 68 (.aload_n 0) 1 69 := ⟨by decide +kernel, rfl⟩
theorem d_R_isBelow_69 : dc b_R_isBelow 69 (.getfield 23) 3 72 := ⟨by decide +kernel, rfl⟩
theorem d_R_isBelow_72 : dc b_R_isBelow 72 (.iload_n 3) 1 73 := ⟨by decide +kernel, rfl⟩
theorem d_R_isBelow_73 : dc b_R_isBelow 73 (.iaload) 1 74 := ⟨by decide +kernel, rfl⟩
theorem d_R_isBelow_74 : dc b_R_isBelow 74 (.istore_n 3) 1 75 := ⟨by decide +kernel, rfl⟩
theorem d_R_isBelow_75 : db b_R_isBelow 75 (.goto (-18)) (-18) 57 78 := ⟨by decide +kernel, by decide, rfl⟩
theorem d_R_isBelow_78 : dc b_R_isBelow 78 (.iload_n 3) 1 79 := ⟨by decide +kernel, rfl⟩
theorem d_R_isBelow_79 : dc b_R_isBelow 79 (.iload_n 2) 1 80 := ⟨by decide +kernel, rfl⟩
theorem d_R_isBelow_80 : db b_R_isBelow 80 (.if_icmp .ne 7) 7 87 83 := ⟨by decide +kernel, by decide, rfl⟩
theorem d_R_isBelow_83 : dc b_R_isBelow 83 (.iconst 1) 1 84 := ⟨by decide +kernel, rfl⟩
theorem d_R_isBelow_84 : db b_R_isBelow 84 (.goto 4) 4 88 87 := ⟨by decide +kernel, by decide, rfl⟩
theorem d_R_isBelow_87 : dc b_R_isBelow 87 (.iconst 0) 1 88 := ⟨by decide +kernel, rfl⟩
theorem d_R_isBelow_88 : dc b_R_isBelow 88 (.ireturn) 1 89 := ⟨by decide +kernel, rfl⟩
theorem d_R_isBelow_89 : dc b_R_isBelow 89 (.aload_n 0) 1 90 := ⟨by decide +kernel, rfl⟩
theorem d_R_isBelow_90 : dc b_R_isBelow 90 (.iload_n 1) 1 91 := ⟨by decide +kernel, rfl⟩
theorem d_R_isBelow_91 : dc b_R_isBelow 91 (.invokevirtual 164) 3 94 := ⟨by decide +kernel, rfl⟩
theorem d_R_isBelow_94 : db b_R_isBelow 94 (.ifCond .eq 11) 11 105 97 := ⟨by decide +kernel, by decide, rfl⟩
theorem d_R_isBelow_97 : dc b_R_isBelow 97 (.aload_n 0) 1 98 := ⟨by decide +kernel, rfl⟩
theorem d_R_isBelow_98 : dc b_R_isBelow 98 (.iload_n 2) 1 99 := ⟨by decide +kernel, rfl⟩
theorem d_R_isBelow_99 : dc b_R_isBelow 99 (.invokevirtual 164) 3 102 := ⟨by decide +kernel, rfl⟩
theorem d_R_isBelow_102 : db b_R_isBelow 102 (.ifCond .ne 5) 5 107 105 := ⟨by decide +kernel, by decide, rfl⟩
theorem d_R_isBelow_105 : dc b_R_isBelow 105 (.iconst 0) 1 106 := ⟨by decide +kernel, rfl⟩
theorem d_R_isBelow_106 : dc b_R_isBelow 106 (.ireturn) 1 107 := ⟨by decide +kernel, rfl⟩
theorem d_R_isBelow_107 : dc b_R_isBelow 107 (.iconst 1) 1 108 := ⟨by decide +kernel, rfl⟩
theorem d_R_isBelow_108 : dc b_R_isBelow 108 (.iload_n 1) 1 109 := ⟨by decide +kernel, rfl⟩
theorem d_R_isBelow_109 : dc b_R_isBelow 109 (.bipush 24) 2 111 := ⟨by decide +kernel, rfl⟩
theorem d_R_isBelow_111 : dc b_R_isBelow 111 (.isub) 1 112 := ⟨by decide +kernel, rfl⟩
theorem d_R_isBelow_112 : dc b_R_isBelow 112 (.ishl) 1 113 := ⟨by decide +kernel, rfl⟩
theorem d_R_isBelow_113 : dc b_R_isBelow 113 (.istore_n 3) 1 114 := ⟨by decide +kernel, rfl⟩
theorem d_R_isBelow_114 : dc b_R_isBelow 114 (.iload_n 1) 1 115 := ⟨by decide +kernel, rfl⟩
theorem d_R_isBelow_115 : dc b_R_isBelow 115 (.bipush 24) 2 117 := ⟨by decide +kernel, rfl⟩
theorem d_R_isBelow_117 : dc b_R_isBelow 117 (.isub) 1 118 := ⟨by decide +kernel, rfl⟩
theorem d_R_isBelow_118 : dc b_R_isBelow 118 (.istore 4) 2 120 := ⟨by decide +kernel, rfl⟩
theorem d_R_isBelow_120 : dc b_R_isBelow 120 (.iload 4) 2 122 := ⟨by decide +kernel, rfl⟩
theorem d_R_isBelow_122 : db b_R_isBelow 122 (.ifCond .lt 57) 57 179 125 := ⟨by decide +kernel, by decide, rfl⟩
theorem d_R_isBelow_125 : dc b_R_isBelow 125 (.iload_n 3) 1 126 := ⟨by decide +kernel, rfl⟩
theorem d_R_isBelow_126 : dc b_R_isBelow 126 (.iload 4) 2 128 := ⟨by decide +kernel, rfl⟩
theorem d_R_isBelow_128 : dc b_R_isBelow 128 (.ishr) 1 129 := ⟨by decide +kernel, rfl⟩
theorem d_R_isBelow_129 : dc b_R_isBelow 129 (.iconst 1) 1 130 := ⟨by decide +kernel, rfl⟩
theorem d_R_isBelow_130 : dc b_R_isBelow 130 (.iand) 1 131 := ⟨by decide +kernel, rfl⟩
theorem d_R_isBelow_131 : dc b_R_isBelow 131 (.iconst 1) 1 132 := ⟨by decide +kernel, rfl⟩
theorem d_R_isBelow_132 : db b_R_isBelow 132 (.if_icmp .ne 41) 41 173 135 := ⟨by decide +kernel, by decide, rfl⟩
theorem d_R_isBelow_135 : dc b_R_isBelow 135 (.iconst 0) 1 136 := ⟨by decide +kernel, rfl⟩
theorem d_R_isBelow_136 : dc b_R_isBelow 136 (.istore 5) 2 138 := ⟨by decide +kernel, rfl⟩
theorem d_R_isBelow_138 : dc b_R_isBelow 138 (.iload 5) 2 140 := ⟨by decide +kernel, rfl⟩
theorem d_R_isBelow_140 : dc b_R_isBelow 140 (.aload_n 0) 1 141 := ⟨by decide +kernel, rfl⟩
theorem d_R_isBelow_141 : dc b_R_isBelow 141 (.getfield 45) 3 144 := ⟨by decide +kernel, rfl⟩
theorem d_R_isBelow_144 : dc b_R_isBelow 144 (.iload 4) 2 146 := ⟨by decide +kernel, rfl⟩
theorem d_R_isBelow_146 : dc b_R_isBelow 146 (.iaload) 1 147 := ⟨by decide +kernel, rfl⟩
theorem d_R_isBelow_147 : db b_R_isBelow 147 (.if_icmp .ge 26) 26 173 150 := ⟨by decide +kernel, by decide, rfl⟩
theorem d_R_isBelow_150 : dc b_R_isBelow 150 (.iload_n 3) 1 151 := ⟨by decide +kernel, rfl⟩
theorem d_R_isBelow_151 : dc b_R_isBelow 151 (.iconst 1) 1 152 := ⟨by decide +kernel, rfl⟩
theorem d_R_isBelow_152 : dc b_R_isBelow 152 (.aload_n 0) 1 153 := ⟨by decide +kernel, rfl⟩
theorem d_R_isBelow_153 : dc b_R_isBelow 153 (.getfield 42) 3 156 := ⟨by decide +kernel, rfl⟩
theorem d_R_isBelow_156 : dc b_R_isBelow 156 (.iconst 2) 1 157 := ⟨by decide +kernel, rfl⟩
theorem d_R_isBelow_157 : dc b_R_isBelow 157 (.iload 4) 2 159 := ⟨by decide +kernel, rfl⟩
theorem d_R_isBelow_159 : dc b_R_isBelow 159 (.imul) 1 160 := ⟨by decide +kernel, rfl⟩
theorem d_R_isBelow_160 : dc b_R_isBelow 160 (.iload 5) 2 162 := ⟨by decide +kernel, rfl⟩
theorem d_R_isBelow_162 : dc b_R_isBelow 162 (.iadd) 1 163 := ⟨by decide +kernel, rfl⟩
theorem d_R_isBelow_163 : dc b_R_isBelow 163 (.iaload) 1 164 := ⟨by decide +kernel, rfl⟩
theorem d_R_isBelow_164 : dc b_R_isBelow 164 (.ishl) 1 165 := ⟨by decide +kernel, rfl⟩
theorem d_R_isBelow_165 : dc b_R_isBelow 165 (.ior) 1 166 := ⟨by decide +kernel, rfl⟩
theorem d_R_isBelow_166 : dc b_R_isBelow 166 (.istore_n 3) 1 167 := ⟨by decide +kernel, rfl⟩
theorem d_R_isBelow_167 : dc b_R_isBelow 167 (.iinc 5 1) 3 170 := ⟨by decide +kernel, rfl⟩
theorem d_R_isBelow_170 : db b_R_isBelow 170 (.goto (-32)) (-32) 138 173 := ⟨by decide +kernel, by decide, rfl⟩
theorem d_R_isBelow_173 : dc b_R_isBelow 173 (.iinc 4 (-1)) 3 176 := ⟨by decide +kernel, rfl⟩
theorem d_R_isBelow_176 : db b_R_isBelow 176 (.goto (-56)) (-56) 120 179 := ⟨by decide +kernel, by decide, rfl⟩
theorem d_R_isBelow_179 : dc b_R_isBelow 179 (.iload_n 3) 1 180 := ⟨by decide +kernel, rfl⟩
theorem d_R_isBelow_180 : dc b_R_isBelow 180 (.iload_n 2) 1 181 := ⟨by decide +kernel, rfl⟩
theorem d_R_isBelow_181 : dc b_R_isBelow 181 (.bipush 24) 2 183 := ⟨by decide +kernel, rfl⟩
theorem d_R_isBelow_183 : dc b_R_isBelow 183 (.isub) 1 184 := ⟨by decide +kernel, rfl⟩
theorem d_R_isBelow_184 : dc b_R_isBelow 184 (.ishr) 1 185 := ⟨by decide +kernel, rfl⟩
theorem d_R_isBelow_185 : dc b_R_isBelow 185 (.iconst 1) 1 186 := ⟨by decide +kernel, rfl⟩
theorem d_R_isBelow_186 : dc b_R_isBelow 186 (.iand) 1 187 := ⟨by decide +kernel, rfl⟩
theorem d_R_isBelow_187 : dc b_R_isBelow 187 (.iconst 1) 1 188 := ⟨by decide +kernel, rfl⟩
theorem d_R_isBelow_188 : db b_R_isBelow 188 (.if_icmp .ne 7) 7 195 191 := ⟨by decide +kernel, by decide, rfl⟩
theorem d_R_isBelow_191 : dc b_R_isBelow 191 (.iconst 1) 1 192 := ⟨by decide +kernel, rfl⟩
theorem d_R_isBelow_192 : db b_R_isBelow 192 (.goto 4) 4 196 195 := ⟨by decide +kernel, by decide, rfl⟩
theorem d_R_isBelow_195 : dc b_R_isBelow 195 (.iconst 0) 1 196 := ⟨by decide +kernel, rfl⟩
theorem d_R_isBelow_196 : dc b_R_isBelow 196 (.ireturn) 1 197 := ⟨by decide +kernel, rfl⟩
def f_R_isBelow_J173 (S : gS) (d : gD) (o : Nat) (kx179 : Int32 → Int32 → Option (Int32)) (kb : Int32 → Int32 → Int32 → Option (Int32)) (v2 : Int32) (v3 : Int32) (v4 : Int32) : Option (Int32) :=
  kb v2 v3 (v4 + (-1))
set_option maxRecDepth 100000 in
set_option maxHeartbeats 4000000 in
theorem w_R_isBelow_J173 {X : GX} (hE : gE X b_R_isBelow 6 "StandInMillModel" (some (.boolean)) "isBelow" 2 42) {S : gS} {d : gD} {o : Nat} {r : Int32} {kb : Int32 → Int32 → Int32 → Option (Int32)} {kx179 : Int32 → Int32 → Option (Int32)} (hkb : ∀ (v2 : Int32) (v3 : Int32) (v4 : Int32), kb v2 v3 v4 = some r → gw X 0 0 (gQ X (some (.int r)) S d 0 0) S d 120 [some (va_rf (some o)), none, some (.int v2), some (.int v3), some (.int v4), none] []) (hkx179 : ∀ (v2 : Int32) (v3 : Int32), kx179 v2 v3 = some r → gw X 0 0 (gQ X (some (.int r)) S d 0 0) S d 179 [some (va_rf (some o)), none, some (.int v2), some (.int v3), none, none] []) :
    ∀ (v2 : Int32) (v3 : Int32) (v4 : Int32), f_R_isBelow_J173 S d o kx179 kb v2 v3 v4 = some r → gw X 0 0 (gQ X (some (.int r)) S d 0 0) S d 173 [some (va_rf (some o)), none, some (.int v2), some (.int v3), some (.int v4), none] [] := by
  intro v2 v3 v4 h
  unfold f_R_isBelow_J173 at h
  refine g_iinc (i := 4) (lv' := [some (va_rf (some o)), none, some (.int v2), some (.int v3), some (.int (v4 + (-1))), none]) hE d_R_isBelow_173 ki_m1 rfl (Nat.le_of_ble_eq_true rfl) ⟨rfl, Nat.le_of_ble_eq_true rfl⟩ (lvp_i rfl) ?_
  refine g_goto hE d_R_isBelow_176 ?_
  exact gw.less (lv' := [some (va_rf (some o)), none, some (.int v2), some (.int v3), some (.int (v4 + (-1))), none]) (And.intro rfl (And.intro rfl (And.intro rfl (And.intro rfl trivial)))) (hkb v2 v3 (v4 + (-1)) h)
def f_R_isBelow_B138 (S : gS) (d : gD) (o : Nat) (kx173 : Int32 → Int32 → Int32 → Option (Int32)) (kb : Int32 → Int32 → Int32 → Int32 → Option (Int32)) (v2 : Int32) (v3 : Int32) (v4 : Int32) (v5 : Int32) : Option (Int32) :=
  kd S o 10 <|
  lt_ (sP S o 11) fun x2 =>
  nn x2 fun a3 =>
  kd S a3 50 <|
  gi v4 (sN S a3) <|
  lt_ (dI d a3 v4.toNatClampNeg) fun x6 =>
  if x6 ≤ v5 then (
    kx173 v2 v3 v4)
  else (
    lt_ (sP S o 10) fun x7 =>
    nn x7 fun a8 =>
    kd S a8 50 <|
    gi ((2 * v4) + v5) (sN S a8) <|
    lt_ (dI d a8 ((2 * v4) + v5 : Int32).toNatClampNeg) fun x11 =>
    kb v2 (v3 ||| (1 <<< (x11 &&& 31))) v4 (v5 + 1))
set_option maxRecDepth 100000 in
set_option maxHeartbeats 4000000 in
theorem w_R_isBelow_B138 {X : GX} (hE : gE X b_R_isBelow 6 "StandInMillModel" (some (.boolean)) "isBelow" 2 42) {S : gS} {d : gD} {o : Nat} {r : Int32} {kb : Int32 → Int32 → Int32 → Int32 → Option (Int32)} {kx173 : Int32 → Int32 → Int32 → Option (Int32)} (hkb : ∀ (v2 : Int32) (v3 : Int32) (v4 : Int32) (v5 : Int32), kb v2 v3 v4 v5 = some r → gw X 0 0 (gQ X (some (.int r)) S d 0 0) S d 138 [some (va_rf (some o)), none, some (.int v2), some (.int v3), some (.int v4), some (.int v5)] []) (hkx173 : ∀ (v2 : Int32) (v3 : Int32) (v4 : Int32), kx173 v2 v3 v4 = some r → gw X 0 0 (gQ X (some (.int r)) S d 0 0) S d 173 [some (va_rf (some o)), none, some (.int v2), some (.int v3), some (.int v4), none] []) :
    ∀ (v2 : Int32) (v3 : Int32) (v4 : Int32) (v5 : Int32), f_R_isBelow_B138 S d o kx173 kb v2 v3 v4 v5 = some r → gw X 0 0 (gQ X (some (.int r)) S d 0 0) S d 138 [some (va_rf (some o)), none, some (.int v2), some (.int v3), some (.int v4), some (.int v5)] [] := by
  intro v2 v3 v4 v5 h
  unfold f_R_isBelow_B138 at h
  refine g_iload (i := 5) hE d_R_isBelow_138 rfl ?_
  refine g_aload_n (i := 0) hE d_R_isBelow_140 rfl rfl ?_
  obtain ⟨k1, h⟩ := kd_s h
  refine g_getR 11 hE kc_R k1 (Nat.le_of_ble_eq_true rfl) rfl m_388 d_R_isBelow_141 (fun x2 e => ?_)
  replace h := lt_i e h; clear e
  refine g_iload (i := 4) hE d_R_isBelow_144 rfl ?_
  obtain ⟨a3, rfl, h⟩ := nn_s h
  obtain ⟨k4, h⟩ := kd_s h
  obtain ⟨g5, h⟩ := gi_s h
  refine g_iald hE k4 g5 d_R_isBelow_146 (fun x6 e => ?_)
  replace h := lt_i e h; clear e
  refine g_icmp_ge hE d_R_isBelow_147 (fun c12 => ?_) (fun c12 => ?_)
  · replace h := if_t c12 h
    exact gw.less (lv' := [some (va_rf (some o)), none, some (.int v2), some (.int v3), some (.int v4), none]) (And.intro rfl (And.intro rfl (And.intro rfl (And.intro rfl trivial)))) (hkx173 v2 v3 v4 h)
  · replace h := if_f c12 h
    refine g_iload_n (i := 3) hE d_R_isBelow_150 rfl rfl ?_
    refine g_iconst hE d_R_isBelow_151 ki_1 ?_
    refine g_aload_n (i := 0) hE d_R_isBelow_152 rfl rfl ?_
    refine g_getR 10 hE kc_R k1 (Nat.le_of_ble_eq_true rfl) rfl m_387 d_R_isBelow_153 (fun x7 e => ?_)
    replace h := lt_i e h; clear e
    refine g_iconst hE d_R_isBelow_156 ki_2 ?_
    refine g_iload (i := 4) hE d_R_isBelow_157 rfl ?_
    refine g_imul hE d_R_isBelow_159 ?_
    refine g_iload (i := 5) hE d_R_isBelow_160 rfl ?_
    refine g_iadd hE d_R_isBelow_162 ?_
    obtain ⟨a8, rfl, h⟩ := nn_s h
    obtain ⟨k9, h⟩ := kd_s h
    obtain ⟨g10, h⟩ := gi_s h
    refine g_iald hE k9 g10 d_R_isBelow_163 (fun x11 e => ?_)
    replace h := lt_i e h; clear e
    refine g_ishl hE d_R_isBelow_164 ?_
    refine g_ior hE d_R_isBelow_165 ?_
    refine g_istore_n (i := 3) (lv' := [some (va_rf (some o)), none, some (.int v2), some (.int (v3 ||| (1 <<< (x11 &&& 31)))), some (.int v4), some (.int v5)]) hE d_R_isBelow_166 rfl (Nat.le_of_ble_eq_true rfl) ⟨rfl, Nat.le_of_ble_eq_true rfl⟩ (lvp_i rfl) ?_
    refine g_iinc (i := 5) (lv' := [some (va_rf (some o)), none, some (.int v2), some (.int (v3 ||| (1 <<< (x11 &&& 31)))), some (.int v4), some (.int (v5 + 1))]) hE d_R_isBelow_167 ki_1 rfl (Nat.le_of_ble_eq_true rfl) ⟨rfl, Nat.le_of_ble_eq_true rfl⟩ (lvp_i rfl) ?_
    refine g_goto hE d_R_isBelow_170 ?_
    exact gw.less (lv' := [some (va_rf (some o)), none, some (.int v2), some (.int (v3 ||| (1 <<< (x11 &&& 31)))), some (.int v4), some (.int (v5 + 1))]) (And.intro rfl (And.intro rfl (And.intro rfl (And.intro rfl (And.intro rfl trivial))))) (hkb v2 (v3 ||| (1 <<< (x11 &&& 31))) v4 (v5 + 1) h)
theorem w_R_isBelow_L138 {X : GX} (hE : gE X b_R_isBelow 6 "StandInMillModel" (some (.boolean)) "isBelow" 2 42) {S : gS} {d : gD} {o : Nat} {r : Int32} {kx173 : Int32 → Int32 → Int32 → Option (Int32)} (hkx173 : ∀ (v2 : Int32) (v3 : Int32) (v4 : Int32), kx173 v2 v3 v4 = some r → gw X 0 0 (gQ X (some (.int r)) S d 0 0) S d 173 [some (va_rf (some o)), none, some (.int v2), some (.int v3), some (.int v4), none] []) : ∀ (n : Nat) (v2 : Int32) (v3 : Int32) (v4 : Int32) (v5 : Int32), itr (f_R_isBelow_B138 S d o kx173) (fun _ _ _ _ => none) n v2 v3 v4 v5 = some r → gw X 0 0 (gQ X (some (.int r)) S d 0 0) S d 138 [some (va_rf (some o)), none, some (.int v2), some (.int v3), some (.int v4), some (.int v5)] [] := by
  intro n
  induction n with
  | zero => intro v2 v3 v4 v5 h; cases h
  | succ n ih => exact w_R_isBelow_B138 hE ih hkx173
def f_R_isBelow_B120 (S : gS) (d : gD) (o : Nat) (kx179 : Int32 → Int32 → Option (Int32)) (kb : Int32 → Int32 → Int32 → Option (Int32)) (v2 : Int32) (v3 : Int32) (v4 : Int32) : Option (Int32) :=
  if v4 < 0 then (
    kx179 v2 v3)
  else (
    if ((v3 >>> (v4 &&& 31)) &&& 1) = 1 then (
      itr (f_R_isBelow_B138 S d o (f_R_isBelow_J173 S d o kx179 kb)) (fun _ _ _ _ => none) fu v2 v3 v4 0)
    else (
      f_R_isBelow_J173 S d o kx179 kb v2 v3 v4))
set_option maxRecDepth 100000 in
set_option maxHeartbeats 4000000 in
theorem w_R_isBelow_B120 {X : GX} (hE : gE X b_R_isBelow 6 "StandInMillModel" (some (.boolean)) "isBelow" 2 42) {S : gS} {d : gD} {o : Nat} {r : Int32} {kb : Int32 → Int32 → Int32 → Option (Int32)} {kx179 : Int32 → Int32 → Option (Int32)} (hkb : ∀ (v2 : Int32) (v3 : Int32) (v4 : Int32), kb v2 v3 v4 = some r → gw X 0 0 (gQ X (some (.int r)) S d 0 0) S d 120 [some (va_rf (some o)), none, some (.int v2), some (.int v3), some (.int v4), none] []) (hkx179 : ∀ (v2 : Int32) (v3 : Int32), kx179 v2 v3 = some r → gw X 0 0 (gQ X (some (.int r)) S d 0 0) S d 179 [some (va_rf (some o)), none, some (.int v2), some (.int v3), none, none] []) :
    ∀ (v2 : Int32) (v3 : Int32) (v4 : Int32), f_R_isBelow_B120 S d o kx179 kb v2 v3 v4 = some r → gw X 0 0 (gQ X (some (.int r)) S d 0 0) S d 120 [some (va_rf (some o)), none, some (.int v2), some (.int v3), some (.int v4), none] [] := by
  intro v2 v3 v4 h
  unfold f_R_isBelow_B120 at h
  refine g_iload (i := 4) hE d_R_isBelow_120 rfl ?_
  refine g_if_lt hE d_R_isBelow_122 (fun c2 => ?_) (fun c2 => ?_)
  · replace h := if_t c2 h
    exact gw.less (lv' := [some (va_rf (some o)), none, some (.int v2), some (.int v3), none, none]) (And.intro rfl (And.intro rfl (And.intro rfl trivial))) (hkx179 v2 v3 h)
  · replace h := if_f c2 h
    refine g_iload_n (i := 3) hE d_R_isBelow_125 rfl rfl ?_
    refine g_iload (i := 4) hE d_R_isBelow_126 rfl ?_
    refine g_ishr hE d_R_isBelow_128 ?_
    refine g_iconst hE d_R_isBelow_129 ki_1 ?_
    refine g_iand hE d_R_isBelow_130 ?_
    refine g_iconst hE d_R_isBelow_131 ki_1 ?_
    refine g_icmp_ne hE d_R_isBelow_132 (fun c1 => ?_) (fun c1 => ?_)
    · replace h := if_f c1 h
      exact gw.less (lv' := [some (va_rf (some o)), none, some (.int v2), some (.int v3), some (.int v4), none]) (And.intro rfl (And.intro rfl (And.intro rfl (And.intro rfl trivial)))) (w_R_isBelow_J173 hE hkb hkx179 v2 v3 v4 h)
    · replace h := if_t c1 h
      refine g_iconst hE d_R_isBelow_135 ki_0 ?_
      refine g_istore (i := 5) (lv' := [some (va_rf (some o)), none, some (.int v2), some (.int v3), some (.int v4), some (.int 0)]) hE d_R_isBelow_136 (Nat.le_of_ble_eq_true rfl) ⟨rfl, Nat.le_of_ble_eq_true rfl⟩ (lvp_i rfl) ?_
      exact gw.less (lv' := [some (va_rf (some o)), none, some (.int v2), some (.int v3), some (.int v4), some (.int 0)]) (And.intro rfl (And.intro rfl (And.intro rfl (And.intro rfl (And.intro rfl trivial))))) (w_R_isBelow_L138 hE (w_R_isBelow_J173 hE hkb hkx179) fu v2 v3 v4 0 h)
theorem w_R_isBelow_L120 {X : GX} (hE : gE X b_R_isBelow 6 "StandInMillModel" (some (.boolean)) "isBelow" 2 42) {S : gS} {d : gD} {o : Nat} {r : Int32} {kx179 : Int32 → Int32 → Option (Int32)} (hkx179 : ∀ (v2 : Int32) (v3 : Int32), kx179 v2 v3 = some r → gw X 0 0 (gQ X (some (.int r)) S d 0 0) S d 179 [some (va_rf (some o)), none, some (.int v2), some (.int v3), none, none] []) : ∀ (n : Nat) (v2 : Int32) (v3 : Int32) (v4 : Int32), itr (f_R_isBelow_B120 S d o kx179) (fun _ _ _ => none) n v2 v3 v4 = some r → gw X 0 0 (gQ X (some (.int r)) S d 0 0) S d 120 [some (va_rf (some o)), none, some (.int v2), some (.int v3), some (.int v4), none] [] := by
  intro n
  induction n with
  | zero => intro v2 v3 v4 h; cases h
  | succ n ih => exact w_R_isBelow_B120 hE ih hkx179
def f_R_isBelow_J179 (S : gS) (d : gD) (o : Nat) (v2 : Int32) (v3 : Int32) : Option (Int32) :=
  if ((v3 >>> ((v2 - 24) &&& 31)) &&& 1) = 1 then (
    some 1)
  else (
    some 0)
set_option maxRecDepth 100000 in
set_option maxHeartbeats 4000000 in
theorem w_R_isBelow_J179 {X : GX} (hE : gE X b_R_isBelow 6 "StandInMillModel" (some (.boolean)) "isBelow" 2 42) {S : gS} {d : gD} {o : Nat} {r : Int32} :
    ∀ (v2 : Int32) (v3 : Int32), f_R_isBelow_J179 S d o v2 v3 = some r → gw X 0 0 (gQ X (some (.int r)) S d 0 0) S d 179 [some (va_rf (some o)), none, some (.int v2), some (.int v3), none, none] [] := by
  intro v2 v3 h
  unfold f_R_isBelow_J179 at h
  refine g_iload_n (i := 3) hE d_R_isBelow_179 rfl rfl ?_
  refine g_iload_n (i := 2) hE d_R_isBelow_180 rfl rfl ?_
  refine g_bipush hE d_R_isBelow_181 kb_24 ?_
  refine g_isub hE d_R_isBelow_183 ?_
  refine g_ishr hE d_R_isBelow_184 ?_
  refine g_iconst hE d_R_isBelow_185 ki_1 ?_
  refine g_iand hE d_R_isBelow_186 ?_
  refine g_iconst hE d_R_isBelow_187 ki_1 ?_
  refine g_icmp_ne hE d_R_isBelow_188 (fun c1 => ?_) (fun c1 => ?_)
  · replace h := if_f c1 h
    refine g_iconst hE d_R_isBelow_195 ki_0 ?_
    cases h
    exact g_zret hE (Or.inl rfl) d_R_isBelow_196 rfl rfl
  · replace h := if_t c1 h
    refine g_iconst hE d_R_isBelow_191 ki_1 ?_
    refine g_goto hE d_R_isBelow_192 ?_
    cases h
    exact g_zret hE (Or.inr rfl) d_R_isBelow_196 rfl rfl
def f_R_isBelow_B57 (S : gS) (d : gD) (o : Nat) (kx78 : Int32 → Int32 → Option (Int32)) (kb : Int32 → Int32 → Option (Int32)) (v2 : Int32) (v3 : Int32) : Option (Int32) :=
  if v3 = 7 then (
    kx78 v2 v3)
  else (
    if v3 = v2 then (
      kx78 v2 v3)
    else (
      kd S o 10 <|
      lt_ (sP S o 4) fun x2 =>
      nn x2 fun a3 =>
      kd S a3 50 <|
      gi v3 (sN S a3) <|
      lt_ (dI d a3 v3.toNatClampNeg) fun x6 =>
      kb v2 x6))
set_option maxRecDepth 100000 in
set_option maxHeartbeats 4000000 in
theorem w_R_isBelow_B57 {X : GX} (hE : gE X b_R_isBelow 6 "StandInMillModel" (some (.boolean)) "isBelow" 2 42) {S : gS} {d : gD} {o : Nat} {r : Int32} {kb : Int32 → Int32 → Option (Int32)} {kx78 : Int32 → Int32 → Option (Int32)} (hkb : ∀ (v2 : Int32) (v3 : Int32), kb v2 v3 = some r → gw X 0 0 (gQ X (some (.int r)) S d 0 0) S d 57 [some (va_rf (some o)), none, some (.int v2), some (.int v3), none, none] []) (hkx78 : ∀ (v2 : Int32) (v3 : Int32), kx78 v2 v3 = some r → gw X 0 0 (gQ X (some (.int r)) S d 0 0) S d 78 [some (va_rf (some o)), none, some (.int v2), some (.int v3), none, none] []) :
    ∀ (v2 : Int32) (v3 : Int32), f_R_isBelow_B57 S d o kx78 kb v2 v3 = some r → gw X 0 0 (gQ X (some (.int r)) S d 0 0) S d 57 [some (va_rf (some o)), none, some (.int v2), some (.int v3), none, none] [] := by
  intro v2 v3 h
  unfold f_R_isBelow_B57 at h
  refine g_iload_n (i := 3) hE d_R_isBelow_57 rfl rfl ?_
  refine g_bipush hE d_R_isBelow_58 kb_7 ?_
  refine g_icmp_eq hE d_R_isBelow_60 (fun c8 => ?_) (fun c8 => ?_)
  · replace h := if_t c8 h
    exact gw.less (lv' := [some (va_rf (some o)), none, some (.int v2), some (.int v3), none, none]) (And.intro rfl (And.intro rfl (And.intro rfl trivial))) (hkx78 v2 v3 h)
  · replace h := if_f c8 h
    refine g_iload_n (i := 3) hE d_R_isBelow_63 rfl rfl ?_
    refine g_iload_n (i := 2) hE d_R_isBelow_64 rfl rfl ?_
    refine g_icmp_eq hE d_R_isBelow_65 (fun c7 => ?_) (fun c7 => ?_)
    · replace h := if_t c7 h
      exact gw.less (lv' := [some (va_rf (some o)), none, some (.int v2), some (.int v3), none, none]) (And.intro rfl (And.intro rfl (And.intro rfl trivial))) (hkx78 v2 v3 h)
    · replace h := if_f c7 h
      refine g_aload_n (i := 0) hE d_R_isBelow_68 rfl rfl ?_
      obtain ⟨k1, h⟩ := kd_s h
      refine g_getR 4 hE kc_R k1 (Nat.le_of_ble_eq_true rfl) rfl m_380 d_R_isBelow_69 (fun x2 e => ?_)
      replace h := lt_i e h; clear e
      refine g_iload_n (i := 3) hE d_R_isBelow_72 rfl rfl ?_
      obtain ⟨a3, rfl, h⟩ := nn_s h
      obtain ⟨k4, h⟩ := kd_s h
      obtain ⟨g5, h⟩ := gi_s h
      refine g_iald hE k4 g5 d_R_isBelow_73 (fun x6 e => ?_)
      replace h := lt_i e h; clear e
      refine g_istore_n (i := 3) (lv' := [some (va_rf (some o)), none, some (.int v2), some (.int x6), none, none]) hE d_R_isBelow_74 rfl (Nat.le_of_ble_eq_true rfl) ⟨rfl, Nat.le_of_ble_eq_true rfl⟩ (lvp_i rfl) ?_
      refine g_goto hE d_R_isBelow_75 ?_
      exact gw.less (lv' := [some (va_rf (some o)), none, some (.int v2), some (.int x6), none, none]) (And.intro rfl (And.intro rfl (And.intro rfl trivial))) (hkb v2 x6 h)
theorem w_R_isBelow_L57 {X : GX} (hE : gE X b_R_isBelow 6 "StandInMillModel" (some (.boolean)) "isBelow" 2 42) {S : gS} {d : gD} {o : Nat} {r : Int32} {kx78 : Int32 → Int32 → Option (Int32)} (hkx78 : ∀ (v2 : Int32) (v3 : Int32), kx78 v2 v3 = some r → gw X 0 0 (gQ X (some (.int r)) S d 0 0) S d 78 [some (va_rf (some o)), none, some (.int v2), some (.int v3), none, none] []) : ∀ (n : Nat) (v2 : Int32) (v3 : Int32), itr (f_R_isBelow_B57 S d o kx78) (fun _ _ => none) n v2 v3 = some r → gw X 0 0 (gQ X (some (.int r)) S d 0 0) S d 57 [some (va_rf (some o)), none, some (.int v2), some (.int v3), none, none] [] := by
  intro n
  induction n with
  | zero => intro v2 v3 h; cases h
  | succ n ih => exact w_R_isBelow_B57 hE ih hkx78
def f_R_isBelow_J78 (S : gS) (d : gD) (o : Nat) (v2 : Int32) (v3 : Int32) : Option (Int32) :=
  if v3 = v2 then (
    some 1)
  else (
    some 0)
set_option maxRecDepth 100000 in
set_option maxHeartbeats 4000000 in
theorem w_R_isBelow_J78 {X : GX} (hE : gE X b_R_isBelow 6 "StandInMillModel" (some (.boolean)) "isBelow" 2 42) {S : gS} {d : gD} {o : Nat} {r : Int32} :
    ∀ (v2 : Int32) (v3 : Int32), f_R_isBelow_J78 S d o v2 v3 = some r → gw X 0 0 (gQ X (some (.int r)) S d 0 0) S d 78 [some (va_rf (some o)), none, some (.int v2), some (.int v3), none, none] [] := by
  intro v2 v3 h
  unfold f_R_isBelow_J78 at h
  refine g_iload_n (i := 3) hE d_R_isBelow_78 rfl rfl ?_
  refine g_iload_n (i := 2) hE d_R_isBelow_79 rfl rfl ?_
  refine g_icmp_ne hE d_R_isBelow_80 (fun c1 => ?_) (fun c1 => ?_)
  · replace h := if_f c1 h
    refine g_iconst hE d_R_isBelow_87 ki_0 ?_
    cases h
    exact g_zret hE (Or.inl rfl) d_R_isBelow_88 rfl rfl
  · replace h := if_t c1 h
    refine g_iconst hE d_R_isBelow_83 ki_1 ?_
    refine g_goto hE d_R_isBelow_84 ?_
    cases h
    exact g_zret hE (Or.inr rfl) d_R_isBelow_88 rfl rfl
set_option maxRecDepth 100000 in
def f_R_isBelow (S : gS) (d : gD) (o : Nat) (v1 : Int32) (v2 : Int32) : Option (Int32) :=
  if v1 = v2 then (
    some 1)
  else (
    kd S o 10 <|
    bd (f_R_there S d o v1) fun x2 =>
    if x2 = 0 then (
      some 0)
    else (
      bd (f_R_there S d o v2) fun x4 =>
      if x4 = 0 then (
        some 0)
      else (
        bd (f_R_isPlain S d v1) fun x6 =>
        if x6 = 0 then (
          bd (f_R_isPlain S d v2) fun x8 =>
          if x8 = 0 then (
            if v2 = 7 then (
              some 1)
            else (
              bd (f_R_isClass S d o v1) fun x10 =>
              if x10 = 0 then (
                bd (f_R_isFace S d o v1) fun x12 =>
                if x12 = 0 then (
                  some 0)
                else (
                  bd (f_R_isFace S d o v2) fun x14 =>
                  if x14 = 0 then (
                    some 0)
                  else (
                    itr (f_R_isBelow_B120 S d o (f_R_isBelow_J179 S d o)) (fun _ _ _ => none) fu v2 (1 <<< ((v1 - 24) &&& 31)) (v1 - 24))))
              else (
                itr (f_R_isBelow_B57 S d o (f_R_isBelow_J78 S d o)) (fun _ _ => none) fu v2 v1)))
          else (
            some 0))
        else (
          some 0))))
set_option maxRecDepth 100000 in
set_option maxHeartbeats 4000000 in
theorem c_R_isBelow (l : Launch) (G : gG) {S : gS} {d : gD} {o : Nat} {v1 : Int32} {v2 : Int32} {r : Int32} (h : f_R_isBelow S d o v1 v2 = some r) : GM l G y_R_isBelow b_R_isBelow 6 (some (.boolean)) 2 42 0 0 [.inr (.inr (some o)), .inl v1, .inl v2] S d (some (.int r)) S d := by
  refine GM.of (by decide) (Nat.le_of_ble_eq_true rfl) ?_
  intro X hl0 hG0 hR0 hE0
  have hE : gE X b_R_isBelow 6 "StandInMillModel" (some (.boolean)) "isBelow" 2 42 := hE0
  unfold f_R_isBelow at h
  refine gw.less (lv' := [some (va_rf (some o)), some (.int v1), some (.int v2), none, none, none]) (And.intro rfl (And.intro rfl (And.intro rfl trivial))) ?_
  refine g_iload_n (i := 1) hE d_R_isBelow_0 rfl rfl ?_
  refine g_iload_n (i := 2) hE d_R_isBelow_1 rfl rfl ?_
  refine g_icmp_ne hE d_R_isBelow_2 (fun c24 => ?_) (fun c24 => ?_)
  · replace h := if_f c24 h
    refine g_aload_n (i := 0) hE d_R_isBelow_7 rfl rfl ?_
    refine g_iload_n (i := 1) hE d_R_isBelow_8 rfl rfl ?_
    obtain ⟨k1, h⟩ := kd_s h
    obtain ⟨x2, e3, h⟩ := bd_s h
    refine g_callV (av := [.inr (.inr (some o)), .inl v1]) (as := [.inl v1]) (stk := [.int x2]) [] hE (c_R_there (xl X) (xG X) e3) ky_R_there ⟨Nat.le_of_ble_eq_true rfl, Nat.le_of_ble_eq_true rfl⟩ rfl kc_R k1 m_435 m_436 m_437 rfl d_R_isBelow_9 rfl rfl ct_0 (Nat.zero_le _) (Nat.zero_le _) ?_
    refine gw.cs (c2 := 0) (s2 := 0) rfl rfl ?_
    refine g_if_eq hE d_R_isBelow_12 (fun c23 => ?_) (fun c23 => ?_)
    · replace h := if_t c23 h
      refine g_iconst hE d_R_isBelow_37 ki_0 ?_
      cases h
      exact g_zret hE (Or.inl rfl) d_R_isBelow_38 rfl rfl
    · replace h := if_f c23 h
      refine g_aload_n (i := 0) hE d_R_isBelow_15 rfl rfl ?_
      refine g_iload_n (i := 2) hE d_R_isBelow_16 rfl rfl ?_
      obtain ⟨x4, e5, h⟩ := bd_s h
      refine g_callV (av := [.inr (.inr (some o)), .inl v2]) (as := [.inl v2]) (stk := [.int x4]) [] hE (c_R_there (xl X) (xG X) e5) ky_R_there ⟨Nat.le_of_ble_eq_true rfl, Nat.le_of_ble_eq_true rfl⟩ rfl kc_R k1 m_435 m_436 m_437 rfl d_R_isBelow_17 rfl rfl ct_0 (Nat.zero_le _) (Nat.zero_le _) ?_
      refine gw.cs (c2 := 0) (s2 := 0) rfl rfl ?_
      refine g_if_eq hE d_R_isBelow_20 (fun c22 => ?_) (fun c22 => ?_)
      · replace h := if_t c22 h
        refine g_iconst hE d_R_isBelow_37 ki_0 ?_
        cases h
        exact g_zret hE (Or.inl rfl) d_R_isBelow_38 rfl rfl
      · replace h := if_f c22 h
        refine g_iload_n (i := 1) hE d_R_isBelow_23 rfl rfl ?_
        obtain ⟨x6, e7, h⟩ := bd_s h
        refine g_callS (av := [.inl v1]) (stk := [.int x6]) [] hE (c_R_isPlain (xl X) (xG X) e7) ky_R_isPlain ⟨Nat.le_of_ble_eq_true rfl, Nat.le_of_ble_eq_true rfl⟩ m_425 m_426 rfl d_R_isBelow_24 rfl rfl ct_0 (Nat.zero_le _) (Nat.zero_le _) ?_
        refine gw.cs (c2 := 0) (s2 := 0) rfl rfl ?_
        refine g_if_ne hE d_R_isBelow_27 (fun c21 => ?_) (fun c21 => ?_)
        · replace h := if_f c21 h
          refine g_iconst hE d_R_isBelow_37 ki_0 ?_
          cases h
          exact g_zret hE (Or.inl rfl) d_R_isBelow_38 rfl rfl
        · replace h := if_t c21 h
          refine g_iload_n (i := 2) hE d_R_isBelow_30 rfl rfl ?_
          obtain ⟨x8, e9, h⟩ := bd_s h
          refine g_callS (av := [.inl v2]) (stk := [.int x8]) [] hE (c_R_isPlain (xl X) (xG X) e9) ky_R_isPlain ⟨Nat.le_of_ble_eq_true rfl, Nat.le_of_ble_eq_true rfl⟩ m_425 m_426 rfl d_R_isBelow_31 rfl rfl ct_0 (Nat.zero_le _) (Nat.zero_le _) ?_
          refine gw.cs (c2 := 0) (s2 := 0) rfl rfl ?_
          refine g_if_eq hE d_R_isBelow_34 (fun c20 => ?_) (fun c20 => ?_)
          · replace h := if_t c20 h
            refine g_iload_n (i := 2) hE d_R_isBelow_39 rfl rfl ?_
            refine g_bipush hE d_R_isBelow_40 kb_7 ?_
            refine g_icmp_ne hE d_R_isBelow_42 (fun c19 => ?_) (fun c19 => ?_)
            · replace h := if_f c19 h
              refine g_aload_n (i := 0) hE d_R_isBelow_47 rfl rfl ?_
              refine g_iload_n (i := 1) hE d_R_isBelow_48 rfl rfl ?_
              obtain ⟨x10, e11, h⟩ := bd_s h
              refine g_callV (av := [.inr (.inr (some o)), .inl v1]) (as := [.inl v1]) (stk := [.int x10]) [] hE (c_R_isClass (xl X) (xG X) e11) ky_R_isClass ⟨Nat.le_of_ble_eq_true rfl, Nat.le_of_ble_eq_true rfl⟩ rfl kc_R k1 m_427 m_428 m_429 rfl d_R_isBelow_49 rfl rfl ct_0 (Nat.zero_le _) (Nat.zero_le _) ?_
              refine gw.cs (c2 := 0) (s2 := 0) rfl rfl ?_
              refine g_if_eq hE d_R_isBelow_52 (fun c18 => ?_) (fun c18 => ?_)
              · replace h := if_t c18 h
                refine g_aload_n (i := 0) hE d_R_isBelow_89 rfl rfl ?_
                refine g_iload_n (i := 1) hE d_R_isBelow_90 rfl rfl ?_
                obtain ⟨x12, e13, h⟩ := bd_s h
                refine g_callV (av := [.inr (.inr (some o)), .inl v1]) (as := [.inl v1]) (stk := [.int x12]) [] hE (c_R_isFace (xl X) (xG X) e13) ky_R_isFace ⟨Nat.le_of_ble_eq_true rfl, Nat.le_of_ble_eq_true rfl⟩ rfl kc_R k1 m_430 m_431 m_432 rfl d_R_isBelow_91 rfl rfl ct_0 (Nat.zero_le _) (Nat.zero_le _) ?_
                refine gw.cs (c2 := 0) (s2 := 0) rfl rfl ?_
                refine g_if_eq hE d_R_isBelow_94 (fun c17 => ?_) (fun c17 => ?_)
                · replace h := if_t c17 h
                  refine g_iconst hE d_R_isBelow_105 ki_0 ?_
                  cases h
                  exact g_zret hE (Or.inl rfl) d_R_isBelow_106 rfl rfl
                · replace h := if_f c17 h
                  refine g_aload_n (i := 0) hE d_R_isBelow_97 rfl rfl ?_
                  refine g_iload_n (i := 2) hE d_R_isBelow_98 rfl rfl ?_
                  obtain ⟨x14, e15, h⟩ := bd_s h
                  refine g_callV (av := [.inr (.inr (some o)), .inl v2]) (as := [.inl v2]) (stk := [.int x14]) [] hE (c_R_isFace (xl X) (xG X) e15) ky_R_isFace ⟨Nat.le_of_ble_eq_true rfl, Nat.le_of_ble_eq_true rfl⟩ rfl kc_R k1 m_430 m_431 m_432 rfl d_R_isBelow_99 rfl rfl ct_0 (Nat.zero_le _) (Nat.zero_le _) ?_
                  refine gw.cs (c2 := 0) (s2 := 0) rfl rfl ?_
                  refine g_if_ne hE d_R_isBelow_102 (fun c16 => ?_) (fun c16 => ?_)
                  · replace h := if_f c16 h
                    refine g_iconst hE d_R_isBelow_107 ki_1 ?_
                    refine g_iload_n (i := 1) hE d_R_isBelow_108 rfl rfl ?_
                    refine g_bipush hE d_R_isBelow_109 kb_24 ?_
                    refine g_isub hE d_R_isBelow_111 ?_
                    refine g_ishl hE d_R_isBelow_112 ?_
                    refine g_istore_n (i := 3) (lv' := [some (va_rf (some o)), some (.int v1), some (.int v2), some (.int (1 <<< ((v1 - 24) &&& 31))), none, none]) hE d_R_isBelow_113 rfl (Nat.le_of_ble_eq_true rfl) ⟨rfl, Nat.le_of_ble_eq_true rfl⟩ (lvp_i rfl) ?_
                    refine g_iload_n (i := 1) hE d_R_isBelow_114 rfl rfl ?_
                    refine g_bipush hE d_R_isBelow_115 kb_24 ?_
                    refine g_isub hE d_R_isBelow_117 ?_
                    refine g_istore (i := 4) (lv' := [some (va_rf (some o)), some (.int v1), some (.int v2), some (.int (1 <<< ((v1 - 24) &&& 31))), some (.int (v1 - 24)), none]) hE d_R_isBelow_118 (Nat.le_of_ble_eq_true rfl) ⟨rfl, Nat.le_of_ble_eq_true rfl⟩ (lvp_i rfl) ?_
                    exact gw.less (lv' := [some (va_rf (some o)), none, some (.int v2), some (.int (1 <<< ((v1 - 24) &&& 31))), some (.int (v1 - 24)), none]) (And.intro rfl (And.intro rfl (And.intro rfl (And.intro rfl trivial)))) (w_R_isBelow_L120 hE (w_R_isBelow_J179 hE) fu v2 (1 <<< ((v1 - 24) &&& 31)) (v1 - 24) h)
                  · replace h := if_t c16 h
                    refine g_iconst hE d_R_isBelow_105 ki_0 ?_
                    cases h
                    exact g_zret hE (Or.inl rfl) d_R_isBelow_106 rfl rfl
              · replace h := if_f c18 h
                refine g_iload_n (i := 1) hE d_R_isBelow_55 rfl rfl ?_
                refine g_istore_n (i := 3) (lv' := [some (va_rf (some o)), some (.int v1), some (.int v2), some (.int v1), none, none]) hE d_R_isBelow_56 rfl (Nat.le_of_ble_eq_true rfl) ⟨rfl, Nat.le_of_ble_eq_true rfl⟩ (lvp_i rfl) ?_
                exact gw.less (lv' := [some (va_rf (some o)), none, some (.int v2), some (.int v1), none, none]) (And.intro rfl (And.intro rfl (And.intro rfl trivial))) (w_R_isBelow_L57 hE (w_R_isBelow_J78 hE) fu v2 v1 h)
            · replace h := if_t c19 h
              refine g_iconst hE d_R_isBelow_45 ki_1 ?_
              cases h
              exact g_zret hE (Or.inr rfl) d_R_isBelow_46 rfl rfl
          · replace h := if_f c20 h
            refine g_iconst hE d_R_isBelow_37 ki_0 ?_
            cases h
            exact g_zret hE (Or.inl rfl) d_R_isBelow_38 rfl rfl
  · replace h := if_t c24 h
    refine g_iconst hE d_R_isBelow_5 ki_1 ?_
    cases h
    exact g_zret hE (Or.inr rfl) d_R_isBelow_6 rfl rfl
