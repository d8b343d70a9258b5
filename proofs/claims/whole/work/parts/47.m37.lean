theorem d_R_cleaned_0 : dc b_R_cleaned 0 (.iconst 0) 1 1 := ⟨by decide +kernel, rfl⟩
theorem d_R_cleaned_1 : dc b_R_cleaned 1 (.istore_n 2) 1 2 := ⟨by decide +kernel, rfl⟩
theorem d_R_cleaned_2 : dc b_R_cleaned 2 (.iconst 0) 1 3 := ⟨by decide +kernel, rfl⟩
theorem d_R_cleaned_3 : dc b_R_cleaned 3 (.istore_n 3) 1 4 := ⟨by decide +kernel, rfl⟩
theorem d_R_cleaned_4 : dc b_R_cleaned 4 (.iload_n 3) 1 5 := ⟨by decide +kernel, rfl⟩
theorem d_R_cleaned_5 : dc b_R_cleaned 5 (.bipush 32) 2 7 := ⟨by decide +kernel, rfl⟩
theorem d_R_cleaned_7 : db b_R_cleaned 7 (.if_icmp .ge 47) 47 54 10 := ⟨by decide +kernel, by decide, rfl⟩
theorem d_R_cleaned_10 : dc b_R_cleaned 10 (.iload_n 1) 1 11 := ⟨by decide +kernel, rfl⟩
theorem d_R_cleaned_11 : dc b_R_cleaned 11 (.iload_n 3) 1 12 := ⟨by decide +kernel, rfl⟩
theorem d_R_cleaned_12 : dc b_R_cleaned 12 (.ishr) 1 13 := ⟨by decide +kernel, rfl⟩
theorem d_R_cleaned_13 : dc b_R_cleaned 13 (.sipush 255) 3 16 := ⟨by decide +kernel, rfl⟩
theorem d_R_cleaned_16 : dc b_R_cleaned 16 (.iand) 1 17 := ⟨by decide +kernel, rfl⟩
theorem d_R_cleaned_17 : db b_R_cleaned 17 (.ifCond .eq 37) 37 54 20 := ⟨by decide +kernel, by decide, rfl⟩
theorem d_R_cleaned_20 : dc b_R_cleaned 20 (.aload_n 0) 1 21 := ⟨by decide +kernel, rfl⟩
theorem d_R_cleaned_21 : dc b_R_cleaned 21 (.iload_n 1) 1 22 := ⟨by decide +kernel, rfl⟩
theorem d_R_cleaned_22 : dc b_R_cleaned 22 (.iload_n 3) 1 23 := ⟨by decide +kernel, rfl⟩
theorem d_R_cleaned_23 : dc b_R_cleaned 23 (.ishr) 1 24 := ⟨by decide +kernel, rfl⟩
theorem d_R_cleaned_24 : dc b_R_cleaned 24 (.sipush 255) 3 27 := ⟨by decide +kernel, rfl⟩
theorem d_R_cleaned_27 : dc b_R_cleaned 27 (.iand) 1 28 := ⟨by decide +kernel, rfl⟩
theorem d_R_cleaned_28 : dc b_R_cleaned 28 (.invokevirtual 164) 3 31 := ⟨by decide +kernel, rfl⟩
theorem d_R_cleaned_31 : db b_R_cleaned 31 (.ifCond .ne 5) 5 36 34 := ⟨by decide +kernel, by decide, rfl⟩
theorem d_R_cleaned_34 : dc b_R_cleaned 34 (.iconst 0) 1 35 := ⟨by decide +kernel, rfl⟩
theorem d_R_cleaned_35 : dc b_R_cleaned 35 (.ireturn) 1 36 := ⟨by decide +kernel, rfl⟩
theorem d_R_cleaned_36 : dc b_R_cleaned 36 (.iload_n 2) 1 37 := ⟨by decide +kernel, rfl⟩
theorem d_R_cleaned_37 : dc b_R_cleaned 37 (.iload_n 1) 1 38 := ⟨by decide +kernel, rfl⟩
theorem d_R_cleaned_38 : dc b_R_cleaned 38 (.iload_n 3) 1 39 := ⟨by decide +kernel, rfl⟩
theorem d_R_cleaned_39 : dc b_R_cleaned 39 (.ishr) 1 40 := ⟨by decide +kernel, rfl⟩
theorem d_R_cleaned_40 : dc b_R_cleaned 40 (.sipush 255) 3 43 := ⟨by decide +kernel, rfl⟩
theorem d_R_cleaned_43 : dc b_R_cleaned 43 (.iand) 1 44 := ⟨by decide +kernel, rfl⟩
theorem d_R_cleaned_44 : dc b_R_cleaned 44 (.iload_n 3) 1 45 := ⟨by decide +kernel, rfl⟩
theorem d_R_cleaned_45 : dc b_R_cleaned 45 (.ishl) 1 46 := ⟨by decide +kernel, rfl⟩
theorem d_R_cleaned_46 : dc b_R_cleaned 46 (.ior) 1 47 := ⟨by decide +kernel, rfl⟩
theorem d_R_cleaned_47 : dc b_R_cleaned 47 (.istore_n 2) 1 48 := ⟨by decide +kernel, rfl⟩
theorem d_R_cleaned_48 : dc b_R_cleaned 48 (.iinc 3 8) 3 51 := ⟨by decide +kernel, rfl⟩
theorem d_R_cleaned_51 : db b_R_cleaned 51 (.goto (-47)) (-47) 4 54 := ⟨by decide +kernel, by decide, rfl⟩
theorem d_R_cleaned_54 : dc b_R_cleaned 54 (.iload_n 2) 1 55 := ⟨by decide +kernel, rfl⟩
theorem d_R_cleaned_55 : dc b_R_cleaned 55 (.ireturn) 1 56 := ⟨by decide +kernel, rfl⟩
def f_R_cleaned_B4 (S : gS) (d : gD) (o : Nat) (kb : Int32 → Int32 → Int32 → Option (Int32)) (v1 : Int32) (v2 : Int32) (v3 : Int32) : Option (Int32) :=
  if 32 ≤ v3 then (
    some v2)
  else (
    if ((v1 >>> (v3 &&& 31)) &&& 255) = 0 then (
      some v2)
    else (
      kd S o 10 <|
      bd (f_R_isFace S d o ((v1 >>> (v3 &&& 31)) &&& 255)) fun x2 =>
      if x2 = 0 then (
        some 0)
      else (
        kb v1 (v2 ||| (((v1 >>> (v3 &&& 31)) &&& 255) <<< (v3 &&& 31))) (v3 + 8))))
set_option maxRecDepth 100000 in
set_option maxHeartbeats 4000000 in
theorem w_R_cleaned_B4 {X : GX} (hE : gE X b_R_cleaned 4 "StandInMillModel" (some (.int)) "cleaned" 1 21) {S : gS} {d : gD} {o : Nat} {r : Int32} {kb : Int32 → Int32 → Int32 → Option (Int32)} (hkb : ∀ (v1 : Int32) (v2 : Int32) (v3 : Int32), kb v1 v2 v3 = some r → gw X 0 0 (gQ X (some (.int r)) S d 0 0) S d 4 [some (va_rf (some o)), some (.int v1), some (.int v2), some (.int v3)] []) :
    ∀ (v1 : Int32) (v2 : Int32) (v3 : Int32), f_R_cleaned_B4 S d o kb v1 v2 v3 = some r → gw X 0 0 (gQ X (some (.int r)) S d 0 0) S d 4 [some (va_rf (some o)), some (.int v1), some (.int v2), some (.int v3)] [] := by
  intro v1 v2 v3 h
  unfold f_R_cleaned_B4 at h
  refine g_iload_n (i := 3) hE d_R_cleaned_4 rfl rfl ?_
  refine g_bipush hE d_R_cleaned_5 kb_32 ?_
  refine g_icmp_ge hE d_R_cleaned_7 (fun c6 => ?_) (fun c6 => ?_)
  · replace h := if_t c6 h
    refine g_iload_n (i := 2) hE d_R_cleaned_54 rfl rfl ?_
    cases h
    exact g_iret hE d_R_cleaned_55 rfl rfl
  · replace h := if_f c6 h
    refine g_iload_n (i := 1) hE d_R_cleaned_10 rfl rfl ?_
    refine g_iload_n (i := 3) hE d_R_cleaned_11 rfl rfl ?_
    refine g_ishr hE d_R_cleaned_12 ?_
    refine g_sipush hE d_R_cleaned_13 ks_255 ?_
    refine g_iand hE d_R_cleaned_16 ?_
    refine g_if_eq hE d_R_cleaned_17 (fun c5 => ?_) (fun c5 => ?_)
    · replace h := if_t c5 h
      refine g_iload_n (i := 2) hE d_R_cleaned_54 rfl rfl ?_
      cases h
      exact g_iret hE d_R_cleaned_55 rfl rfl
    · replace h := if_f c5 h
      refine g_aload_n (i := 0) hE d_R_cleaned_20 rfl rfl ?_
      refine g_iload_n (i := 1) hE d_R_cleaned_21 rfl rfl ?_
      refine g_iload_n (i := 3) hE d_R_cleaned_22 rfl rfl ?_
      refine g_ishr hE d_R_cleaned_23 ?_
      refine g_sipush hE d_R_cleaned_24 ks_255 ?_
      refine g_iand hE d_R_cleaned_27 ?_
      obtain ⟨k1, h⟩ := kd_s h
      obtain ⟨x2, e3, h⟩ := bd_s h
      refine g_callV (av := [.inr (.inr (some o)), .inl ((v1 >>> (v3 &&& 31)) &&& 255)]) (as := [.inl ((v1 >>> (v3 &&& 31)) &&& 255)]) (stk := [.int x2]) [] hE (c_R_isFace (xl X) (xG X) e3) ky_R_isFace ⟨Nat.le_of_ble_eq_true rfl, Nat.le_of_ble_eq_true rfl⟩ rfl kc_R k1 m_430 m_431 m_432 rfl d_R_cleaned_28 rfl rfl ct_0 (Nat.zero_le _) (Nat.zero_le _) ?_
      refine gw.cs (c2 := 0) (s2 := 0) rfl rfl ?_
      refine g_if_ne hE d_R_cleaned_31 (fun c4 => ?_) (fun c4 => ?_)
      · replace h := if_f c4 h
        refine g_iload_n (i := 2) hE d_R_cleaned_36 rfl rfl ?_
        refine g_iload_n (i := 1) hE d_R_cleaned_37 rfl rfl ?_
        refine g_iload_n (i := 3) hE d_R_cleaned_38 rfl rfl ?_
        refine g_ishr hE d_R_cleaned_39 ?_
        refine g_sipush hE d_R_cleaned_40 ks_255 ?_
        refine g_iand hE d_R_cleaned_43 ?_
        refine g_iload_n (i := 3) hE d_R_cleaned_44 rfl rfl ?_
        refine g_ishl hE d_R_cleaned_45 ?_
        refine g_ior hE d_R_cleaned_46 ?_
        refine g_istore_n (i := 2) (lv' := [some (va_rf (some o)), some (.int v1), some (.int (v2 ||| (((v1 >>> (v3 &&& 31)) &&& 255) <<< (v3 &&& 31)))), some (.int v3)]) hE d_R_cleaned_47 rfl (Nat.le_of_ble_eq_true rfl) ⟨rfl, Nat.le_of_ble_eq_true rfl⟩ (lvp_i rfl) ?_
        refine g_iinc (i := 3) (lv' := [some (va_rf (some o)), some (.int v1), some (.int (v2 ||| (((v1 >>> (v3 &&& 31)) &&& 255) <<< (v3 &&& 31)))), some (.int (v3 + 8))]) hE d_R_cleaned_48 ki_8 rfl (Nat.le_of_ble_eq_true rfl) ⟨rfl, Nat.le_of_ble_eq_true rfl⟩ (lvp_i rfl) ?_
        refine g_goto hE d_R_cleaned_51 ?_
        exact gw.less (lv' := [some (va_rf (some o)), some (.int v1), some (.int (v2 ||| (((v1 >>> (v3 &&& 31)) &&& 255) <<< (v3 &&& 31)))), some (.int (v3 + 8))]) (And.intro rfl (And.intro rfl (And.intro rfl (And.intro rfl trivial)))) (hkb v1 (v2 ||| (((v1 >>> (v3 &&& 31)) &&& 255) <<< (v3 &&& 31))) (v3 + 8) h)
      · replace h := if_t c4 h
        refine g_iconst hE d_R_cleaned_34 ki_0 ?_
        cases h
        exact g_iret hE d_R_cleaned_35 rfl rfl
theorem w_R_cleaned_L4 {X : GX} (hE : gE X b_R_cleaned 4 "StandInMillModel" (some (.int)) "cleaned" 1 21) {S : gS} {d : gD} {o : Nat} {r : Int32} : ∀ (n : Nat) (v1 : Int32) (v2 : Int32) (v3 : Int32), itr (f_R_cleaned_B4 S d o) (fun _ _ _ => none) n v1 v2 v3 = some r → gw X 0 0 (gQ X (some (.int r)) S d 0 0) S d 4 [some (va_rf (some o)), some (.int v1), some (.int v2), some (.int v3)] [] := by
  intro n
  induction n with
  | zero => intro v1 v2 v3 h; cases h
  | succ n ih => exact w_R_cleaned_B4 hE ih
set_option maxRecDepth 100000 in
def f_R_cleaned (S : gS) (d : gD) (o : Nat) (v1 : Int32) : Option (Int32) :=
  itr (f_R_cleaned_B4 S d o) (fun _ _ _ => none) fu v1 0 0
set_option maxRecDepth 100000 in
set_option maxHeartbeats 4000000 in
theorem c_R_cleaned (l : Launch) (G : gG) {S : gS} {d : gD} {o : Nat} {v1 : Int32} {r : Int32} (h : f_R_cleaned S d o v1 = some r) : GM l G y_R_cleaned b_R_cleaned 4 (some (.int)) 1 21 0 0 [.inr (.inr (some o)), .inl v1] S d (some (.int r)) S d := by
  refine GM.of (by decide) (Nat.le_of_ble_eq_true rfl) ?_
  intro X hl0 hG0 hR0 hE0
  have hE : gE X b_R_cleaned 4 "StandInMillModel" (some (.int)) "cleaned" 1 21 := hE0
  unfold f_R_cleaned at h
  refine gw.less (lv' := [some (va_rf (some o)), some (.int v1), none, none]) (And.intro rfl (And.intro rfl trivial)) ?_
  refine g_iconst hE d_R_cleaned_0 ki_0 ?_
  refine g_istore_n (i := 2) (lv' := [some (va_rf (some o)), some (.int v1), some (.int 0), none]) hE d_R_cleaned_1 rfl (Nat.le_of_ble_eq_true rfl) ⟨rfl, Nat.le_of_ble_eq_true rfl⟩ (lvp_i rfl) ?_
  refine g_iconst hE d_R_cleaned_2 ki_0 ?_
  refine g_istore_n (i := 3) (lv' := [some (va_rf (some o)), some (.int v1), some (.int 0), some (.int 0)]) hE d_R_cleaned_3 rfl (Nat.le_of_ble_eq_true rfl) ⟨rfl, Nat.le_of_ble_eq_true rfl⟩ (lvp_i rfl) ?_
  exact gw.less (lv' := [some (va_rf (some o)), some (.int v1), some (.int 0), some (.int 0)]) (And.intro rfl (And.intro rfl (And.intro rfl (And.intro rfl trivial)))) (w_R_cleaned_L4 hE fu v1 0 0 h)
