theorem d_Ty_dropBelow_0 : dc b_Ty_dropBelow 0 (.iconst 0) 1 1 := ⟨by decide +kernel, rfl⟩
theorem d_Ty_dropBelow_1 : dc b_Ty_dropBelow 1 (.istore_n 3) 1 2 := ⟨by decide +kernel, rfl⟩
theorem d_Ty_dropBelow_2 : dc b_Ty_dropBelow 2 (.iconst 0) 1 3 := ⟨by decide +kernel, rfl⟩
theorem d_Ty_dropBelow_3 : dc b_Ty_dropBelow 3 (.istore 4) 2 5 := ⟨by decide +kernel, rfl⟩
theorem d_Ty_dropBelow_5 : dc b_Ty_dropBelow 5 (.iload 4) 2 7 := ⟨by decide +kernel, rfl⟩
theorem d_Ty_dropBelow_7 : dc b_Ty_dropBelow 7 (.aload_n 1) 1 8 := ⟨by decide +kernel, rfl⟩
theorem d_Ty_dropBelow_8 : dc b_Ty_dropBelow 8 (.getfield 37) 3 11 := ⟨by decide +kernel, rfl⟩
theorem d_Ty_dropBelow_11 : db b_Ty_dropBelow 11 (.if_icmp .ge 40) 40 51 14 := ⟨by decide +kernel, by decide, rfl⟩
theorem d_Ty_dropBelow_14 : dc b_Ty_dropBelow 14 (.aload_n 0) 1 15 := ⟨by decide +kernel, rfl⟩
theorem d_Ty_dropBelow_15 : dc b_Ty_dropBelow 15 (.aload_n 1) 1 16 := ⟨by decide +kernel, rfl⟩
theorem d_Ty_dropBelow_16 : dc b_Ty_dropBelow 16 (.getfield 42) 3 19 := ⟨by decide +kernel, rfl⟩
theorem d_Ty_dropBelow_19 : dc b_Ty_dropBelow 19 (.iload 4) 2 21 := ⟨by decide +kernel, rfl⟩
theorem d_Ty_dropBelow_21 : dc b_Ty_dropBelow 21 (.iaload) 1 22 := ⟨by decide +kernel, rfl⟩
theorem d_Ty_dropBelow_22 : dc b_Ty_dropBelow 22 (.iload_n 2) 1 23 := ⟨by decide +kernel, rfl⟩
theorem d_Ty_dropBelow_23 : dc b_Ty_dropBelow 23 (.invokevirtual 27) 3 26 := ⟨by decide +kernel, rfl⟩
theorem d_Ty_dropBelow_26 : db b_Ty_dropBelow 26 (.ifCond .ne 19) 19 45 29 := ⟨by decide +kernel, by decide, rfl⟩
theorem d_Ty_dropBelow_29 : dc b_Ty_dropBelow 29 (.aload_n 1) 1 30 := ⟨by decide +kernel, rfl⟩
theorem d_Ty_dropBelow_30 : dc b_Ty_dropBelow 30 (.getfield 42) 3 33 := ⟨by decide +kernel, rfl⟩
theorem d_Ty_dropBelow_33 : dc b_Ty_dropBelow 33 (.iload_n 3) 1 34 := ⟨by decide +kernel, rfl⟩
theorem d_Ty_dropBelow_34 : dc b_Ty_dropBelow 34 (.aload_n 1) 1 35 := ⟨by decide +kernel, rfl⟩
theorem d_Ty_dropBelow_35 : dc b_Ty_dropBelow 35 (.getfield 42) 3 38 := ⟨by decide +kernel, rfl⟩
theorem d_Ty_dropBelow_38 : dc b_Ty_dropBelow 38 (.iload 4) 2 40 := ⟨by decide +kernel, rfl⟩
theorem d_Ty_dropBelow_40 : dc b_Ty_dropBelow 40 (.iaload) 1 41 := ⟨by decide +kernel, rfl⟩
theorem d_Ty_dropBelow_41 : dc b_Ty_dropBelow 41 (.iastore) 1 42 := ⟨by decide +kernel, rfl⟩
theorem d_Ty_dropBelow_42 : dc b_Ty_dropBelow 42 (.iinc 3 1) 3 45 := ⟨by decide +kernel, rfl⟩
theorem d_Ty_dropBelow_45 : dc b_Ty_dropBelow 45 (.iinc 4 1) 3 48 := ⟨by decide +kernel, rfl⟩
theorem d_Ty_dropBelow_48 : db b_Ty_dropBelow 48 (.goto (-43)) (-43) 5 51 := ⟨by decide +kernel, by decide, rfl⟩
theorem d_Ty_dropBelow_51 : dc b_Ty_dropBelow 51 (.aload_n 1) 1 52 := ⟨by decide +kernel, rfl⟩
theorem d_Ty_dropBelow_52 : dc b_Ty_dropBelow 52 (.iload_n 3) 1 53 := ⟨by decide +kernel, rfl⟩
theorem d_Ty_dropBelow_53 : dc b_Ty_dropBelow 53 (.putfield 37) 3 56 := ⟨by decide +kernel, rfl⟩
theorem d_Ty_dropBelow_56 : dc b_Ty_dropBelow 56 (.return_) 1 57 := ⟨by decide +kernel, rfl⟩
def f_Ty_dropBelow_J45 (S : gS) (o : Nat) (kx51 : gD → Option Nat → Int32 → Option (Unit × gD)) (kb : gD → Option Nat → Int32 → Int32 → Int32 → Option (Unit × gD)) (d : gD) (v1 : Option Nat) (v2 : Int32) (v3 : Int32) (v4 : Int32) : Option (Unit × gD) :=
  kb d v1 v2 v3 (v4 + 1)
set_option maxRecDepth 100000 in
set_option maxHeartbeats 4000000 in
theorem w_Ty_dropBelow_J45 {X : GX} (hE : gE X b_Ty_dropBelow 5 "StandInMill$Types" none "dropBelow" 2 43) {S : gS} {o : Nat} {r : Unit} {d' : gD} {kb : gD → Option Nat → Int32 → Int32 → Int32 → Option (Unit × gD)} {kx51 : gD → Option Nat → Int32 → Option (Unit × gD)} (hkb : ∀ (d : gD) (v1 : Option Nat) (v2 : Int32) (v3 : Int32) (v4 : Int32), kb d v1 v2 v3 v4 = some (r, d') → gw X 0 0 (gQ X (none) S d' 0 0) S d 5 [some (va_rf (some o)), some (va_rf v1), some (.int v2), some (.int v3), some (.int v4)] []) (hkx51 : ∀ (d : gD) (v1 : Option Nat) (v3 : Int32), kx51 d v1 v3 = some (r, d') → gw X 0 0 (gQ X (none) S d' 0 0) S d 51 [some (va_rf (some o)), some (va_rf v1), none, some (.int v3), none] []) :
    ∀ (d : gD) (v1 : Option Nat) (v2 : Int32) (v3 : Int32) (v4 : Int32), f_Ty_dropBelow_J45 S o kx51 kb d v1 v2 v3 v4 = some (r, d') → gw X 0 0 (gQ X (none) S d' 0 0) S d 45 [some (va_rf (some o)), some (va_rf v1), some (.int v2), some (.int v3), some (.int v4)] [] := by
  intro d v1 v2 v3 v4 h
  unfold f_Ty_dropBelow_J45 at h
  refine g_iinc (i := 4) (lv' := [some (va_rf (some o)), some (va_rf v1), some (.int v2), some (.int v3), some (.int (v4 + 1))]) hE d_Ty_dropBelow_45 ki_1 rfl (Nat.le_of_ble_eq_true rfl) ⟨rfl, Nat.le_of_ble_eq_true rfl⟩ (lvp_i rfl) ?_
  refine g_goto hE d_Ty_dropBelow_48 ?_
  exact gw.less (lv' := [some (va_rf (some o)), some (va_rf v1), some (.int v2), some (.int v3), some (.int (v4 + 1))]) (And.intro rfl (And.intro rfl (And.intro rfl (And.intro rfl (And.intro rfl trivial))))) (hkb d v1 v2 v3 (v4 + 1) h)
def f_Ty_dropBelow_B5 (S : gS) (o : Nat) (kx51 : gD → Option Nat → Int32 → Option (Unit × gD)) (kb : gD → Option Nat → Int32 → Int32 → Int32 → Option (Unit × gD)) (d : gD) (v1 : Option Nat) (v2 : Int32) (v3 : Int32) (v4 : Int32) : Option (Unit × gD) :=
  nn v1 fun a1 =>
  kd S a1 2 <|
  lt_ (dI d a1 1) fun x3 =>
  if x3 ≤ v4 then (
    kx51 d (some a1) v3)
  else (
    lt_ (sP S a1 0) fun x4 =>
    nn x4 fun a5 =>
    kd S a5 50 <|
    gi v4 (sN S a5) <|
    lt_ (dI d a5 v4.toNatClampNeg) fun x8 =>
    kd S o 8 <|
    bd (f_Ty_isBelow S d o x8 v2) fun x10 =>
    if x10 = 0 then (
      lt_ (sP S a1 0) fun x12 =>
      lt_ (sP S a1 0) fun x13 =>
      nn x13 fun a14 =>
      kd S a14 50 <|
      gi v4 (sN S a14) <|
      lt_ (dI d a14 v4.toNatClampNeg) fun x17 =>
      nn x12 fun a18 =>
      kd S a18 50 <|
      gi v3 (sN S a18) <|
      lt_ (wI d a18 v3.toNatClampNeg x17) fun d21 =>
      f_Ty_dropBelow_J45 S o kx51 kb d21 (some a1) v2 (v3 + 1) v4)
    else (
      f_Ty_dropBelow_J45 S o kx51 kb d (some a1) v2 v3 v4))
set_option maxRecDepth 100000 in
set_option maxHeartbeats 4000000 in
theorem w_Ty_dropBelow_B5 {X : GX} (hE : gE X b_Ty_dropBelow 5 "StandInMill$Types" none "dropBelow" 2 43) {S : gS} {o : Nat} {r : Unit} {d' : gD} {kb : gD → Option Nat → Int32 → Int32 → Int32 → Option (Unit × gD)} {kx51 : gD → Option Nat → Int32 → Option (Unit × gD)} (hkb : ∀ (d : gD) (v1 : Option Nat) (v2 : Int32) (v3 : Int32) (v4 : Int32), kb d v1 v2 v3 v4 = some (r, d') → gw X 0 0 (gQ X (none) S d' 0 0) S d 5 [some (va_rf (some o)), some (va_rf v1), some (.int v2), some (.int v3), some (.int v4)] []) (hkx51 : ∀ (d : gD) (v1 : Option Nat) (v3 : Int32), kx51 d v1 v3 = some (r, d') → gw X 0 0 (gQ X (none) S d' 0 0) S d 51 [some (va_rf (some o)), some (va_rf v1), none, some (.int v3), none] []) :
    ∀ (d : gD) (v1 : Option Nat) (v2 : Int32) (v3 : Int32) (v4 : Int32), f_Ty_dropBelow_B5 S o kx51 kb d v1 v2 v3 v4 = some (r, d') → gw X 0 0 (gQ X (none) S d' 0 0) S d 5 [some (va_rf (some o)), some (va_rf v1), some (.int v2), some (.int v3), some (.int v4)] [] := by
  intro d v1 v2 v3 v4 h
  unfold f_Ty_dropBelow_B5 at h
  refine g_iload (i := 4) hE d_Ty_dropBelow_5 rfl ?_
  refine g_aload_n (i := 1) hE d_Ty_dropBelow_7 rfl rfl ?_
  obtain ⟨a1, rfl, h⟩ := nn_s h
  obtain ⟨k2, h⟩ := kd_s h
  refine g_getIN 1 hE kc_Rw k2 (Nat.le_of_ble_eq_true rfl) rfl nf_16 d_Ty_dropBelow_8 (fun x3 e => ?_)
  replace h := lt_i e h; clear e
  refine g_icmp_ge hE d_Ty_dropBelow_11 (fun c23 => ?_) (fun c23 => ?_)
  · replace h := if_t c23 h
    exact gw.less (lv' := [some (va_rf (some o)), some (va_rf (some a1)), none, some (.int v3), none]) (And.intro rfl (And.intro rfl (And.intro rfl trivial))) (hkx51 d (some a1) v3 h)
  · replace h := if_f c23 h
    refine g_aload_n (i := 0) hE d_Ty_dropBelow_14 rfl rfl ?_
    refine g_aload_n (i := 1) hE d_Ty_dropBelow_15 rfl rfl ?_
    refine g_getRN 0 hE kc_Rw k2 (Nat.le_of_ble_eq_true rfl) rfl nf_17 d_Ty_dropBelow_16 (fun x4 e => ?_)
    replace h := lt_i e h; clear e
    refine g_iload (i := 4) hE d_Ty_dropBelow_19 rfl ?_
    obtain ⟨a5, rfl, h⟩ := nn_s h
    obtain ⟨k6, h⟩ := kd_s h
    obtain ⟨g7, h⟩ := gi_s h
    refine g_iald hE k6 g7 d_Ty_dropBelow_21 (fun x8 e => ?_)
    replace h := lt_i e h; clear e
    refine g_iload_n (i := 2) hE d_Ty_dropBelow_22 rfl rfl ?_
    obtain ⟨k9, h⟩ := kd_s h
    obtain ⟨x10, e11, h⟩ := bd_s h
    refine g_callV (av := [.inr (.inr (some o)), .inl x8, .inl v2]) (as := [.inl x8, .inl v2]) (stk := [.int x10]) [] hE (c_Ty_isBelow (xl X) (xG X) e11) ky_Ty_isBelow ⟨Nat.le_of_ble_eq_true rfl, Nat.le_of_ble_eq_true rfl⟩ rfl kc_Ty k9 m_108 m_109 m_110 rfl d_Ty_dropBelow_23 rfl rfl ct_0 (Nat.zero_le _) (Nat.zero_le _) ?_
    refine gw.cs (c2 := 0) (s2 := 0) rfl rfl ?_
    refine g_if_ne hE d_Ty_dropBelow_26 (fun c22 => ?_) (fun c22 => ?_)
    · replace h := if_f c22 h
      exact gw.less (lv' := [some (va_rf (some o)), some (va_rf (some a1)), some (.int v2), some (.int v3), some (.int v4)]) (And.intro rfl (And.intro rfl (And.intro rfl (And.intro rfl (And.intro rfl trivial))))) (w_Ty_dropBelow_J45 hE hkb hkx51 d (some a1) v2 v3 v4 h)
    · replace h := if_t c22 h
      refine g_aload_n (i := 1) hE d_Ty_dropBelow_29 rfl rfl ?_
      refine g_getRN 0 hE kc_Rw k2 (Nat.le_of_ble_eq_true rfl) rfl nf_17 d_Ty_dropBelow_30 (fun x12 e => ?_)
      replace h := lt_i e h; clear e
      refine g_iload_n (i := 3) hE d_Ty_dropBelow_33 rfl rfl ?_
      refine g_aload_n (i := 1) hE d_Ty_dropBelow_34 rfl rfl ?_
      refine g_getRN 0 hE kc_Rw k2 (Nat.le_of_ble_eq_true rfl) rfl nf_17 d_Ty_dropBelow_35 (fun x13 e => ?_)
      replace h := lt_i e h; clear e
      refine g_iload (i := 4) hE d_Ty_dropBelow_38 rfl ?_
      obtain ⟨a14, rfl, h⟩ := nn_s h
      obtain ⟨k15, h⟩ := kd_s h
      obtain ⟨g16, h⟩ := gi_s h
      refine g_iald hE k15 g16 d_Ty_dropBelow_40 (fun x17 e => ?_)
      replace h := lt_i e h; clear e
      obtain ⟨a18, rfl, h⟩ := nn_s h
      obtain ⟨k19, h⟩ := kd_s h
      obtain ⟨g20, h⟩ := gi_s h
      refine g_iast hE k19 g20 d_Ty_dropBelow_41 (fun d21 e => ?_)
      replace h := lt_i e h; clear e
      refine g_iinc (i := 3) (lv' := [some (va_rf (some o)), some (va_rf (some a1)), some (.int v2), some (.int (v3 + 1)), some (.int v4)]) hE d_Ty_dropBelow_42 ki_1 rfl (Nat.le_of_ble_eq_true rfl) ⟨rfl, Nat.le_of_ble_eq_true rfl⟩ (lvp_i rfl) ?_
      exact gw.less (lv' := [some (va_rf (some o)), some (va_rf (some a1)), some (.int v2), some (.int (v3 + 1)), some (.int v4)]) (And.intro rfl (And.intro rfl (And.intro rfl (And.intro rfl (And.intro rfl trivial))))) (w_Ty_dropBelow_J45 hE hkb hkx51 d21 (some a1) v2 (v3 + 1) v4 h)
theorem w_Ty_dropBelow_L5 {X : GX} (hE : gE X b_Ty_dropBelow 5 "StandInMill$Types" none "dropBelow" 2 43) {S : gS} {o : Nat} {r : Unit} {d' : gD} {kx51 : gD → Option Nat → Int32 → Option (Unit × gD)} (hkx51 : ∀ (d : gD) (v1 : Option Nat) (v3 : Int32), kx51 d v1 v3 = some (r, d') → gw X 0 0 (gQ X (none) S d' 0 0) S d 51 [some (va_rf (some o)), some (va_rf v1), none, some (.int v3), none] []) : ∀ (n : Nat) (d : gD) (v1 : Option Nat) (v2 : Int32) (v3 : Int32) (v4 : Int32), itr (f_Ty_dropBelow_B5 S o kx51) (fun _ _ _ _ _ => none) n d v1 v2 v3 v4 = some (r, d') → gw X 0 0 (gQ X (none) S d' 0 0) S d 5 [some (va_rf (some o)), some (va_rf v1), some (.int v2), some (.int v3), some (.int v4)] [] := by
  intro n
  induction n with
  | zero => intro d v1 v2 v3 v4 h; cases h
  | succ n ih => exact w_Ty_dropBelow_B5 hE ih hkx51
def f_Ty_dropBelow_J51 (S : gS) (o : Nat) (d : gD) (v1 : Option Nat) (v3 : Int32) : Option (Unit × gD) :=
  nn v1 fun a1 =>
  kd S a1 2 <|
  lt_ (wI d a1 1 v3) fun d3 =>
  some ((), d3)
set_option maxRecDepth 100000 in
set_option maxHeartbeats 4000000 in
theorem w_Ty_dropBelow_J51 {X : GX} (hE : gE X b_Ty_dropBelow 5 "StandInMill$Types" none "dropBelow" 2 43) {S : gS} {o : Nat} {r : Unit} {d' : gD} :
    ∀ (d : gD) (v1 : Option Nat) (v3 : Int32), f_Ty_dropBelow_J51 S o d v1 v3 = some (r, d') → gw X 0 0 (gQ X (none) S d' 0 0) S d 51 [some (va_rf (some o)), some (va_rf v1), none, some (.int v3), none] [] := by
  intro d v1 v3 h
  unfold f_Ty_dropBelow_J51 at h
  refine g_aload_n (i := 1) hE d_Ty_dropBelow_51 rfl rfl ?_
  refine g_iload_n (i := 3) hE d_Ty_dropBelow_52 rfl rfl ?_
  obtain ⟨a1, rfl, h⟩ := nn_s h
  obtain ⟨k2, h⟩ := kd_s h
  refine g_putIN 1 hE kc_Rw k2 (Nat.le_of_ble_eq_true rfl) rfl nf_16 rfl (by decide +kernel) d_Ty_dropBelow_53 (fun d3 e => ?_)
  replace h := lt_i e h; clear e
  cases h
  exact g_vret hE d_Ty_dropBelow_56 rfl rfl
set_option maxRecDepth 100000 in
def f_Ty_dropBelow (S : gS) (d : gD) (o : Nat) (v1 : Option Nat) (v2 : Int32) : Option (Unit × gD) :=
  itr (f_Ty_dropBelow_B5 S o (f_Ty_dropBelow_J51 S o)) (fun _ _ _ _ _ => none) fu d v1 v2 0 0
set_option maxRecDepth 100000 in
set_option maxHeartbeats 4000000 in
theorem c_Ty_dropBelow (l : Launch) (G : gG) {S : gS} {d : gD} {o : Nat} {v1 : Option Nat} {v2 : Int32} {r : Unit} {d' : gD} (h : f_Ty_dropBelow S d o v1 v2 = some (r, d')) : GM l G y_Ty_dropBelow b_Ty_dropBelow 5 none 2 43 0 0 [.inr (.inr (some o)), .inr (.inr v1), .inl v2] S d (none) S d' := by
  refine GM.of (by decide) (Nat.le_of_ble_eq_true rfl) ?_
  intro X hl0 hG0 hR0 hE0
  have hE : gE X b_Ty_dropBelow 5 "StandInMill$Types" none "dropBelow" 2 43 := hE0
  unfold f_Ty_dropBelow at h
  refine gw.less (lv' := [some (va_rf (some o)), some (va_rf v1), some (.int v2), none, none]) (And.intro rfl (And.intro rfl (And.intro rfl trivial))) ?_
  refine g_iconst hE d_Ty_dropBelow_0 ki_0 ?_
  refine g_istore_n (i := 3) (lv' := [some (va_rf (some o)), some (va_rf v1), some (.int v2), some (.int 0), none]) hE d_Ty_dropBelow_1 rfl (Nat.le_of_ble_eq_true rfl) ⟨rfl, Nat.le_of_ble_eq_true rfl⟩ (lvp_i rfl) ?_
  refine g_iconst hE d_Ty_dropBelow_2 ki_0 ?_
  refine g_istore (i := 4) (lv' := [some (va_rf (some o)), some (va_rf v1), some (.int v2), some (.int 0), some (.int 0)]) hE d_Ty_dropBelow_3 (Nat.le_of_ble_eq_true rfl) ⟨rfl, Nat.le_of_ble_eq_true rfl⟩ (lvp_i rfl) ?_
  exact gw.less (lv' := [some (va_rf (some o)), some (va_rf v1), some (.int v2), some (.int 0), some (.int 0)]) (And.intro rfl (And.intro rfl (And.intro rfl (And.intro rfl (And.intro rfl trivial))))) (w_Ty_dropBelow_L5 hE (w_Ty_dropBelow_J51 hE) fu d v1 v2 0 0 h)
theorem d_Dr_fillCaught_0 : dc b_Dr_fillCaught 0 (.aload_n 1) 1 1 := ⟨by decide +kernel, rfl⟩
theorem d_Dr_fillCaught_1 : dc b_Dr_fillCaught 1 (.getfield 96) 3 4 := ⟨by decide +kernel, rfl⟩
theorem d_Dr_fillCaught_4 : dc b_Dr_fillCaught 4 (.astore_n 2) 1 5 := ⟨by decide +kernel, rfl⟩
theorem d_Dr_fillCaught_5 : dc b_Dr_fillCaught 5 (.aload_n 2) 1 6 := ⟨by decide +kernel, rfl⟩
theorem d_Dr_fillCaught_6 : dc b_Dr_fillCaught 6 (.invokevirtual 63) 3 9 := ⟨by decide +kernel, rfl⟩
theorem d_Dr_fillCaught_9 : dc b_Dr_fillCaught 9 (.aload_n 1) 1 10 := ⟨by decide +kernel, rfl⟩
theorem d_Dr_fillCaught_10 : dc b_Dr_fillCaught 10 (.getfield 47) 3 13 := ⟨by decide +kernel, rfl⟩
theorem d_Dr_fillCaught_13 : dc b_Dr_fillCaught 13 (.bipush 8) 2 15 := ⟨by decide +kernel, rfl⟩
theorem d_Dr_fillCaught_15 : dc b_Dr_fillCaught 15 (.invokevirtual 99) 3 18 := ⟨by decide +kernel, rfl⟩
theorem d_Dr_fillCaught_18 : db b_Dr_fillCaught 18 (.ifCond .eq 4) 4 22 21 := ⟨by decide +kernel, by decide, rfl⟩
theorem d_Dr_fillCaught_21 : dc b_Dr_fillCaught 21 (.return_) 1 22 := ⟨by decide +kernel, rfl⟩
theorem d_Dr_fillCaught_22 : dc b_Dr_fillCaught 22 (.aload_n 2) 1 23 := ⟨by decide +kernel, rfl⟩
theorem d_Dr_fillCaught_23 : dc b_Dr_fillCaught 23 (.bipush 9) 2 25 := ⟨by decide +kernel, rfl⟩
theorem d_Dr_fillCaught_25 : dc b_Dr_fillCaught 25 (.invokevirtual 102) 3 28 := ⟨by decide +kernel, rfl⟩
theorem d_Dr_fillCaught_28 : dc b_Dr_fillCaught 28 (.aload_n 2) 1 29 := ⟨by decide +kernel, rfl⟩
theorem d_Dr_fillCaught_29 : dc b_Dr_fillCaught 29 (.bipush 10) 2 31 := ⟨by decide +kernel, rfl⟩
theorem d_Dr_fillCaught_31 : dc b_Dr_fillCaught 31 (.invokevirtual 102) 3 34 := ⟨by decide +kernel, rfl⟩
theorem d_Dr_fillCaught_34 : dc b_Dr_fillCaught 34 (.iconst 0) 1 35 := ⟨by decide +kernel, rfl⟩
theorem d_Dr_fillCaught_35 : dc b_Dr_fillCaught 35 (.istore_n 3) 1 36 := ⟨by decide +kernel, rfl⟩
theorem d_Dr_fillCaught_36 : dc b_Dr_fillCaught 36 (.iload_n 3) 1 37 := ⟨by decide +kernel, rfl⟩
theorem d_Dr_fillCaught_37 : dc b_Dr_fillCaught 37 (.aload_n 1) 1 38 := ⟨by decide +kernel, rfl⟩
theorem d_Dr_fillCaught_38 : dc b_Dr_fillCaught 38 (.getfield 47) 3 41 := ⟨by decide +kernel, rfl⟩
theorem d_Dr_fillCaught_41 : dc b_Dr_fillCaught 41 (.getfield 105) 3 44 := ⟨by decide +kernel, rfl⟩
theorem d_Dr_fillCaught_44 : db b_Dr_fillCaught 44 (.if_icmp .ge 62) 62 106 47 := ⟨by decide +kernel, by decide, rfl⟩
theorem d_Dr_fillCaught_47 : dc b_Dr_fillCaught 47 (.aload_n 1) 1 48 := ⟨by decide +kernel, rfl⟩
theorem d_Dr_fillCaught_48 : dc b_Dr_fillCaught 48 (.getfield 47) 3 51 := ⟨by decide +kernel, rfl⟩
theorem d_Dr_fillCaught_51 : dc b_Dr_fillCaught 51 (.iload_n 3) 1 52 := ⟨by decide +kernel, rfl⟩
theorem d_Dr_fillCaught_52 : dc b_Dr_fillCaught 52 (.invokevirtual 106) 3 55 := ⟨by decide +kernel, rfl⟩
theorem d_Dr_fillCaught_55 : dc b_Dr_fillCaught 55 (.istore 4) 2 57 := ⟨by decide +kernel, rfl⟩
theorem d_Dr_fillCaught_57 : dc b_Dr_fillCaught 57 (.aload_n 0) 1 58 := ⟨by decide +kernel, rfl⟩
theorem d_Dr_fillCaught_58 : dc b_Dr_fillCaught 58 (.getfield 26) 3 61 := ⟨by decide +kernel, rfl⟩
theorem d_Dr_fillCaught_61 : dc b_Dr_fillCaught 61 (.iload 4) 2 63 := ⟨by decide +kernel, rfl⟩
theorem d_Dr_fillCaught_63 : dc b_Dr_fillCaught 63 (.bipush 8) 2 65 := ⟨by decide +kernel, rfl⟩
theorem d_Dr_fillCaught_65 : dc b_Dr_fillCaught 65 (.invokevirtual 89) 3 68 := ⟨by decide +kernel, rfl⟩
theorem d_Dr_fillCaught_68 : db b_Dr_fillCaught 68 (.ifCond .eq 32) 32 100 71 := ⟨by decide +kernel, by decide, rfl⟩
theorem d_Dr_fillCaught_71 : dc b_Dr_fillCaught 71 (.aload_n 0) 1 72 := ⟨by decide +kernel, rfl⟩
theorem d_Dr_fillCaught_72 : dc b_Dr_fillCaught 72 (.getfield 26) 3 75 := ⟨by decide +kernel, rfl⟩
theorem d_Dr_fillCaught_75 : dc b_Dr_fillCaught 75 (.iload 4) 2 77 := ⟨by decide +kernel, rfl⟩
theorem d_Dr_fillCaught_77 : dc b_Dr_fillCaught 77 (.aload_n 2) 1 78 := ⟨by decide +kernel, rfl⟩
theorem d_Dr_fillCaught_78 : dc b_Dr_fillCaught 78 (.invokevirtual 109) 3 81 := ⟨by decide +kernel, rfl⟩
theorem d_Dr_fillCaught_81 : db b_Dr_fillCaught 81 (.ifCond .ne 19) 19 100 84 := ⟨by decide +kernel, by decide, rfl⟩
theorem d_Dr_fillCaught_84 : dc b_Dr_fillCaught 84 (.aload_n 0) 1 85 := ⟨by decide +kernel, rfl⟩
theorem d_Dr_fillCaught_85 : dc b_Dr_fillCaught 85 (.getfield 26) 3 88 := ⟨by decide +kernel, rfl⟩
theorem d_Dr_fillCaught_88 : dc b_Dr_fillCaught 88 (.aload_n 2) 1 89 := ⟨by decide +kernel, rfl⟩
theorem d_Dr_fillCaught_89 : dc b_Dr_fillCaught 89 (.iload 4) 2 91 := ⟨by decide +kernel, rfl⟩
theorem d_Dr_fillCaught_91 : dc b_Dr_fillCaught 91 (.invokevirtual 113) 3 94 := ⟨by decide +kernel, rfl⟩
theorem d_Dr_fillCaught_94 : dc b_Dr_fillCaught 94 (.aload_n 2) 1 95 := ⟨by decide +kernel, rfl⟩
theorem d_Dr_fillCaught_95 : dc b_Dr_fillCaught 95 (.iload 4) 2 97 := ⟨by decide +kernel, rfl⟩
theorem d_Dr_fillCaught_97 : dc b_Dr_fillCaught 97 (.invokevirtual 102) 3 100 := ⟨by decide +kernel, rfl⟩
theorem d_Dr_fillCaught_100 : dc b_Dr_fillCaught 100 (.iinc 3 1) 3 103 := ⟨by decide +kernel, rfl⟩
theorem d_Dr_fillCaught_103 : db b_Dr_fillCaught 103 (.goto (-67)) (-67) 36 106 := ⟨by decide +kernel, by decide, rfl⟩
theorem d_Dr_fillCaught_106 : dc b_Dr_fillCaught 106 (.return_) 1 107 := ⟨by decide +kernel, rfl⟩
def f_Dr_fillCaught_J100 (S : gS) (o : Nat) (kb : gD → Option Nat → Option Nat → Int32 → Option (Unit × gD)) (d : gD) (v1 : Option Nat) (v2 : Option Nat) (v3 : Int32) : Option (Unit × gD) :=
  kb d v1 v2 (v3 + 1)
set_option maxRecDepth 100000 in
set_option maxHeartbeats 4000000 in
theorem w_Dr_fillCaught_J100 {X : GX} (hE : gE X b_Dr_fillCaught 5 "StandInMill$Draft" none "fillCaught" 3 67) {S : gS} {o : Nat} {r : Unit} {d' : gD} {kb : gD → Option Nat → Option Nat → Int32 → Option (Unit × gD)} (hkb : ∀ (d : gD) (v1 : Option Nat) (v2 : Option Nat) (v3 : Int32), kb d v1 v2 v3 = some (r, d') → gw X 0 0 (gQ X (none) S d' 0 0) S d 36 [some (va_rf (some o)), some (va_rf v1), some (va_rf v2), some (.int v3), none] []) :
    ∀ (d : gD) (v1 : Option Nat) (v2 : Option Nat) (v3 : Int32), f_Dr_fillCaught_J100 S o kb d v1 v2 v3 = some (r, d') → gw X 0 0 (gQ X (none) S d' 0 0) S d 100 [some (va_rf (some o)), some (va_rf v1), some (va_rf v2), some (.int v3), none] [] := by
  intro d v1 v2 v3 h
  unfold f_Dr_fillCaught_J100 at h
  refine g_iinc (i := 3) (lv' := [some (va_rf (some o)), some (va_rf v1), some (va_rf v2), some (.int (v3 + 1)), none]) hE d_Dr_fillCaught_100 ki_1 rfl (Nat.le_of_ble_eq_true rfl) ⟨rfl, Nat.le_of_ble_eq_true rfl⟩ (lvp_r rfl) ?_
  refine g_goto hE d_Dr_fillCaught_103 ?_
  exact gw.less (lv' := [some (va_rf (some o)), some (va_rf v1), some (va_rf v2), some (.int (v3 + 1)), none]) (And.intro rfl (And.intro rfl (And.intro rfl (And.intro rfl trivial)))) (hkb d v1 v2 (v3 + 1) h)
def f_Dr_fillCaught_B36 (S : gS) (o : Nat) (kb : gD → Option Nat → Option Nat → Int32 → Option (Unit × gD)) (d : gD) (v1 : Option Nat) (v2 : Option Nat) (v3 : Int32) : Option (Unit × gD) :=
  nn v1 fun a1 =>
  kd S a1 7 <|
  lt_ (sP S a1 1) fun x3 =>
  nn x3 fun a4 =>
  kd S a4 2 <|
  lt_ (dI d a4 1) fun x6 =>
  if x6 ≤ v3 then (
    some ((), d))
  else (
    lt_ (sP S a1 1) fun x7 =>
    nn x7 fun a8 =>
    kd S a8 2 <|
    bd (f_Rw_at S d a8 v3) fun x10 =>
    kd S o 3 <|
    lt_ (sP S o 0) fun x13 =>
    nn x13 fun a14 =>
    kd S a14 8 <|
    bd (f_Ty_isBelow S d a14 x10 8) fun x16 =>
    if x16 = 0 then (
      f_Dr_fillCaught_J100 S o kb d (some a1) v2 v3)
    else (
      lt_ (sP S o 0) fun x18 =>
      nn x18 fun a19 =>
      kd S a19 8 <|
      bd (f_Ty_isBelowOneOf S d a19 x10 v2) fun x21 =>
      if x21 = 0 then (
        lt_ (sP S o 0) fun x23 =>
        nn x23 fun a24 =>
        kd S a24 8 <|
        bdD (f_Ty_dropBelow S d a24 v2 x10) fun _ d28 =>
        nn v2 fun a29 =>
        kd S a29 2 <|
        bdD (f_Rw_add S d28 a29 x10) fun _ d33 =>
        f_Dr_fillCaught_J100 S o kb d33 (some a1) (some a29) v3)
      else (
        f_Dr_fillCaught_J100 S o kb d (some a1) v2 v3)))
set_option maxRecDepth 100000 in
set_option maxHeartbeats 4000000 in
theorem w_Dr_fillCaught_B36 {X : GX} (hE : gE X b_Dr_fillCaught 5 "StandInMill$Draft" none "fillCaught" 3 67) {S : gS} {o : Nat} {r : Unit} {d' : gD} {kb : gD → Option Nat → Option Nat → Int32 → Option (Unit × gD)} (hkb : ∀ (d : gD) (v1 : Option Nat) (v2 : Option Nat) (v3 : Int32), kb d v1 v2 v3 = some (r, d') → gw X 0 0 (gQ X (none) S d' 0 0) S d 36 [some (va_rf (some o)), some (va_rf v1), some (va_rf v2), some (.int v3), none] []) :
    ∀ (d : gD) (v1 : Option Nat) (v2 : Option Nat) (v3 : Int32), f_Dr_fillCaught_B36 S o kb d v1 v2 v3 = some (r, d') → gw X 0 0 (gQ X (none) S d' 0 0) S d 36 [some (va_rf (some o)), some (va_rf v1), some (va_rf v2), some (.int v3), none] [] := by
  intro d v1 v2 v3 h
  unfold f_Dr_fillCaught_B36 at h
  refine g_iload_n (i := 3) hE d_Dr_fillCaught_36 rfl rfl ?_
  refine g_aload_n (i := 1) hE d_Dr_fillCaught_37 rfl rfl ?_
  obtain ⟨a1, rfl, h⟩ := nn_s h
  obtain ⟨k2, h⟩ := kd_s h
  refine g_getRN 1 hE kc_Sm k2 (Nat.le_of_ble_eq_true rfl) rfl nf_19 d_Dr_fillCaught_38 (fun x3 e => ?_)
  replace h := lt_i e h; clear e
  obtain ⟨a4, rfl, h⟩ := nn_s h
  obtain ⟨k5, h⟩ := kd_s h
  refine g_getIN 1 hE kc_Rw k5 (Nat.le_of_ble_eq_true rfl) rfl nf_27 d_Dr_fillCaught_41 (fun x6 e => ?_)
  replace h := lt_i e h; clear e
  refine g_icmp_ge hE d_Dr_fillCaught_44 (fun c36 => ?_) (fun c36 => ?_)
  · replace h := if_t c36 h
    cases h
    exact g_vret hE d_Dr_fillCaught_106 rfl rfl
  · replace h := if_f c36 h
    refine g_aload_n (i := 1) hE d_Dr_fillCaught_47 rfl rfl ?_
    refine g_getRN 1 hE kc_Sm k2 (Nat.le_of_ble_eq_true rfl) rfl nf_19 d_Dr_fillCaught_48 (fun x7 e => ?_)
    replace h := lt_i e h; clear e
    refine g_iload_n (i := 3) hE d_Dr_fillCaught_51 rfl rfl ?_
    obtain ⟨a8, rfl, h⟩ := nn_s h
    obtain ⟨k9, h⟩ := kd_s h
    obtain ⟨x10, e11, h⟩ := bd_s h
    refine g_callV (av := [.inr (.inr (some a8)), .inl v3]) (as := [.inl v3]) (stk := [.int x10]) [] hE (c_Rw_at (xl X) (xG X) e11) ky_Rw_at ⟨Nat.le_of_ble_eq_true rfl, Nat.le_of_ble_eq_true rfl⟩ rfl kc_Rw k9 m_253 m_254 m_255 rfl d_Dr_fillCaught_52 rfl rfl ct_0 (Nat.zero_le _) (Nat.zero_le _) ?_
    refine gw.cs (c2 := 0) (s2 := 0) rfl rfl ?_
    refine g_istore (i := 4) (lv' := [some (va_rf (some o)), some (va_rf (some a1)), some (va_rf v2), some (.int v3), some (.int x10)]) hE d_Dr_fillCaught_55 (Nat.le_of_ble_eq_true rfl) ⟨rfl, Nat.le_of_ble_eq_true rfl⟩ (lvp_i rfl) ?_
    refine g_aload_n (i := 0) hE d_Dr_fillCaught_57 rfl rfl ?_
    obtain ⟨k12, h⟩ := kd_s h
    refine g_getR 0 hE kc_Dr k12 (Nat.le_of_ble_eq_true rfl) rfl m_20 d_Dr_fillCaught_58 (fun x13 e => ?_)
    replace h := lt_i e h; clear e
    refine g_iload (i := 4) hE d_Dr_fillCaught_61 rfl ?_
    refine g_bipush hE d_Dr_fillCaught_63 kb_8 ?_
    obtain ⟨a14, rfl, h⟩ := nn_s h
    obtain ⟨k15, h⟩ := kd_s h
    obtain ⟨x16, e17, h⟩ := bd_s h
    refine g_callV (av := [.inr (.inr (some a14)), .inl x10, .inl 8]) (as := [.inl x10, .inl 8]) (stk := [.int x16]) [] hE (c_Ty_isBelow (xl X) (xG X) e17) ky_Ty_isBelow ⟨Nat.le_of_ble_eq_true rfl, Nat.le_of_ble_eq_true rfl⟩ rfl kc_Ty k15 m_230 m_109 m_110 rfl d_Dr_fillCaught_65 rfl rfl ct_0 (Nat.zero_le _) (Nat.zero_le _) ?_
    refine gw.cs (c2 := 0) (s2 := 0) rfl rfl ?_
    refine g_if_eq hE d_Dr_fillCaught_68 (fun c35 => ?_) (fun c35 => ?_)
    · replace h := if_t c35 h
      exact gw.less (lv' := [some (va_rf (some o)), some (va_rf (some a1)), some (va_rf v2), some (.int v3), none]) (And.intro rfl (And.intro rfl (And.intro rfl (And.intro rfl trivial)))) (w_Dr_fillCaught_J100 hE hkb d (some a1) v2 v3 h)
    · replace h := if_f c35 h
      refine g_aload_n (i := 0) hE d_Dr_fillCaught_71 rfl rfl ?_
      refine g_getR 0 hE kc_Dr k12 (Nat.le_of_ble_eq_true rfl) rfl m_20 d_Dr_fillCaught_72 (fun x18 e => ?_)
      replace h := lt_i e h; clear e
      refine g_iload (i := 4) hE d_Dr_fillCaught_75 rfl ?_
      refine g_aload_n (i := 2) hE d_Dr_fillCaught_77 rfl rfl ?_
      obtain ⟨a19, rfl, h⟩ := nn_s h
      obtain ⟨k20, h⟩ := kd_s h
      obtain ⟨x21, e22, h⟩ := bd_s h
      refine g_callV (av := [.inr (.inr (some a19)), .inl x10, .inr (.inr v2)]) (as := [.inl x10, .inr (.inr v2)]) (stk := [.int x21]) [] hE (c_Ty_isBelowOneOf (xl X) (xG X) e22) ky_Ty_isBelowOneOf ⟨Nat.le_of_ble_eq_true rfl, Nat.le_of_ble_eq_true rfl⟩ rfl kc_Ty k20 m_256 m_194 m_195 rfl d_Dr_fillCaught_78 rfl rfl ct_0 (Nat.zero_le _) (Nat.zero_le _) ?_
      refine gw.cs (c2 := 0) (s2 := 0) rfl rfl ?_
      refine g_if_ne hE d_Dr_fillCaught_81 (fun c34 => ?_) (fun c34 => ?_)
      · replace h := if_f c34 h
        exact gw.less (lv' := [some (va_rf (some o)), some (va_rf (some a1)), some (va_rf v2), some (.int v3), none]) (And.intro rfl (And.intro rfl (And.intro rfl (And.intro rfl trivial)))) (w_Dr_fillCaught_J100 hE hkb d (some a1) v2 v3 h)
      · replace h := if_t c34 h
        refine g_aload_n (i := 0) hE d_Dr_fillCaught_84 rfl rfl ?_
        refine g_getR 0 hE kc_Dr k12 (Nat.le_of_ble_eq_true rfl) rfl m_20 d_Dr_fillCaught_85 (fun x23 e => ?_)
        replace h := lt_i e h; clear e
        refine g_aload_n (i := 2) hE d_Dr_fillCaught_88 rfl rfl ?_
        refine g_iload (i := 4) hE d_Dr_fillCaught_89 rfl ?_
        obtain ⟨a24, rfl, h⟩ := nn_s h
        obtain ⟨k25, h⟩ := kd_s h
        obtain ⟨x26, d28, e27, h⟩ := bdD_s h
        refine g_callV (av := [.inr (.inr (some a24)), .inr (.inr v2), .inl x10]) (as := [.inr (.inr v2), .inl x10]) (stk := []) [] hE (c_Ty_dropBelow (xl X) (xG X) e27) ky_Ty_dropBelow ⟨Nat.le_of_ble_eq_true rfl, Nat.le_of_ble_eq_true rfl⟩ rfl kc_Ty k25 m_257 m_258 m_259 rfl d_Dr_fillCaught_91 rfl rfl ct_0 (Nat.zero_le _) (Nat.zero_le _) ?_
        refine gw.cs (c2 := 0) (s2 := 0) rfl rfl ?_
        refine g_aload_n (i := 2) hE d_Dr_fillCaught_94 rfl rfl ?_
        refine g_iload (i := 4) hE d_Dr_fillCaught_95 rfl ?_
        obtain ⟨a29, rfl, h⟩ := nn_s h
        obtain ⟨k30, h⟩ := kd_s h
        obtain ⟨x31, d33, e32, h⟩ := bdD_s h
        refine g_callV (av := [.inr (.inr (some a29)), .inl x10]) (as := [.inl x10]) (stk := []) [] hE (c_Rw_add (xl X) (xG X) e32) ky_Rw_add ⟨Nat.le_of_ble_eq_true rfl, Nat.le_of_ble_eq_true rfl⟩ rfl kc_Rw k30 m_252 m_158 m_159 rfl d_Dr_fillCaught_97 rfl rfl ct_0 (Nat.zero_le _) (Nat.zero_le _) ?_
        refine gw.cs (c2 := 0) (s2 := 0) rfl rfl ?_
        exact gw.less (lv' := [some (va_rf (some o)), some (va_rf (some a1)), some (va_rf (some a29)), some (.int v3), none]) (And.intro rfl (And.intro rfl (And.intro rfl (And.intro rfl trivial)))) (w_Dr_fillCaught_J100 hE hkb d33 (some a1) (some a29) v3 h)
theorem w_Dr_fillCaught_L36 {X : GX} (hE : gE X b_Dr_fillCaught 5 "StandInMill$Draft" none "fillCaught" 3 67) {S : gS} {o : Nat} {r : Unit} {d' : gD} : ∀ (n : Nat) (d : gD) (v1 : Option Nat) (v2 : Option Nat) (v3 : Int32), itr (f_Dr_fillCaught_B36 S o) (fun _ _ _ _ => none) n d v1 v2 v3 = some (r, d') → gw X 0 0 (gQ X (none) S d' 0 0) S d 36 [some (va_rf (some o)), some (va_rf v1), some (va_rf v2), some (.int v3), none] [] := by
  intro n
  induction n with
  | zero => intro d v1 v2 v3 h; cases h
  | succ n ih => exact w_Dr_fillCaught_B36 hE ih
set_option maxRecDepth 100000 in
def f_Dr_fillCaught (S : gS) (d : gD) (o : Nat) (v1 : Option Nat) : Option (Unit × gD) :=
  nn v1 fun a1 =>
  kd S a1 7 <|
  lt_ (sP S a1 2) fun x3 =>
  nn x3 fun a4 =>
  kd S a4 2 <|
  bdD (f_Rw_clear S d a4) fun _ d8 =>
  lt_ (sP S a1 1) fun x9 =>
  nn x9 fun a10 =>
  kd S a10 2 <|
  bd (f_Rw_has S d8 a10 8) fun x12 =>
  if x12 = 0 then (
    bdD (f_Rw_add S d8 a4 9) fun _ d16 =>
    bdD (f_Rw_add S d16 a4 10) fun _ d19 =>
    itr (f_Dr_fillCaught_B36 S o) (fun _ _ _ _ => none) fu d19 (some a1) (some a4) 0)
  else (
    some ((), d8))
set_option maxRecDepth 100000 in
set_option maxHeartbeats 4000000 in
theorem c_Dr_fillCaught (l : Launch) (G : gG) {S : gS} {d : gD} {o : Nat} {v1 : Option Nat} {r : Unit} {d' : gD} (h : f_Dr_fillCaught S d o v1 = some (r, d')) : GM l G y_Dr_fillCaught b_Dr_fillCaught 5 none 3 67 0 0 [.inr (.inr (some o)), .inr (.inr v1)] S d (none) S d' := by
  refine GM.of (by decide) (Nat.le_of_ble_eq_true rfl) ?_
  intro X hl0 hG0 hR0 hE0
  have hE : gE X b_Dr_fillCaught 5 "StandInMill$Draft" none "fillCaught" 3 67 := hE0
  unfold f_Dr_fillCaught at h
  refine gw.less (lv' := [some (va_rf (some o)), some (va_rf v1), none, none, none]) (And.intro rfl (And.intro rfl trivial)) ?_
  refine g_aload_n (i := 1) hE d_Dr_fillCaught_0 rfl rfl ?_
  obtain ⟨a1, rfl, h⟩ := nn_s h
  obtain ⟨k2, h⟩ := kd_s h
  refine g_getRN 2 hE kc_Sm k2 (Nat.le_of_ble_eq_true rfl) rfl nf_26 d_Dr_fillCaught_1 (fun x3 e => ?_)
  replace h := lt_i e h; clear e
  refine g_astore_n (i := 2) (lv' := [some (va_rf (some o)), some (va_rf (some a1)), some (va_rf x3), none, none]) hE d_Dr_fillCaught_4 rfl (Nat.le_of_ble_eq_true rfl) ⟨rfl, Nat.le_of_ble_eq_true rfl⟩ (lvp_r rfl) ?_
  refine g_aload_n (i := 2) hE d_Dr_fillCaught_5 rfl rfl ?_
  obtain ⟨a4, rfl, h⟩ := nn_s h
  obtain ⟨k5, h⟩ := kd_s h
  obtain ⟨x6, d8, e7, h⟩ := bdD_s h
  refine g_callV (av := [.inr (.inr (some a4))]) (as := []) (stk := []) [] hE (c_Rw_clear (xl X) (xG X) e7) ky_Rw_clear ⟨Nat.le_of_ble_eq_true rfl, Nat.le_of_ble_eq_true rfl⟩ rfl kc_Rw k5 m_200 m_190 m_191 rfl d_Dr_fillCaught_6 rfl rfl ct_0 (Nat.zero_le _) (Nat.zero_le _) ?_
  refine gw.cs (c2 := 0) (s2 := 0) rfl rfl ?_
  refine g_aload_n (i := 1) hE d_Dr_fillCaught_9 rfl rfl ?_
  refine g_getRN 1 hE kc_Sm k2 (Nat.le_of_ble_eq_true rfl) rfl nf_19 d_Dr_fillCaught_10 (fun x9 e => ?_)
  replace h := lt_i e h; clear e
  refine g_bipush hE d_Dr_fillCaught_13 kb_8 ?_
  obtain ⟨a10, rfl, h⟩ := nn_s h
  obtain ⟨k11, h⟩ := kd_s h
  obtain ⟨x12, e13, h⟩ := bd_s h
  refine g_callV (av := [.inr (.inr (some a10)), .inl 8]) (as := [.inl 8]) (stk := [.int x12]) [] hE (c_Rw_has (xl X) (xG X) e13) ky_Rw_has ⟨Nat.le_of_ble_eq_true rfl, Nat.le_of_ble_eq_true rfl⟩ rfl kc_Rw k11 m_251 m_153 m_154 rfl d_Dr_fillCaught_15 rfl rfl ct_0 (Nat.zero_le _) (Nat.zero_le _) ?_
  refine gw.cs (c2 := 0) (s2 := 0) rfl rfl ?_
  refine g_if_eq hE d_Dr_fillCaught_18 (fun c20 => ?_) (fun c20 => ?_)
  · replace h := if_t c20 h
    refine g_aload_n (i := 2) hE d_Dr_fillCaught_22 rfl rfl ?_
    refine g_bipush hE d_Dr_fillCaught_23 kb_9 ?_
    obtain ⟨x14, d16, e15, h⟩ := bdD_s h
    refine g_callV (av := [.inr (.inr (some a4)), .inl 9]) (as := [.inl 9]) (stk := []) [] hE (c_Rw_add (xl X) (xG X) e15) ky_Rw_add ⟨Nat.le_of_ble_eq_true rfl, Nat.le_of_ble_eq_true rfl⟩ rfl kc_Rw k5 m_252 m_158 m_159 rfl d_Dr_fillCaught_25 rfl rfl ct_0 (Nat.zero_le _) (Nat.zero_le _) ?_
    refine gw.cs (c2 := 0) (s2 := 0) rfl rfl ?_
    refine g_aload_n (i := 2) hE d_Dr_fillCaught_28 rfl rfl ?_
    refine g_bipush hE d_Dr_fillCaught_29 kb_10 ?_
    obtain ⟨x17, d19, e18, h⟩ := bdD_s h
    refine g_callV (av := [.inr (.inr (some a4)), .inl 10]) (as := [.inl 10]) (stk := []) [] hE (c_Rw_add (xl X) (xG X) e18) ky_Rw_add ⟨Nat.le_of_ble_eq_true rfl, Nat.le_of_ble_eq_true rfl⟩ rfl kc_Rw k5 m_252 m_158 m_159 rfl d_Dr_fillCaught_31 rfl rfl ct_0 (Nat.zero_le _) (Nat.zero_le _) ?_
    refine gw.cs (c2 := 0) (s2 := 0) rfl rfl ?_
    refine g_iconst hE d_Dr_fillCaught_34 ki_0 ?_
    refine g_istore_n (i := 3) (lv' := [some (va_rf (some o)), some (va_rf (some a1)), some (va_rf (some a4)), some (.int 0), none]) hE d_Dr_fillCaught_35 rfl (Nat.le_of_ble_eq_true rfl) ⟨rfl, Nat.le_of_ble_eq_true rfl⟩ (lvp_r rfl) ?_
    exact gw.less (lv' := [some (va_rf (some o)), some (va_rf (some a1)), some (va_rf (some a4)), some (.int 0), none]) (And.intro rfl (And.intro rfl (And.intro rfl (And.intro rfl trivial)))) (w_Dr_fillCaught_L36 hE fu d19 (some a1) (some a4) 0 h)
  · replace h := if_f c20 h
    cases h
    exact g_vret hE d_Dr_fillCaught_21 rfl rfl
theorem d_Dr_handOver_0 : dc b_Dr_handOver 0 (.iconst 0) 1 1 := ⟨by decide +kernel, rfl⟩
theorem d_Dr_handOver_1 : dc b_Dr_handOver 1 (.istore_n 2) 1 2 := ⟨by decide +kernel, rfl⟩
theorem d_Dr_handOver_2 : dc b_Dr_handOver 2 (.iload_n 2) 1 3 := ⟨by decide +kernel, rfl⟩
theorem d_Dr_handOver_3 : dc b_Dr_handOver 3 (.aload_n 0) 1 4 := ⟨by decide +kernel, rfl⟩
theorem d_Dr_handOver_4 : dc b_Dr_handOver 4 (.getfield 30) 3 7 := ⟨by decide +kernel, rfl⟩
theorem d_Dr_handOver_7 : db b_Dr_handOver 7 (.if_icmp .ge 41) 41 48 10 := ⟨by decide +kernel, by decide, rfl⟩
theorem d_Dr_handOver_10 : dc b_Dr_handOver 10 (.iload_n 2) 1 11 := ⟨by decide +kernel, rfl⟩
theorem d_Dr_handOver_11 : dc b_Dr_handOver 11 (.aload_n 1) 1 12 := ⟨by decide +kernel, rfl⟩
theorem d_Dr_handOver_12 : dc b_Dr_handOver 12 (.arraylength) 1 13 := ⟨by decide +kernel, rfl⟩
theorem d_Dr_handOver_13 : db b_Dr_handOver 13 (.if_icmp .ge 35) 35 48 16 := ⟨by decide +kernel, by decide, rfl⟩
theorem d_Dr_handOver_16 : dc b_Dr_handOver 16 (.aload_n 0) 1 17 := ⟨by decide +kernel, rfl⟩
theorem d_Dr_handOver_17 : dc b_Dr_handOver 17 (.aload_n 0) 1 18 := ⟨by decide +kernel, rfl⟩
theorem d_Dr_handOver_18 : dc b_Dr_handOver 18 (.getfield 11) 3 21 := ⟨by decide +kernel, rfl⟩
theorem d_Dr_handOver_21 : dc b_Dr_handOver 21 (.iload_n 2) 1 22 := ⟨by decide +kernel, rfl⟩
theorem d_Dr_handOver_22 : dc b_Dr_handOver 22 (.aaload) 1 23 := ⟨by decide +kernel, rfl⟩
theorem d_Dr_handOver_23 : dc b_Dr_handOver 23 (.invokevirtual 92) 3 26 := ⟨by decide +kernel, rfl⟩
theorem d_Dr_handOver_26 : dc b_Dr_handOver 26 (.aload_n 1) 1 27 := ⟨by decide +kernel, rfl⟩
theorem d_Dr_handOver_27 : dc b_Dr_handOver 27 (.iload_n 2) 1 28 := ⟨by decide +kernel, rfl⟩
theorem d_Dr_handOver_28 : dc b_Dr_handOver 28 (.aload_n 0) 1 29 := ⟨by decide +kernel, rfl⟩
theorem d_Dr_handOver_29 : dc b_Dr_handOver 29 (.getfield 11) 3 32 := ⟨by decide +kernel, rfl⟩
theorem d_Dr_handOver_32 : dc b_Dr_handOver 32 (.iload_n 2) 1 33 := ⟨by decide +kernel, rfl⟩
theorem d_Dr_handOver_33 : dc b_Dr_handOver 33 (.aaload) 1 34 := ⟨by decide +kernel, rfl⟩
theorem d_Dr_handOver_34 : dc b_Dr_handOver 34 (.aastore) 1 35 := ⟨by decide +kernel, rfl⟩
theorem d_Dr_handOver_35 : dc b_Dr_handOver 35 (.aload_n 0) 1 36 := ⟨by decide +kernel, rfl⟩
theorem d_Dr_handOver_36 : dc b_Dr_handOver 36 (.getfield 11) 3 39 := ⟨by decide +kernel, rfl⟩
theorem d_Dr_handOver_39 : dc b_Dr_handOver 39 (.iload_n 2) 1 40 := ⟨by decide +kernel, rfl⟩
theorem d_Dr_handOver_40 : dc b_Dr_handOver 40 (.aconst_null) 1 41 := ⟨by decide +kernel, rfl⟩
theorem d_Dr_handOver_41 : dc b_Dr_handOver 41 (.aastore) 1 42 := ⟨by decide +kernel, rfl⟩
theorem d_Dr_handOver_42 : dc b_Dr_handOver 42 (.iinc 2 1) 3 45 := ⟨by decide +kernel, rfl⟩
theorem d_Dr_handOver_45 : db b_Dr_handOver 45 (.goto (-43)) (-43) 2 48 := ⟨by decide +kernel, by decide, rfl⟩
theorem d_Dr_handOver_48 : dc b_Dr_handOver 48 (.aload_n 0) 1 49 := ⟨by decide +kernel, rfl⟩
theorem d_Dr_handOver_49 : dc b_Dr_handOver 49 (.iconst 0) 1 50 := ⟨by decide +kernel, rfl⟩
theorem d_Dr_handOver_50 : dc b_Dr_handOver 50 (.putfield 30) 3 53 := ⟨by decide +kernel, rfl⟩
theorem d_Dr_handOver_53 : dc b_Dr_handOver 53 (.return_) 1 54 := ⟨by decide +kernel, rfl⟩
def f_Dr_handOver_B2 (o : Nat) (kx48 : gS → gD → Option (Unit × gS × gD)) (kb : gS → gD → Option Nat → Int32 → Option (Unit × gS × gD)) (S : gS) (d : gD) (v1 : Option Nat) (v2 : Int32) : Option (Unit × gS × gD) :=
  kd S o 3 <|
  lt_ (dI d o 2) fun x2 =>
  if x2 ≤ v2 then (
    kx48 S d)
  else (
    nn v1 fun a3 =>
    kd S a3 63 <|
    if (Int32.ofNat (sN S a3)) ≤ v2 then (
      kx48 S d)
    else (
      lt_ (sP S o 1) fun x5 =>
      nn x5 fun a6 =>
      kd S a6 63 <|
      gi v2 (sN S a6) <|
      lt_ (sP S a6 v2.toNatClampNeg) fun x9 =>
      bdD (f_Dr_fillCaught S d o x9) fun _ d12 =>
      lt_ (sP S o 1) fun x13 =>
      nn x13 fun a14 =>
      kd S a14 63 <|
      gi v2 (sN S a14) <|
      lt_ (sP S a14 v2.toNatClampNeg) fun x17 =>
      gi v2 (sN S a3) <|
      nn x17 fun a20 =>
      kd S a20 7 <|
      lt_ (wP S a3 v2.toNatClampNeg (some a20)) fun S19 =>
      lt_ (sP S19 o 1) fun x22 =>
      nn x22 fun a23 =>
      kd S19 a23 63 <|
      gi v2 (sN S19 a23) <|
      lt_ (wP S19 a23 v2.toNatClampNeg none) fun S26 =>
      kb S26 d12 (some a3) (v2 + 1)))
set_option maxRecDepth 100000 in
set_option maxHeartbeats 4000000 in
theorem w_Dr_handOver_B2 {X : GX} (hE : gE X b_Dr_handOver 3 "StandInMill$Draft" none "handOver" 4 91) {o : Nat} {r : Unit} {S' : gS} {d' : gD} {kb : gS → gD → Option Nat → Int32 → Option (Unit × gS × gD)} {kx48 : gS → gD → Option (Unit × gS × gD)} (hkb : ∀ (S : gS) (d : gD) (v1 : Option Nat) (v2 : Int32), kb S d v1 v2 = some (r, S', d') → gw X 0 0 (gQ X (none) S' d' 0 0) S d 2 [some (va_rf (some o)), some (va_rf v1), some (.int v2)] []) (hkx48 : ∀ (S : gS) (d : gD), kx48 S d = some (r, S', d') → gw X 0 0 (gQ X (none) S' d' 0 0) S d 48 [some (va_rf (some o)), none, none] []) :
    ∀ (S : gS) (d : gD) (v1 : Option Nat) (v2 : Int32), f_Dr_handOver_B2 o kx48 kb S d v1 v2 = some (r, S', d') → gw X 0 0 (gQ X (none) S' d' 0 0) S d 2 [some (va_rf (some o)), some (va_rf v1), some (.int v2)] [] := by
  intro S d v1 v2 h
  unfold f_Dr_handOver_B2 at h
  refine g_iload_n (i := 2) hE d_Dr_handOver_2 rfl rfl ?_
  refine g_aload_n (i := 0) hE d_Dr_handOver_3 rfl rfl ?_
  obtain ⟨k1, h⟩ := kd_s h
  refine g_getI 2 hE kc_Dr k1 (Nat.le_of_ble_eq_true rfl) rfl m_188 d_Dr_handOver_4 (fun x2 e => ?_)
  replace h := lt_i e h; clear e
  refine g_icmp_ge hE d_Dr_handOver_7 (fun c28 => ?_) (fun c28 => ?_)
  · replace h := if_t c28 h
    exact gw.less (lv' := [some (va_rf (some o)), none, none]) (And.intro rfl trivial) (hkx48 S d h)
  · replace h := if_f c28 h
    refine g_iload_n (i := 2) hE d_Dr_handOver_10 rfl rfl ?_
    refine g_aload_n (i := 1) hE d_Dr_handOver_11 rfl rfl ?_
    obtain ⟨a3, rfl, h⟩ := nn_s h
    obtain ⟨k4, h⟩ := kd_s h
    refine g_alen hE k4 (by decide) d_Dr_handOver_12 ?_
    refine g_icmp_ge hE d_Dr_handOver_13 (fun c27 => ?_) (fun c27 => ?_)
    · replace h := if_t c27 h
      exact gw.less (lv' := [some (va_rf (some o)), none, none]) (And.intro rfl trivial) (hkx48 S d h)
    · replace h := if_f c27 h
      refine g_aload_n (i := 0) hE d_Dr_handOver_16 rfl rfl ?_
      refine g_aload_n (i := 0) hE d_Dr_handOver_17 rfl rfl ?_
      refine g_getR 1 hE kc_Dr k1 (Nat.le_of_ble_eq_true rfl) rfl m_13 d_Dr_handOver_18 (fun x5 e => ?_)
      replace h := lt_i e h; clear e
      refine g_iload_n (i := 2) hE d_Dr_handOver_21 rfl rfl ?_
      obtain ⟨a6, rfl, h⟩ := nn_s h
      obtain ⟨k7, h⟩ := kd_s h
      obtain ⟨g8, h⟩ := gi_s h
      refine g_aald hE k7 (by decide) rfl (fun _ => rfl) g8 d_Dr_handOver_22 (fun x9 e => ?_)
      replace h := lt_i e h; clear e
      obtain ⟨x10, d12, e11, h⟩ := bdD_s h
      refine g_callV (av := [.inr (.inr (some o)), .inr (.inr x9)]) (as := [.inr (.inr x9)]) (stk := []) [] hE (c_Dr_fillCaught (xl X) (xG X) e11) ky_Dr_fillCaught ⟨Nat.le_of_ble_eq_true rfl, Nat.le_of_ble_eq_true rfl⟩ rfl kc_Dr k1 m_260 m_261 m_262 rfl d_Dr_handOver_23 rfl rfl ct_0 (Nat.zero_le _) (Nat.zero_le _) ?_
      refine gw.cs (c2 := 0) (s2 := 0) rfl rfl ?_
      refine g_aload_n (i := 1) hE d_Dr_handOver_26 rfl rfl ?_
      refine g_iload_n (i := 2) hE d_Dr_handOver_27 rfl rfl ?_
      refine g_aload_n (i := 0) hE d_Dr_handOver_28 rfl rfl ?_
      refine g_getR 1 hE kc_Dr k1 (Nat.le_of_ble_eq_true rfl) rfl m_13 d_Dr_handOver_29 (fun x13 e => ?_)
      replace h := lt_i e h; clear e
      refine g_iload_n (i := 2) hE d_Dr_handOver_32 rfl rfl ?_
      obtain ⟨a14, rfl, h⟩ := nn_s h
      obtain ⟨k15, h⟩ := kd_s h
      obtain ⟨g16, h⟩ := gi_s h
      refine g_aald hE k15 (by decide) rfl (fun _ => rfl) g16 d_Dr_handOver_33 (fun x17 e => ?_)
      replace h := lt_i e h; clear e
      obtain ⟨g18, h⟩ := gi_s h
      obtain ⟨a20, rfl, h⟩ := nn_s h
      obtain ⟨k21, h⟩ := kd_s h
      refine g_aast hE k4 (by decide) (fun _ => rfl) rfl kc_Sm k21 g18 d_Dr_handOver_34 (fun S19 e => ?_)
      replace k1 : sK S19 o = 3 := by rw [← e]; exact k1
      replace k4 : sK S19 a3 = 63 := by rw [← e]; exact k4
      replace k7 : sK S19 a6 = 63 := by rw [← e]; exact k7
      replace k15 : sK S19 a14 = 63 := by rw [← e]; exact k15
      replace k21 : sK S19 a20 = 7 := by rw [← e]; exact k21
      replace h := lt_i e h; clear e
      refine g_aload_n (i := 0) hE d_Dr_handOver_35 rfl rfl ?_
      refine g_getR 1 hE kc_Dr k1 (Nat.le_of_ble_eq_true rfl) rfl m_13 d_Dr_handOver_36 (fun x22 e => ?_)
      replace h := lt_i e h; clear e
      refine g_iload_n (i := 2) hE d_Dr_handOver_39 rfl rfl ?_
      refine g_null hE d_Dr_handOver_40 ?_
      obtain ⟨a23, rfl, h⟩ := nn_s h
      obtain ⟨k24, h⟩ := kd_s h
      obtain ⟨g25, h⟩ := gi_s h
      refine g_aastN hE k24 (by decide) (fun _ => rfl) rfl g25 d_Dr_handOver_41 (fun S26 e => ?_)
      replace k1 : sK S26 o = 3 := by rw [← e]; exact k1
      replace k4 : sK S26 a3 = 63 := by rw [← e]; exact k4
      replace k7 : sK S26 a6 = 63 := by rw [← e]; exact k7
      replace k15 : sK S26 a14 = 63 := by rw [← e]; exact k15
      replace k21 : sK S26 a20 = 7 := by rw [← e]; exact k21
      replace k24 : sK S26 a23 = 63 := by rw [← e]; exact k24
      replace h := lt_i e h; clear e
      refine g_iinc (i := 2) (lv' := [some (va_rf (some o)), some (va_rf (some a3)), some (.int (v2 + 1))]) hE d_Dr_handOver_42 ki_1 rfl (Nat.le_of_ble_eq_true rfl) ⟨rfl, Nat.le_of_ble_eq_true rfl⟩ (lvp_r rfl) ?_
      refine g_goto hE d_Dr_handOver_45 ?_
      exact gw.less (lv' := [some (va_rf (some o)), some (va_rf (some a3)), some (.int (v2 + 1))]) (And.intro rfl (And.intro rfl (And.intro rfl trivial))) (hkb S26 d12 (some a3) (v2 + 1) h)
theorem w_Dr_handOver_L2 {X : GX} (hE : gE X b_Dr_handOver 3 "StandInMill$Draft" none "handOver" 4 91) {o : Nat} {r : Unit} {S' : gS} {d' : gD} {kx48 : gS → gD → Option (Unit × gS × gD)} (hkx48 : ∀ (S : gS) (d : gD), kx48 S d = some (r, S', d') → gw X 0 0 (gQ X (none) S' d' 0 0) S d 48 [some (va_rf (some o)), none, none] []) : ∀ (n : Nat) (S : gS) (d : gD) (v1 : Option Nat) (v2 : Int32), itr (f_Dr_handOver_B2 o kx48) (fun _ _ _ _ => none) n S d v1 v2 = some (r, S', d') → gw X 0 0 (gQ X (none) S' d' 0 0) S d 2 [some (va_rf (some o)), some (va_rf v1), some (.int v2)] [] := by
  intro n
  induction n with
  | zero => intro S d v1 v2 h; cases h
  | succ n ih => exact w_Dr_handOver_B2 hE ih hkx48
def f_Dr_handOver_J48 (o : Nat) (S : gS) (d : gD) : Option (Unit × gS × gD) :=
  kd S o 3 <|
  lt_ (wI d o 2 0) fun d2 =>
  some ((), S, d2)
set_option maxRecDepth 100000 in
set_option maxHeartbeats 4000000 in
theorem w_Dr_handOver_J48 {X : GX} (hE : gE X b_Dr_handOver 3 "StandInMill$Draft" none "handOver" 4 91) {o : Nat} {r : Unit} {S' : gS} {d' : gD} :
    ∀ (S : gS) (d : gD), f_Dr_handOver_J48 o S d = some (r, S', d') → gw X 0 0 (gQ X (none) S' d' 0 0) S d 48 [some (va_rf (some o)), none, none] [] := by
  intro S d h
  unfold f_Dr_handOver_J48 at h
  refine g_aload_n (i := 0) hE d_Dr_handOver_48 rfl rfl ?_
  refine g_iconst hE d_Dr_handOver_49 ki_0 ?_
  obtain ⟨k1, h⟩ := kd_s h
  refine g_putI 2 hE kc_Dr k1 (Nat.le_of_ble_eq_true rfl) rfl m_188 rfl (by decide +kernel) d_Dr_handOver_50 (fun d2 e => ?_)
  replace h := lt_i e h; clear e
  cases h
  exact g_vret hE d_Dr_handOver_53 rfl rfl
set_option maxRecDepth 100000 in
def f_Dr_handOver (S : gS) (d : gD) (o : Nat) (v1 : Option Nat) : Option (Unit × gS × gD) :=
  itr (f_Dr_handOver_B2 o (f_Dr_handOver_J48 o)) (fun _ _ _ _ => none) fu S d v1 0
set_option maxRecDepth 100000 in
set_option maxHeartbeats 4000000 in
theorem c_Dr_handOver (l : Launch) (G : gG) {S : gS} {d : gD} {o : Nat} {v1 : Option Nat} {r : Unit} {d' : gD} {S' : gS} (h : f_Dr_handOver S d o v1 = some (r, S', d')) : GM l G y_Dr_handOver b_Dr_handOver 3 none 4 91 0 0 [.inr (.inr (some o)), .inr (.inr v1)] S d (none) S' d' := by
  refine GM.of (by decide) (Nat.le_of_ble_eq_true rfl) ?_
  intro X hl0 hG0 hR0 hE0
  have hE : gE X b_Dr_handOver 3 "StandInMill$Draft" none "handOver" 4 91 := hE0
  unfold f_Dr_handOver at h
  refine gw.less (lv' := [some (va_rf (some o)), some (va_rf v1), none]) (And.intro rfl (And.intro rfl trivial)) ?_
  refine g_iconst hE d_Dr_handOver_0 ki_0 ?_
  refine g_istore_n (i := 2) (lv' := [some (va_rf (some o)), some (va_rf v1), some (.int 0)]) hE d_Dr_handOver_1 rfl (Nat.le_of_ble_eq_true rfl) ⟨rfl, Nat.le_of_ble_eq_true rfl⟩ (lvp_r rfl) ?_
  exact gw.less (lv' := [some (va_rf (some o)), some (va_rf v1), some (.int 0)]) (And.intro rfl (And.intro rfl (And.intro rfl trivial))) (w_Dr_handOver_L2 hE (w_Dr_handOver_J48 hE) fu S d v1 0 h)
theorem d_M_madeOfDraft_0 : dc b_M_madeOfDraft 0 (.aload_n 0) 1 1 := ⟨by decide +kernel, rfl⟩
theorem d_M_madeOfDraft_1 : dc b_M_madeOfDraft 1 (.iload_n 2) 1 2 := ⟨by decide +kernel, rfl⟩
theorem d_M_madeOfDraft_2 : dc b_M_madeOfDraft 2 (.invokevirtual 333) 3 5 := ⟨by decide +kernel, rfl⟩
theorem d_M_madeOfDraft_5 : dc b_M_madeOfDraft 5 (.istore_n 3) 1 6 := ⟨by decide +kernel, rfl⟩
theorem d_M_madeOfDraft_6 : dc b_M_madeOfDraft 6 (.new 39) 3 9 := ⟨by decide +kernel, rfl⟩
theorem d_M_madeOfDraft_9 : dc b_M_madeOfDraft 9 (.dup) 1 10 := ⟨by decide +kernel, rfl⟩
theorem d_M_madeOfDraft_10 : dc b_M_madeOfDraft 10 (.iload_n 1) 1 11 := ⟨by decide +kernel, rfl⟩
theorem d_M_madeOfDraft_11 : dc b_M_madeOfDraft 11 (.iload_n 2) 1 12 := ⟨by decide +kernel, rfl⟩
theorem d_M_madeOfDraft_12 : dc b_M_madeOfDraft 12 (.iload_n 3) 1 13 := ⟨by decide +kernel, rfl⟩
theorem d_M_madeOfDraft_13 : dc b_M_madeOfDraft 13 (.aload_n 0) 1 14 := ⟨by decide +kernel, rfl⟩
theorem d_M_madeOfDraft_14 : dc b_M_madeOfDraft 14 (.iload_n 3) 1 15 := ⟨by decide +kernel, rfl⟩
theorem d_M_madeOfDraft_15 : dc b_M_madeOfDraft 15 (.invokevirtual 364) 3 18 := ⟨by decide +kernel, rfl⟩
theorem d_M_madeOfDraft_18 : dc b_M_madeOfDraft 18 (.aload_n 0) 1 19 := ⟨by decide +kernel, rfl⟩
theorem d_M_madeOfDraft_19 : dc b_M_madeOfDraft 19 (.getfield 50) 3 22 := ⟨by decide +kernel, rfl⟩
theorem d_M_madeOfDraft_22 : dc b_M_madeOfDraft 22 (.getfield 332) 3 25 := ⟨by decide +kernel, rfl⟩
theorem d_M_madeOfDraft_25 : dc b_M_madeOfDraft 25 (.invokespecial 367) 3 28 := ⟨by decide +kernel, rfl⟩
theorem d_M_madeOfDraft_28 : dc b_M_madeOfDraft 28 (.astore 4) 2 30 := ⟨by decide +kernel, rfl⟩
theorem d_M_madeOfDraft_30 : dc b_M_madeOfDraft 30 (.aload_n 0) 1 31 := ⟨by decide +kernel, rfl⟩
theorem d_M_madeOfDraft_31 : dc b_M_madeOfDraft 31 (.getfield 50) 3 34 := ⟨by decide +kernel, rfl⟩
theorem d_M_madeOfDraft_34 : dc b_M_madeOfDraft 34 (.aload 4) 2 36 := ⟨by decide +kernel, rfl⟩
theorem d_M_madeOfDraft_36 : dc b_M_madeOfDraft 36 (.getfield 244) 3 39 := ⟨by decide +kernel, rfl⟩
theorem d_M_madeOfDraft_39 : dc b_M_madeOfDraft 39 (.invokevirtual 368) 3 42 := ⟨by decide +kernel, rfl⟩
theorem d_M_madeOfDraft_42 : dc b_M_madeOfDraft 42 (.aload 4) 2 44 := ⟨by decide +kernel, rfl⟩
theorem d_M_madeOfDraft_44 : dc b_M_madeOfDraft 44 (.areturn) 1 45 := ⟨by decide +kernel, rfl⟩
set_option maxRecDepth 100000 in
def f_M_madeOfDraft (S : gS) (d : gD) (o : Nat) (v1 : Int32) (v2 : Int32) : Option ((Option Nat × gS × gD) × Nat × Nat) :=
  kd S o 1 <|
  bd (f_M_packageOf S d o v2) fun x2 =>
  ac 1 8 <|
  lt_ (nS S 6 0) fun S4 =>
  lt_ (nD S d) fun d5 =>
  lt_ (sZ S) fun a6 =>
  kd S4 o 1 <|
  bd (f_M_standsOfPackage S4 d5 o x2) fun x11 =>
  lt_ (sP S4 o 11) fun x13 =>
  nn x13 fun a14 =>
  kd S4 a14 3 <|
  lt_ (dI d5 a14 2) fun x16 =>
  bdA (f_Si_init S4 d5 a6 v1 v2 x2 x11 x16) fun _ S19 d20 =>
  kd S19 o 1 <|
  lt_ (sP S19 o 11) fun x26 =>
  kd S19 a6 6 <|
  lt_ (sP S19 a6 4) fun x28 =>
  nn x26 fun a29 =>
  kd S19 a29 3 <|
  bdP (f_Dr_handOver S19 d20 a29 x28) fun _ S33 d34 =>
  some (((some a6), S33, d34), 0, 0)
set_option maxRecDepth 100000 in
set_option maxHeartbeats 4000000 in
theorem c_M_madeOfDraft (l : Launch) (G : gG) {S : gS} {d : gD} {o : Nat} {v1 : Int32} {v2 : Int32} {r : Option Nat} {d' : gD} {S' : gS} {dc ds : Nat} (h : f_M_madeOfDraft S d o v1 v2 = some ((r, S', d'), dc, ds)) : GM l G y_M_madeOfDraft b_M_madeOfDraft 5 (some (.object "StandInMill$StandIn")) 5 113 dc ds [.inr (.inr (some o)), .inl v1, .inl v2] S d (some (va_rf r)) S' d' := by
  refine GM.of (by decide) (Nat.le_of_ble_eq_true rfl) ?_
  intro X hl0 hG0 hR0 hE0
  have hE : gE X b_M_madeOfDraft 5 "StandInMill" (some (.object "StandInMill$StandIn")) "madeOfDraft" 5 113 := hE0
  have hmc : (xR X).cells = dc := by rw [hR0]
  have hms : (xR X).slots = ds := by rw [hR0]
  obtain ⟨mc, emc⟩ : ∃ z, z = dc := ⟨_, rfl⟩
  obtain ⟨ms, ems⟩ : ∃ z, z = ds := ⟨_, rfl⟩
  rw [← emc] at hmc
  rw [← ems] at hms
  have hc : 0 + dc = mc := by omega
  have hs : 0 + ds = ms := by omega
  show gw X 0 0 (gQ X _ _ _ dc ds) _ _ _ _ _
  rw [← emc, ← ems]
  clear hR0 emc ems
  unfold f_M_madeOfDraft at h
  refine gw.less (lv' := [some (va_rf (some o)), some (.int v1), some (.int v2), none, none]) (And.intro rfl (And.intro rfl (And.intro rfl trivial))) ?_
  refine g_aload_n (i := 0) hE d_M_madeOfDraft_0 rfl rfl ?_
  refine g_iload_n (i := 2) hE d_M_madeOfDraft_1 rfl rfl ?_
  obtain ⟨k1, h⟩ := kd_s h
  obtain ⟨x2, e3, h⟩ := bd_s h
  refine g_callV (av := [.inr (.inr (some o)), .inl v2]) (as := [.inl v2]) (stk := [.int x2]) [] hE (c_M_packageOf (xl X) (xG X) e3) ky_M_packageOf ⟨Nat.le_of_ble_eq_true rfl, Nat.le_of_ble_eq_true rfl⟩ rfl kc_M k1 m_166 m_167 m_168 rfl d_M_madeOfDraft_2 rfl rfl ct_0 (cnt_room0 hmc hc) (cnt_room0 hms hs) ?_
  refine gw.cs (c2 := 0) (s2 := 0) rfl rfl ?_
  refine g_istore_n (i := 3) (lv' := [some (va_rf (some o)), some (.int v1), some (.int v2), some (.int x2), none]) hE d_M_madeOfDraft_5 rfl (Nat.le_of_ble_eq_true rfl) ⟨rfl, Nat.le_of_ble_eq_true rfl⟩ (lvp_i rfl) ?_
  obtain ⟨dc0, ds0, h, hc0, hs0⟩ := ac_s h
  refine g_new hE kc_Si kn_Si m_49 m_263 m_264 (cnt_room hmc hc hc0) (cnt_room hms hs hs0) d_M_madeOfDraft_6 (fun S4 d5 a6 e1 e2 e3 => ?_)
  have k7 : sK S4 a6 = 6 := by rw [← e1, ← e3]; exact nS_new
  replace h := lt_i e1 h; replace h := lt_i e2 h; replace h := lt_i e3 h; clear e1 e2 e3
  refine gw.gen (fun c8 s9 ec es => ?_)
  replace hc := cnt_step hc hc0 ec; replace hs := cnt_step hs hs0 es; clear hc0 hs0 ec es
  refine g_dupr hE d_M_madeOfDraft_9 ?_
  refine g_iload_n (i := 1) hE d_M_madeOfDraft_10 rfl rfl ?_
  refine g_iload_n (i := 2) hE d_M_madeOfDraft_11 rfl rfl ?_
  refine g_iload_n (i := 3) hE d_M_madeOfDraft_12 rfl rfl ?_
  refine g_aload_n (i := 0) hE d_M_madeOfDraft_13 rfl rfl ?_
  refine g_iload_n (i := 3) hE d_M_madeOfDraft_14 rfl rfl ?_
  obtain ⟨k10, h⟩ := kd_s h
  obtain ⟨x11, e12, h⟩ := bd_s h
  refine g_callV (av := [.inr (.inr (some o)), .inl x2]) (as := [.inl x2]) (stk := [.int x11, .int x2, .int v2, .int v1, va_rf (some a6), va_rf (some a6)]) [.int x2, .int v2, .int v1, va_rf (some a6), va_rf (some a6)] hE (c_M_standsOfPackage (xl X) (xG X) e12) ky_M_standsOfPackage ⟨Nat.le_of_ble_eq_true rfl, Nat.le_of_ble_eq_true rfl⟩ rfl kc_M k10 m_265 m_266 m_267 rfl d_M_madeOfDraft_15 rfl rfl (Nat.le_trans (ct_i (ct_i (ct_i (ct_r (ct_r ct_n))))) (Nat.le_of_ble_eq_true rfl)) (cnt_room0 hmc hc) (cnt_room0 hms hs) ?_
  refine gw.cs (c2 := c8) (s2 := s9) rfl rfl ?_
  refine g_aload_n (i := 0) hE d_M_madeOfDraft_18 rfl rfl ?_
  refine g_getR 11 hE kc_M k10 (Nat.le_of_ble_eq_true rfl) rfl m_56 d_M_madeOfDraft_19 (fun x13 e => ?_)
  replace h := lt_i e h; clear e
  obtain ⟨a14, rfl, h⟩ := nn_s h
  obtain ⟨k15, h⟩ := kd_s h
  refine g_getIN 2 hE kc_Dr k15 (Nat.le_of_ble_eq_true rfl) rfl nf_24 d_M_madeOfDraft_22 (fun x16 e => ?_)
  replace h := lt_i e h; clear e
  obtain ⟨x17, S19, d20, n21, n22, dc0, ds0, e18, h, hc0, hs0⟩ := bdA_s h
  refine g_callI (av := [.inr (.inr (some a6)), .inl v1, .inl v2, .inl x2, .inl x11, .inl x16]) (as := [.inl v1, .inl v2, .inl x2, .inl x11, .inl x16]) (stk := [va_rf (some a6)]) [va_rf (some a6)] hE (c_Si_init (xl X) (xG X) e18) ky_Si_init ⟨Nat.le_of_ble_eq_true rfl, Nat.le_of_ble_eq_true rfl⟩ rfl m_268 m_269 rfl rfl d_M_madeOfDraft_25 rfl rfl (Nat.le_trans (ct_r ct_n) (Nat.le_of_ble_eq_true rfl)) (cnt_room hmc hc hc0) (cnt_room hms hs hs0) ?_
  refine gw.gen (fun c23 s24 ec es => ?_)
  replace hc := cnt_step hc hc0 ec; replace hs := cnt_step hs hs0 es; clear hc0 hs0 ec es
  refine g_astore (i := 4) (lv' := [some (va_rf (some o)), some (.int v1), some (.int v2), some (.int x2), some (va_rf (some a6))]) hE d_M_madeOfDraft_28 (Nat.le_of_ble_eq_true rfl) ⟨rfl, Nat.le_of_ble_eq_true rfl⟩ (lvp_i rfl) ?_
  refine g_aload_n (i := 0) hE d_M_madeOfDraft_30 rfl rfl ?_
  obtain ⟨k25, h⟩ := kd_s h
  refine g_getR 11 hE kc_M k25 (Nat.le_of_ble_eq_true rfl) rfl m_56 d_M_madeOfDraft_31 (fun x26 e => ?_)
  replace h := lt_i e h; clear e
  refine g_aload (i := 4) hE d_M_madeOfDraft_34 rfl ?_
  obtain ⟨k27, h⟩ := kd_s h
  refine g_getRN 4 hE kc_Si k27 (Nat.le_of_ble_eq_true rfl) rfl nf_28 d_M_madeOfDraft_36 (fun x28 e => ?_)
  replace h := lt_i e h; clear e
  obtain ⟨a29, rfl, h⟩ := nn_s h
  obtain ⟨k30, h⟩ := kd_s h
  obtain ⟨x31, S33, d34, e32, h⟩ := bdP_s h
  refine g_callV (av := [.inr (.inr (some a29)), .inr (.inr x28)]) (as := [.inr (.inr x28)]) (stk := []) [] hE (c_Dr_handOver (xl X) (xG X) e32) ky_Dr_handOver ⟨Nat.le_of_ble_eq_true rfl, Nat.le_of_ble_eq_true rfl⟩ rfl kc_Dr k30 m_270 m_271 m_272 rfl d_M_madeOfDraft_39 rfl rfl ct_0 (cnt_room0 hmc hc) (cnt_room0 hms hs) ?_
  refine gw.cs (c2 := c23) (s2 := s24) rfl rfl ?_
  refine g_aload (i := 4) hE d_M_madeOfDraft_42 rfl ?_
  cases h
  exact g_aret hE (Or.inl ⟨_, rfl⟩) d_M_madeOfDraft_44 hc hs
