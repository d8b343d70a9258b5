def lw_end (X : GX) : Prop := ∀ {cells slots : Nat} {S : gS} {d : gD} {pc q : Nat} {lv : List (Option Value)}, dc b_L_law pc .ireturn 1 q → cells ≤ (xR X).cells → slots ≤ (xR X).slots → gw X cells slots (lw_Z (xb X) (xa X) (xs X)) S d pc lv [.int 1]
theorem sd_L_law_40 : decode b_L_law 40 = .ok (.tableswitch 1062 0 18 #[92, 117, 142, 219, 256, 305, 354, 423, 461, 498, 547, 615, 628, 665, 714, 751, 816, 1022, 1036], 92) := by decide +kernel
theorem s_L_law_40 {X : GX} {cells slots : Nat} {Q : State → Prop} {S : gS} {d : gD} {lv : List (Option Value)} {st : List Value} {x : Int32} (hE : gE X b_L_law 7 "StandInMillLaw" (some (.boolean)) "law" 11 426) (k0 : x = 0 → gw X cells slots Q S d 132 lv st) (k1 : x = 1 → gw X cells slots Q S d 157 lv st) (k2 : x = 2 → gw X cells slots Q S d 182 lv st) (k3 : x = 3 → gw X cells slots Q S d 259 lv st) (k4 : x = 4 → gw X cells slots Q S d 296 lv st) (k5 : x = 5 → gw X cells slots Q S d 345 lv st) (k6 : x = 6 → gw X cells slots Q S d 394 lv st) (k7 : x = 7 → gw X cells slots Q S d 463 lv st) (k8 : x = 8 → gw X cells slots Q S d 501 lv st) (k9 : x = 9 → gw X cells slots Q S d 538 lv st) (k10 : x = 10 → gw X cells slots Q S d 587 lv st) (k11 : x = 11 → gw X cells slots Q S d 655 lv st) (k12 : x = 12 → gw X cells slots Q S d 668 lv st) (k13 : x = 13 → gw X cells slots Q S d 705 lv st) (k14 : x = 14 → gw X cells slots Q S d 754 lv st) (k15 : x = 15 → gw X cells slots Q S d 791 lv st) (k16 : x = 16 → gw X cells slots Q S d 856 lv st) (k17 : x = 17 → gw X cells slots Q S d 1062 lv st) (k18 : x = 18 → gw X cells slots Q S d 1076 lv st) (kd : ¬ x = 0 → ¬ x = 1 → ¬ x = 2 → ¬ x = 3 → ¬ x = 4 → ¬ x = 5 → ¬ x = 6 → ¬ x = 7 → ¬ x = 8 → ¬ x = 9 → ¬ x = 10 → ¬ x = 11 → ¬ x = 12 → ¬ x = 13 → ¬ x = 14 → ¬ x = 15 → ¬ x = 16 → ¬ x = 17 → ¬ x = 18 → gw X cells slots Q S d 1102 lv st) : gw X cells slots Q S d 40 lv (.int x :: st) := by
  by_cases c0 : x = 0
  · exact g_tin hE sd_L_law_40 (c := 0) c0 (by decide) (by decide) rfl (by decide) (k0 c0)
  · by_cases c1 : x = 1
    · exact g_tin hE sd_L_law_40 (c := 1) c1 (by decide) (by decide) rfl (by decide) (k1 c1)
    · by_cases c2 : x = 2
      · exact g_tin hE sd_L_law_40 (c := 2) c2 (by decide) (by decide) rfl (by decide) (k2 c2)
      · by_cases c3 : x = 3
        · exact g_tin hE sd_L_law_40 (c := 3) c3 (by decide) (by decide) rfl (by decide) (k3 c3)
        · by_cases c4 : x = 4
          · exact g_tin hE sd_L_law_40 (c := 4) c4 (by decide) (by decide) rfl (by decide) (k4 c4)
          · by_cases c5 : x = 5
            · exact g_tin hE sd_L_law_40 (c := 5) c5 (by decide) (by decide) rfl (by decide) (k5 c5)
            · by_cases c6 : x = 6
              · exact g_tin hE sd_L_law_40 (c := 6) c6 (by decide) (by decide) rfl (by decide) (k6 c6)
              · by_cases c7 : x = 7
                · exact g_tin hE sd_L_law_40 (c := 7) c7 (by decide) (by decide) rfl (by decide) (k7 c7)
                · by_cases c8 : x = 8
                  · exact g_tin hE sd_L_law_40 (c := 8) c8 (by decide) (by decide) rfl (by decide) (k8 c8)
                  · by_cases c9 : x = 9
                    · exact g_tin hE sd_L_law_40 (c := 9) c9 (by decide) (by decide) rfl (by decide) (k9 c9)
                    · by_cases c10 : x = 10
                      · exact g_tin hE sd_L_law_40 (c := 10) c10 (by decide) (by decide) rfl (by decide) (k10 c10)
                      · by_cases c11 : x = 11
                        · exact g_tin hE sd_L_law_40 (c := 11) c11 (by decide) (by decide) rfl (by decide) (k11 c11)
                        · by_cases c12 : x = 12
                          · exact g_tin hE sd_L_law_40 (c := 12) c12 (by decide) (by decide) rfl (by decide) (k12 c12)
                          · by_cases c13 : x = 13
                            · exact g_tin hE sd_L_law_40 (c := 13) c13 (by decide) (by decide) rfl (by decide) (k13 c13)
                            · by_cases c14 : x = 14
                              · exact g_tin hE sd_L_law_40 (c := 14) c14 (by decide) (by decide) rfl (by decide) (k14 c14)
                              · by_cases c15 : x = 15
                                · exact g_tin hE sd_L_law_40 (c := 15) c15 (by decide) (by decide) rfl (by decide) (k15 c15)
                                · by_cases c16 : x = 16
                                  · exact g_tin hE sd_L_law_40 (c := 16) c16 (by decide) (by decide) rfl (by decide) (k16 c16)
                                  · by_cases c17 : x = 17
                                    · exact g_tin hE sd_L_law_40 (c := 17) c17 (by decide) (by decide) rfl (by decide) (k17 c17)
                                    · by_cases c18 : x = 18
                                      · exact g_tin hE sd_L_law_40 (c := 18) c18 (by decide) (by decide) rfl (by decide) (k18 c18)
                                      · exact g_tout hE sd_L_law_40 (by have h0 := lv_neT c0 (a := 0) (by decide); have h1 := lv_neT c1 (a := 1) (by decide); have h2 := lv_neT c2 (a := 2) (by decide); have h3 := lv_neT c3 (a := 3) (by decide); have h4 := lv_neT c4 (a := 4) (by decide); have h5 := lv_neT c5 (a := 5) (by decide); have h6 := lv_neT c6 (a := 6) (by decide); have h7 := lv_neT c7 (a := 7) (by decide); have h8 := lv_neT c8 (a := 8) (by decide); have h9 := lv_neT c9 (a := 9) (by decide); have h10 := lv_neT c10 (a := 10) (by decide); have h11 := lv_neT c11 (a := 11) (by decide); have h12 := lv_neT c12 (a := 12) (by decide); have h13 := lv_neT c13 (a := 13) (by decide); have h14 := lv_neT c14 (a := 14) (by decide); have h15 := lv_neT c15 (a := 15) (by decide); have h16 := lv_neT c16 (a := 16) (by decide); have h17 := lv_neT c17 (a := 17) (by decide); have h18 := lv_neT c18 (a := 18) (by decide); omega) (by decide) (kd c0 c1 c2 c3 c4 c5 c6 c7 c8 c9 c10 c11 c12 c13 c14 c15 c16 c17 c18)
def f_L_law_J1102 (sL : Nat) (sf : Nat → Int32) (kb : gS → gD → Option Nat → Option Nat → Option Nat → Int32 → Option ((Int32 × gS × gD) × Nat × Nat)) (S : gS) (d : gD) (v1 : Option Nat) (v2 : Option Nat) (v3 : Option Nat) (v4 : Int32) : Option ((Int32 × gS × gD) × Nat × Nat) :=
  kb S d v1 v2 v3 (v4 + 9)
set_option maxRecDepth 100000 in
set_option maxHeartbeats 4000000 in
theorem w_L_law_J1102 {X : GX} (hE : gE X b_L_law 7 "StandInMillLaw" (some (.boolean)) "law" 11 426) {sL : Nat} {sf : Nat → Int32} {b : Nat} (hXs : va_X b sL sf (xs X) (xs X).heap) (hbl : b < (xs X).heap.size) (hbA : ¬ gA (xG X) b) (hX : gX (xG X) (xs X)) (htr : (xl X).stackTraces = false) (hZ : lw_end X) {S' : gS} {d' : gD} {mc ms : Nat} (hmc : mc ≤ (xR X).cells) (hms : ms ≤ (xR X).slots) {kb : gS → gD → Option Nat → Option Nat → Option Nat → Int32 → Option ((Int32 × gS × gD) × Nat × Nat)} (hkb : ∀ (cells slots dc ds : Nat) (S : gS) (d : gD) (v1 : Option Nat) (v2 : Option Nat) (v3 : Option Nat) (v4 : Int32), kb S d v1 v2 v3 v4 = some ((1, S', d'), dc, ds) → cells + dc = mc → slots + ds = ms → gw X cells slots (lw_Z (xb X) (xa X) (xs X)) S d 23 [some (va_rf (some b)), some (va_rf v1), some (va_rf v2), some (va_rf v3), some (.int v4), none, none] []) :
    ∀ (cells slots dc ds : Nat) (S : gS) (d : gD) (v1 : Option Nat) (v2 : Option Nat) (v3 : Option Nat) (v4 : Int32), f_L_law_J1102 sL sf kb S d v1 v2 v3 v4 = some ((1, S', d'), dc, ds) → cells + dc = mc → slots + ds = ms → gw X cells slots (lw_Z (xb X) (xa X) (xs X)) S d 1102 [some (va_rf (some b)), some (va_rf v1), some (va_rf v2), some (va_rf v3), some (.int v4), none, none] [] := by
  intro cells slots dc ds S d v1 v2 v3 v4 h hc hs
  unfold f_L_law_J1102 at h
  refine g_iinc (i := 4) (lv' := [some (va_rf (some b)), some (va_rf v1), some (va_rf v2), some (va_rf v3), some (.int (v4 + 9)), none, none]) hE d_L_law_1102 ki_9 rfl (Nat.le_of_ble_eq_true rfl) ⟨rfl, Nat.le_of_ble_eq_true rfl⟩ (lvp_r rfl) ?_
  refine g_goto hE d_L_law_1105 ?_
  exact gw.less (lv' := [some (va_rf (some b)), some (va_rf v1), some (va_rf v2), some (va_rf v3), some (.int (v4 + 9)), none, none]) (And.intro rfl (And.intro rfl (And.intro rfl (And.intro rfl (And.intro rfl trivial))))) (hkb _ _ _ _ S d v1 v2 v3 (v4 + 9) h hc hs)
def f_L_law_J251 (sL : Nat) (sf : Nat → Int32) (kb : gS → gD → Option Nat → Option Nat → Option Nat → Int32 → Option ((Int32 × gS × gD) × Nat × Nat)) (S : gS) (d : gD) (v1 : Option Nat) (v2 : Option Nat) (v3 : Option Nat) (v4 : Int32) (u0 : Int32) (u1 : Option Nat) (u2 : Int32) (u3 : Int32) (u4 : Int32) (u5 : Int32) : Option ((Int32 × gS × gD) × Nat × Nat) :=
  nn u1 fun a1 =>
  kd S a1 10 <|
  bdD (f_R_face S d a1 u2 u3 u4 u5) fun x3 d5 =>
  if u0 = x3 then (
    f_L_law_J1102 sL sf kb S d5 v1 v2 v3 v4)
  else (
    some ((0, S, d5), 0, 0))
set_option maxRecDepth 100000 in
set_option maxHeartbeats 4000000 in
theorem w_L_law_J251 {X : GX} (hE : gE X b_L_law 7 "StandInMillLaw" (some (.boolean)) "law" 11 426) {sL : Nat} {sf : Nat → Int32} {b : Nat} (hXs : va_X b sL sf (xs X) (xs X).heap) (hbl : b < (xs X).heap.size) (hbA : ¬ gA (xG X) b) (hX : gX (xG X) (xs X)) (htr : (xl X).stackTraces = false) (hZ : lw_end X) {S' : gS} {d' : gD} {mc ms : Nat} (hmc : mc ≤ (xR X).cells) (hms : ms ≤ (xR X).slots) {kb : gS → gD → Option Nat → Option Nat → Option Nat → Int32 → Option ((Int32 × gS × gD) × Nat × Nat)} (hkb : ∀ (cells slots dc ds : Nat) (S : gS) (d : gD) (v1 : Option Nat) (v2 : Option Nat) (v3 : Option Nat) (v4 : Int32), kb S d v1 v2 v3 v4 = some ((1, S', d'), dc, ds) → cells + dc = mc → slots + ds = ms → gw X cells slots (lw_Z (xb X) (xa X) (xs X)) S d 23 [some (va_rf (some b)), some (va_rf v1), some (va_rf v2), some (va_rf v3), some (.int v4), none, none] []) :
    ∀ (cells slots dc ds : Nat) (S : gS) (d : gD) (v1 : Option Nat) (v2 : Option Nat) (v3 : Option Nat) (v4 : Int32) (u0 : Int32) (u1 : Option Nat) (u2 : Int32) (u3 : Int32) (u4 : Int32) (u5 : Int32), f_L_law_J251 sL sf kb S d v1 v2 v3 v4 u0 u1 u2 u3 u4 u5 = some ((1, S', d'), dc, ds) → cells + dc = mc → slots + ds = ms → gw X cells slots (lw_Z (xb X) (xa X) (xs X)) S d 251 [some (va_rf (some b)), some (va_rf v1), some (va_rf v2), some (va_rf v3), some (.int v4), none, none] [.int u5, .int u4, .int u3, .int u2, va_rf u1, .int u0] := by
  intro cells slots dc ds S d v1 v2 v3 v4 u0 u1 u2 u3 u4 u5 h hc hs
  unfold f_L_law_J251 at h
  obtain ⟨a1, rfl, h⟩ := nn_s h
  obtain ⟨k2, h⟩ := kd_s h
  obtain ⟨x3, d5, e4, h⟩ := bdD_s h
  refine g_callV (av := [.inr (.inr (some a1)), .inl u2, .inl u3, .inl u4, .inl u5]) (as := [.inl u2, .inl u3, .inl u4, .inl u5]) (stk := [.int x3, .int u0]) [.int u0] hE (c_R_face (xl X) (xG X) e4) ky_R_face ⟨Nat.le_of_ble_eq_true rfl, Nat.le_of_ble_eq_true rfl⟩ rfl kc_R k2 m_557 m_558 m_559 rfl d_L_law_251 rfl rfl (Nat.le_trans (ct_i ct_n) (Nat.le_of_ble_eq_true rfl)) (cnt_room0L hmc hc) (cnt_room0L hms hs) ?_
  refine gw.cs (c2 := cells) (s2 := slots) rfl rfl ?_
  refine g_icmp_eq hE d_L_law_254 (fun c6 => ?_) (fun c6 => ?_)
  · replace h := if_t c6 h
    exact gw.less (lv' := [some (va_rf (some b)), some (va_rf v1), some (va_rf v2), some (va_rf v3), some (.int v4), none, none]) (And.intro rfl (And.intro rfl (And.intro rfl (And.intro rfl (And.intro rfl trivial))))) (w_L_law_J1102 hE hXs hbl hbA hX htr hZ hmc hms hkb _ _ _ _ S d5 v1 v2 v3 v4 h hc hs)
  · replace h := if_f c6 h
    refine g_iconst hE d_L_law_257 ki_0 ?_
    exact absurd h (by simp)
def f_L_law_J215 (sL : Nat) (sf : Nat → Int32) (kb : gS → gD → Option Nat → Option Nat → Option Nat → Int32 → Option ((Int32 × gS × gD) × Nat × Nat)) (S : gS) (d : gD) (v1 : Option Nat) (v2 : Option Nat) (v3 : Option Nat) (v4 : Int32) (u0 : Option Nat) (u1 : Int32) (u2 : Int32) (u3 : Int32) (u4 : Int32) : Option ((Int32 × gS × gD) × Nat × Nat) :=
  nn u0 fun a1 =>
  kd S a1 1 <|
  bdA (f_M_face S d a1 u1 u2 u3 u4) fun x3 S5 d6 =>
  gi (v4 + 1) sL <|
  lt_ (sf (v4 + 1 : Int32).toNatClampNeg) fun x12 =>
  gi (v4 + 2) sL <|
  lt_ (sf (v4 + 2 : Int32).toNatClampNeg) fun x14 =>
  gi (v4 + 3) sL <|
  lt_ (sf (v4 + 3 : Int32).toNatClampNeg) fun x16 =>
  gi (v4 + 4) sL <|
  lt_ (sf (v4 + 4 : Int32).toNatClampNeg) fun x18 =>
  if x18 = 0 then (
    f_L_law_J251 sL sf kb S5 d6 v1 v2 v3 v4 x3 v2 x12 x14 x16 0)
  else (
    f_L_law_J251 sL sf kb S5 d6 v1 v2 v3 v4 x3 v2 x12 x14 x16 1)
set_option maxRecDepth 100000 in
set_option maxHeartbeats 4000000 in
theorem w_L_law_J215 {X : GX} (hE : gE X b_L_law 7 "StandInMillLaw" (some (.boolean)) "law" 11 426) {sL : Nat} {sf : Nat → Int32} {b : Nat} (hXs : va_X b sL sf (xs X) (xs X).heap) (hbl : b < (xs X).heap.size) (hbA : ¬ gA (xG X) b) (hX : gX (xG X) (xs X)) (htr : (xl X).stackTraces = false) (hZ : lw_end X) {S' : gS} {d' : gD} {mc ms : Nat} (hmc : mc ≤ (xR X).cells) (hms : ms ≤ (xR X).slots) {kb : gS → gD → Option Nat → Option Nat → Option Nat → Int32 → Option ((Int32 × gS × gD) × Nat × Nat)} (hkb : ∀ (cells slots dc ds : Nat) (S : gS) (d : gD) (v1 : Option Nat) (v2 : Option Nat) (v3 : Option Nat) (v4 : Int32), kb S d v1 v2 v3 v4 = some ((1, S', d'), dc, ds) → cells + dc = mc → slots + ds = ms → gw X cells slots (lw_Z (xb X) (xa X) (xs X)) S d 23 [some (va_rf (some b)), some (va_rf v1), some (va_rf v2), some (va_rf v3), some (.int v4), none, none] []) :
    ∀ (cells slots dc ds : Nat) (S : gS) (d : gD) (v1 : Option Nat) (v2 : Option Nat) (v3 : Option Nat) (v4 : Int32) (u0 : Option Nat) (u1 : Int32) (u2 : Int32) (u3 : Int32) (u4 : Int32), f_L_law_J215 sL sf kb S d v1 v2 v3 v4 u0 u1 u2 u3 u4 = some ((1, S', d'), dc, ds) → cells + dc = mc → slots + ds = ms → gw X cells slots (lw_Z (xb X) (xa X) (xs X)) S d 215 [some (va_rf (some b)), some (va_rf v1), some (va_rf v2), some (va_rf v3), some (.int v4), none, none] [.int u4, .int u3, .int u2, .int u1, va_rf u0] := by
  intro cells slots dc ds S d v1 v2 v3 v4 u0 u1 u2 u3 u4 h hc hs
  unfold f_L_law_J215 at h
  obtain ⟨a1, rfl, h⟩ := nn_s h
  obtain ⟨k2, h⟩ := kd_s h
  obtain ⟨x3, S5, d6, n7, n8, dc0, ds0, e4, h, hc0, hs0⟩ := bdA_s h
  refine g_callV (av := [.inr (.inr (some a1)), .inl u1, .inl u2, .inl u3, .inl u4]) (as := [.inl u1, .inl u2, .inl u3, .inl u4]) (stk := [.int x3]) [] hE (c_M_face (xl X) (xG X) e4) ky_M_face ⟨Nat.le_of_ble_eq_true rfl, Nat.le_of_ble_eq_true rfl⟩ rfl kc_M k2 m_554 m_555 m_556 rfl d_L_law_215 rfl rfl ct_0 (cnt_roomL hmc hc hc0) (cnt_roomL hms hs hs0) ?_
  refine gw.gen (fun c9 s10 ec es => ?_)
  replace hc := cnt_step hc hc0 ec; replace hs := cnt_step hs hs0 es; clear hc0 hs0 ec es
  refine g_aload_n (i := 2) hE d_L_law_218 rfl rfl ?_
  refine g_aload_n (i := 0) hE d_L_law_219 rfl rfl ?_
  refine g_iload (i := 4) hE d_L_law_220 rfl ?_
  refine g_iconst hE d_L_law_222 ki_1 ?_
  refine g_iadd hE d_L_law_223 ?_
  obtain ⟨g11, h⟩ := gi_s h
  refine g_sld hE hXs hbl hbA g11 d_L_law_224 (fun x12 e => ?_)
  replace h := lt_i e h; clear e
  refine g_aload_n (i := 0) hE d_L_law_225 rfl rfl ?_
  refine g_iload (i := 4) hE d_L_law_226 rfl ?_
  refine g_iconst hE d_L_law_228 ki_2 ?_
  refine g_iadd hE d_L_law_229 ?_
  obtain ⟨g13, h⟩ := gi_s h
  refine g_sld hE hXs hbl hbA g13 d_L_law_230 (fun x14 e => ?_)
  replace h := lt_i e h; clear e
  refine g_aload_n (i := 0) hE d_L_law_231 rfl rfl ?_
  refine g_iload (i := 4) hE d_L_law_232 rfl ?_
  refine g_iconst hE d_L_law_234 ki_3 ?_
  refine g_iadd hE d_L_law_235 ?_
  obtain ⟨g15, h⟩ := gi_s h
  refine g_sld hE hXs hbl hbA g15 d_L_law_236 (fun x16 e => ?_)
  replace h := lt_i e h; clear e
  refine g_aload_n (i := 0) hE d_L_law_237 rfl rfl ?_
  refine g_iload (i := 4) hE d_L_law_238 rfl ?_
  refine g_iconst hE d_L_law_240 ki_4 ?_
  refine g_iadd hE d_L_law_241 ?_
  obtain ⟨g17, h⟩ := gi_s h
  refine g_sld hE hXs hbl hbA g17 d_L_law_242 (fun x18 e => ?_)
  replace h := lt_i e h; clear e
  refine g_if_eq hE d_L_law_243 (fun c19 => ?_) (fun c19 => ?_)
  · replace h := if_t c19 h
    refine g_iconst hE d_L_law_250 ki_0 ?_
    exact gw.less (lv' := [some (va_rf (some b)), some (va_rf v1), some (va_rf v2), some (va_rf v3), some (.int v4), none, none]) (And.intro rfl (And.intro rfl (And.intro rfl (And.intro rfl (And.intro rfl trivial))))) (w_L_law_J251 hE hXs hbl hbA hX htr hZ hmc hms hkb _ _ _ _ S5 d6 v1 v2 v3 v4 x3 v2 x12 x14 x16 0 h hc hs)
  · replace h := if_f c19 h
    refine g_iconst hE d_L_law_246 ki_1 ?_
    refine g_goto hE d_L_law_247 ?_
    exact gw.less (lv' := [some (va_rf (some b)), some (va_rf v1), some (va_rf v2), some (va_rf v3), some (.int v4), none, none]) (And.intro rfl (And.intro rfl (And.intro rfl (And.intro rfl (And.intro rfl trivial))))) (w_L_law_J251 hE hXs hbl hbA hX htr hZ hmc hms hkb _ _ _ _ S5 d6 v1 v2 v3 v4 x3 v2 x12 x14 x16 1 h hc hs)
def f_L_law_J652 (sL : Nat) (sf : Nat → Int32) (kb : gS → gD → Option Nat → Option Nat → Option Nat → Int32 → Option ((Int32 × gS × gD) × Nat × Nat)) (S : gS) (d : gD) (v1 : Option Nat) (v2 : Option Nat) (v3 : Option Nat) (v4 : Int32) : Option ((Int32 × gS × gD) × Nat × Nat) :=
  f_L_law_J1102 sL sf kb S d v1 v2 v3 v4
set_option maxRecDepth 100000 in
set_option maxHeartbeats 4000000 in
theorem w_L_law_J652 {X : GX} (hE : gE X b_L_law 7 "StandInMillLaw" (some (.boolean)) "law" 11 426) {sL : Nat} {sf : Nat → Int32} {b : Nat} (hXs : va_X b sL sf (xs X) (xs X).heap) (hbl : b < (xs X).heap.size) (hbA : ¬ gA (xG X) b) (hX : gX (xG X) (xs X)) (htr : (xl X).stackTraces = false) (hZ : lw_end X) {S' : gS} {d' : gD} {mc ms : Nat} (hmc : mc ≤ (xR X).cells) (hms : ms ≤ (xR X).slots) {kb : gS → gD → Option Nat → Option Nat → Option Nat → Int32 → Option ((Int32 × gS × gD) × Nat × Nat)} (hkb : ∀ (cells slots dc ds : Nat) (S : gS) (d : gD) (v1 : Option Nat) (v2 : Option Nat) (v3 : Option Nat) (v4 : Int32), kb S d v1 v2 v3 v4 = some ((1, S', d'), dc, ds) → cells + dc = mc → slots + ds = ms → gw X cells slots (lw_Z (xb X) (xa X) (xs X)) S d 23 [some (va_rf (some b)), some (va_rf v1), some (va_rf v2), some (va_rf v3), some (.int v4), none, none] []) :
    ∀ (cells slots dc ds : Nat) (S : gS) (d : gD) (v1 : Option Nat) (v2 : Option Nat) (v3 : Option Nat) (v4 : Int32), f_L_law_J652 sL sf kb S d v1 v2 v3 v4 = some ((1, S', d'), dc, ds) → cells + dc = mc → slots + ds = ms → gw X cells slots (lw_Z (xb X) (xa X) (xs X)) S d 652 [some (va_rf (some b)), some (va_rf v1), some (va_rf v2), some (va_rf v3), some (.int v4), none, none] [] := by
  intro cells slots dc ds S d v1 v2 v3 v4 h hc hs
  unfold f_L_law_J652 at h
  refine g_goto hE d_L_law_652 ?_
  exact gw.less (lv' := [some (va_rf (some b)), some (va_rf v1), some (va_rf v2), some (va_rf v3), some (.int v4), none, none]) (And.intro rfl (And.intro rfl (And.intro rfl (And.intro rfl (And.intro rfl trivial))))) (w_L_law_J1102 hE hXs hbl hbA hX htr hZ hmc hms hkb _ _ _ _ S d v1 v2 v3 v4 h hc hs)
def f_L_law_J848 (sL : Nat) (sf : Nat → Int32) (kb : gS → gD → Option Nat → Option Nat → Option Nat → Int32 → Option ((Int32 × gS × gD) × Nat × Nat)) (S : gS) (d : gD) (v1 : Option Nat) (v2 : Option Nat) (v3 : Option Nat) (v4 : Int32) (u0 : Int32) (u1 : Option Nat) (u2 : Int32) (u3 : Int32) (u4 : Int32) : Option ((Int32 × gS × gD) × Nat × Nat) :=
  nn u1 fun a1 =>
  kd S a1 10 <|
  bdD (f_R_handler S d a1 u2 u3 u4) fun x3 d5 =>
  if u0 = x3 then (
    f_L_law_J1102 sL sf kb S d5 v1 v2 v3 v4)
  else (
    some ((0, S, d5), 0, 0))
set_option maxRecDepth 100000 in
set_option maxHeartbeats 4000000 in
theorem w_L_law_J848 {X : GX} (hE : gE X b_L_law 7 "StandInMillLaw" (some (.boolean)) "law" 11 426) {sL : Nat} {sf : Nat → Int32} {b : Nat} (hXs : va_X b sL sf (xs X) (xs X).heap) (hbl : b < (xs X).heap.size) (hbA : ¬ gA (xG X) b) (hX : gX (xG X) (xs X)) (htr : (xl X).stackTraces = false) (hZ : lw_end X) {S' : gS} {d' : gD} {mc ms : Nat} (hmc : mc ≤ (xR X).cells) (hms : ms ≤ (xR X).slots) {kb : gS → gD → Option Nat → Option Nat → Option Nat → Int32 → Option ((Int32 × gS × gD) × Nat × Nat)} (hkb : ∀ (cells slots dc ds : Nat) (S : gS) (d : gD) (v1 : Option Nat) (v2 : Option Nat) (v3 : Option Nat) (v4 : Int32), kb S d v1 v2 v3 v4 = some ((1, S', d'), dc, ds) → cells + dc = mc → slots + ds = ms → gw X cells slots (lw_Z (xb X) (xa X) (xs X)) S d 23 [some (va_rf (some b)), some (va_rf v1), some (va_rf v2), some (va_rf v3), some (.int v4), none, none] []) :
    ∀ (cells slots dc ds : Nat) (S : gS) (d : gD) (v1 : Option Nat) (v2 : Option Nat) (v3 : Option Nat) (v4 : Int32) (u0 : Int32) (u1 : Option Nat) (u2 : Int32) (u3 : Int32) (u4 : Int32), f_L_law_J848 sL sf kb S d v1 v2 v3 v4 u0 u1 u2 u3 u4 = some ((1, S', d'), dc, ds) → cells + dc = mc → slots + ds = ms → gw X cells slots (lw_Z (xb X) (xa X) (xs X)) S d 848 [some (va_rf (some b)), some (va_rf v1), some (va_rf v2), some (va_rf v3), some (.int v4), none, none] [.int u4, .int u3, .int u2, va_rf u1, .int u0] := by
  intro cells slots dc ds S d v1 v2 v3 v4 u0 u1 u2 u3 u4 h hc hs
  unfold f_L_law_J848 at h
  obtain ⟨a1, rfl, h⟩ := nn_s h
  obtain ⟨k2, h⟩ := kd_s h
  obtain ⟨x3, d5, e4, h⟩ := bdD_s h
  refine g_callV (av := [.inr (.inr (some a1)), .inl u2, .inl u3, .inl u4]) (as := [.inl u2, .inl u3, .inl u4]) (stk := [.int x3, .int u0]) [.int u0] hE (c_R_handler (xl X) (xG X) e4) ky_R_handler ⟨Nat.le_of_ble_eq_true rfl, Nat.le_of_ble_eq_true rfl⟩ rfl kc_R k2 m_637 m_638 m_639 rfl d_L_law_848 rfl rfl (Nat.le_trans (ct_i ct_n) (Nat.le_of_ble_eq_true rfl)) (cnt_room0L hmc hc) (cnt_room0L hms hs) ?_
  refine gw.cs (c2 := cells) (s2 := slots) rfl rfl ?_
  refine g_icmp_eq hE d_L_law_851 (fun c6 => ?_) (fun c6 => ?_)
  · replace h := if_t c6 h
    exact gw.less (lv' := [some (va_rf (some b)), some (va_rf v1), some (va_rf v2), some (va_rf v3), some (.int v4), none, none]) (And.intro rfl (And.intro rfl (And.intro rfl (And.intro rfl (And.intro rfl trivial))))) (w_L_law_J1102 hE hXs hbl hbA hX htr hZ hmc hms hkb _ _ _ _ S d5 v1 v2 v3 v4 h hc hs)
  · replace h := if_f c6 h
    refine g_iconst hE d_L_law_854 ki_0 ?_
    exact absurd h (by simp)
def f_L_law_J818 (sL : Nat) (sf : Nat → Int32) (kb : gS → gD → Option Nat → Option Nat → Option Nat → Int32 → Option ((Int32 × gS × gD) × Nat × Nat)) (S : gS) (d : gD) (v1 : Option Nat) (v2 : Option Nat) (v3 : Option Nat) (v4 : Int32) (u0 : Option Nat) (u1 : Int32) (u2 : Int32) (u3 : Int32) : Option ((Int32 × gS × gD) × Nat × Nat) :=
  nn u0 fun a1 =>
  kd S a1 1 <|
  bdD (f_M_handler S d a1 u1 u2 u3) fun x3 d5 =>
  gi (v4 + 1) sL <|
  lt_ (sf (v4 + 1 : Int32).toNatClampNeg) fun x7 =>
  gi (v4 + 2) sL <|
  lt_ (sf (v4 + 2 : Int32).toNatClampNeg) fun x9 =>
  gi (v4 + 3) sL <|
  lt_ (sf (v4 + 3 : Int32).toNatClampNeg) fun x11 =>
  if x11 = 0 then (
    f_L_law_J848 sL sf kb S d5 v1 v2 v3 v4 x3 v2 x7 x9 0)
  else (
    f_L_law_J848 sL sf kb S d5 v1 v2 v3 v4 x3 v2 x7 x9 1)
set_option maxRecDepth 100000 in
set_option maxHeartbeats 4000000 in
theorem w_L_law_J818 {X : GX} (hE : gE X b_L_law 7 "StandInMillLaw" (some (.boolean)) "law" 11 426) {sL : Nat} {sf : Nat → Int32} {b : Nat} (hXs : va_X b sL sf (xs X) (xs X).heap) (hbl : b < (xs X).heap.size) (hbA : ¬ gA (xG X) b) (hX : gX (xG X) (xs X)) (htr : (xl X).stackTraces = false) (hZ : lw_end X) {S' : gS} {d' : gD} {mc ms : Nat} (hmc : mc ≤ (xR X).cells) (hms : ms ≤ (xR X).slots) {kb : gS → gD → Option Nat → Option Nat → Option Nat → Int32 → Option ((Int32 × gS × gD) × Nat × Nat)} (hkb : ∀ (cells slots dc ds : Nat) (S : gS) (d : gD) (v1 : Option Nat) (v2 : Option Nat) (v3 : Option Nat) (v4 : Int32), kb S d v1 v2 v3 v4 = some ((1, S', d'), dc, ds) → cells + dc = mc → slots + ds = ms → gw X cells slots (lw_Z (xb X) (xa X) (xs X)) S d 23 [some (va_rf (some b)), some (va_rf v1), some (va_rf v2), some (va_rf v3), some (.int v4), none, none] []) :
    ∀ (cells slots dc ds : Nat) (S : gS) (d : gD) (v1 : Option Nat) (v2 : Option Nat) (v3 : Option Nat) (v4 : Int32) (u0 : Option Nat) (u1 : Int32) (u2 : Int32) (u3 : Int32), f_L_law_J818 sL sf kb S d v1 v2 v3 v4 u0 u1 u2 u3 = some ((1, S', d'), dc, ds) → cells + dc = mc → slots + ds = ms → gw X cells slots (lw_Z (xb X) (xa X) (xs X)) S d 818 [some (va_rf (some b)), some (va_rf v1), some (va_rf v2), some (va_rf v3), some (.int v4), none, none] [.int u3, .int u2, .int u1, va_rf u0] := by
  intro cells slots dc ds S d v1 v2 v3 v4 u0 u1 u2 u3 h hc hs
  unfold f_L_law_J818 at h
  obtain ⟨a1, rfl, h⟩ := nn_s h
  obtain ⟨k2, h⟩ := kd_s h
  obtain ⟨x3, d5, e4, h⟩ := bdD_s h
  refine g_callV (av := [.inr (.inr (some a1)), .inl u1, .inl u2, .inl u3]) (as := [.inl u1, .inl u2, .inl u3]) (stk := [.int x3]) [] hE (c_M_handler (xl X) (xG X) e4) ky_M_handler ⟨Nat.le_of_ble_eq_true rfl, Nat.le_of_ble_eq_true rfl⟩ rfl kc_M k2 m_634 m_635 m_636 rfl d_L_law_818 rfl rfl ct_0 (cnt_room0L hmc hc) (cnt_room0L hms hs) ?_
  refine gw.cs (c2 := cells) (s2 := slots) rfl rfl ?_
  refine g_aload_n (i := 2) hE d_L_law_821 rfl rfl ?_
  refine g_aload_n (i := 0) hE d_L_law_822 rfl rfl ?_
  refine g_iload (i := 4) hE d_L_law_823 rfl ?_
  refine g_iconst hE d_L_law_825 ki_1 ?_
  refine g_iadd hE d_L_law_826 ?_
  obtain ⟨g6, h⟩ := gi_s h
  refine g_sld hE hXs hbl hbA g6 d_L_law_827 (fun x7 e => ?_)
  replace h := lt_i e h; clear e
  refine g_aload_n (i := 0) hE d_L_law_828 rfl rfl ?_
  refine g_iload (i := 4) hE d_L_law_829 rfl ?_
  refine g_iconst hE d_L_law_831 ki_2 ?_
  refine g_iadd hE d_L_law_832 ?_
  obtain ⟨g8, h⟩ := gi_s h
  refine g_sld hE hXs hbl hbA g8 d_L_law_833 (fun x9 e => ?_)
  replace h := lt_i e h; clear e
  refine g_aload_n (i := 0) hE d_L_law_834 rfl rfl ?_
  refine g_iload (i := 4) hE d_L_law_835 rfl ?_
  refine g_iconst hE d_L_law_837 ki_3 ?_
  refine g_iadd hE d_L_law_838 ?_
  obtain ⟨g10, h⟩ := gi_s h
  refine g_sld hE hXs hbl hbA g10 d_L_law_839 (fun x11 e => ?_)
  replace h := lt_i e h; clear e
  refine g_if_eq hE d_L_law_840 (fun c12 => ?_) (fun c12 => ?_)
  · replace h := if_t c12 h
    refine g_iconst hE d_L_law_847 ki_0 ?_
    exact gw.less (lv' := [some (va_rf (some b)), some (va_rf v1), some (va_rf v2), some (va_rf v3), some (.int v4), none, none]) (And.intro rfl (And.intro rfl (And.intro rfl (And.intro rfl (And.intro rfl trivial))))) (w_L_law_J848 hE hXs hbl hbA hX htr hZ hmc hms hkb _ _ _ _ S d5 v1 v2 v3 v4 x3 v2 x7 x9 0 h hc hs)
  · replace h := if_f c12 h
    refine g_iconst hE d_L_law_843 ki_1 ?_
    refine g_goto hE d_L_law_844 ?_
    exact gw.less (lv' := [some (va_rf (some b)), some (va_rf v1), some (va_rf v2), some (va_rf v3), some (.int v4), none, none]) (And.intro rfl (And.intro rfl (And.intro rfl (And.intro rfl (And.intro rfl trivial))))) (w_L_law_J848 hE hXs hbl hbA hX htr hZ hmc hms hkb _ _ _ _ S d5 v1 v2 v3 v4 x3 v2 x7 x9 1 h hc hs)
def f_L_law_J1059 (sL : Nat) (sf : Nat → Int32) (kb : gS → gD → Option Nat → Option Nat → Option Nat → Int32 → Option ((Int32 × gS × gD) × Nat × Nat)) (S : gS) (d : gD) (v1 : Option Nat) (v2 : Option Nat) (v3 : Option Nat) (v4 : Int32) : Option ((Int32 × gS × gD) × Nat × Nat) :=
  f_L_law_J1102 sL sf kb S d v1 v2 v3 v4
set_option maxRecDepth 100000 in
set_option maxHeartbeats 4000000 in
theorem w_L_law_J1059 {X : GX} (hE : gE X b_L_law 7 "StandInMillLaw" (some (.boolean)) "law" 11 426) {sL : Nat} {sf : Nat → Int32} {b : Nat} (hXs : va_X b sL sf (xs X) (xs X).heap) (hbl : b < (xs X).heap.size) (hbA : ¬ gA (xG X) b) (hX : gX (xG X) (xs X)) (htr : (xl X).stackTraces = false) (hZ : lw_end X) {S' : gS} {d' : gD} {mc ms : Nat} (hmc : mc ≤ (xR X).cells) (hms : ms ≤ (xR X).slots) {kb : gS → gD → Option Nat → Option Nat → Option Nat → Int32 → Option ((Int32 × gS × gD) × Nat × Nat)} (hkb : ∀ (cells slots dc ds : Nat) (S : gS) (d : gD) (v1 : Option Nat) (v2 : Option Nat) (v3 : Option Nat) (v4 : Int32), kb S d v1 v2 v3 v4 = some ((1, S', d'), dc, ds) → cells + dc = mc → slots + ds = ms → gw X cells slots (lw_Z (xb X) (xa X) (xs X)) S d 23 [some (va_rf (some b)), some (va_rf v1), some (va_rf v2), some (va_rf v3), some (.int v4), none, none] []) :
    ∀ (cells slots dc ds : Nat) (S : gS) (d : gD) (v1 : Option Nat) (v2 : Option Nat) (v3 : Option Nat) (v4 : Int32), f_L_law_J1059 sL sf kb S d v1 v2 v3 v4 = some ((1, S', d'), dc, ds) → cells + dc = mc → slots + ds = ms → gw X cells slots (lw_Z (xb X) (xa X) (xs X)) S d 1059 [some (va_rf (some b)), some (va_rf v1), some (va_rf v2), some (va_rf v3), some (.int v4), none, none] [] := by
  intro cells slots dc ds S d v1 v2 v3 v4 h hc hs
  unfold f_L_law_J1059 at h
  refine g_goto hE d_L_law_1059 ?_
  exact gw.less (lv' := [some (va_rf (some b)), some (va_rf v1), some (va_rf v2), some (va_rf v3), some (.int v4), none, none]) (And.intro rfl (And.intro rfl (And.intro rfl (And.intro rfl (And.intro rfl trivial))))) (w_L_law_J1102 hE hXs hbl hbA hX htr hZ hmc hms hkb _ _ _ _ S d v1 v2 v3 v4 h hc hs)
def f_L_law_B23 (sL : Nat) (sf : Nat → Int32) (kb : gS → gD → Option Nat → Option Nat → Option Nat → Int32 → Option ((Int32 × gS × gD) × Nat × Nat)) (S : gS) (d : gD) (v1 : Option Nat) (v2 : Option Nat) (v3 : Option Nat) (v4 : Int32) : Option ((Int32 × gS × gD) × Nat × Nat) :=
  if ((Int32.ofNat sL) - 9) < v4 then (
    some ((1, S, d), 0, 0))
  else (
    gi v4 sL <|
    lt_ (sf v4.toNatClampNeg) fun x2 =>
    if (x2 &&& 31) = 0 then (
      gi (v4 + 1) sL <|
      lt_ (sf (v4 + 1 : Int32).toNatClampNeg) fun x5 =>
      nn v1 fun a6 =>
      kd S a6 1 <|
      bdD (f_M_loader S d a6 x5) fun x8 d10 =>
      gi (v4 + 1) sL <|
      lt_ (sf (v4 + 1 : Int32).toNatClampNeg) fun x12 =>
      nn v2 fun a13 =>
      kd S a13 10 <|
      bdD (f_R_loader S d10 a13 x12) fun x15 d17 =>
      if x8 = x15 then (
        f_L_law_J1102 sL sf kb S d17 (some a6) (some a13) v3 v4)
      else (
        some ((0, S, d17), 0, 0)))
    else (
      if (x2 &&& 31) = 1 then (
        gi (v4 + 1) sL <|
        lt_ (sf (v4 + 1 : Int32).toNatClampNeg) fun x20 =>
        nn v1 fun a21 =>
        kd S a21 1 <|
        bdD (f_M_type S d a21 x20) fun x23 d25 =>
        gi (v4 + 1) sL <|
        lt_ (sf (v4 + 1 : Int32).toNatClampNeg) fun x27 =>
        nn v2 fun a28 =>
        kd S a28 10 <|
        bdD (f_R_type S d25 a28 x27) fun x30 d32 =>
        if x23 = x30 then (
          f_L_law_J1102 sL sf kb S d32 (some a21) (some a28) v3 v4)
        else (
          some ((0, S, d32), 0, 0)))
      else (
        if (x2 &&& 31) = 2 then (
          gi (v4 + 1) sL <|
          lt_ (sf (v4 + 1 : Int32).toNatClampNeg) fun x35 =>
          gi (v4 + 2) sL <|
          lt_ (sf (v4 + 2 : Int32).toNatClampNeg) fun x37 =>
          gi (v4 + 3) sL <|
          lt_ (sf (v4 + 3 : Int32).toNatClampNeg) fun x39 =>
          gi (v4 + 4) sL <|
          lt_ (sf (v4 + 4 : Int32).toNatClampNeg) fun x41 =>
          if x41 = 0 then (
            f_L_law_J215 sL sf kb S d v1 v2 v3 v4 v1 x35 x37 x39 0)
          else (
            f_L_law_J215 sL sf kb S d v1 v2 v3 v4 v1 x35 x37 x39 1))
        else (
          if (x2 &&& 31) = 3 then (
            gi (v4 + 1) sL <|
            lt_ (sf (v4 + 1 : Int32).toNatClampNeg) fun x44 =>
            gi (v4 + 2) sL <|
            lt_ (sf (v4 + 2 : Int32).toNatClampNeg) fun x46 =>
            nn v1 fun a47 =>
            kd S a47 1 <|
            bdD (f_M_extend S d a47 x44 x46) fun x49 d51 =>
            gi (v4 + 1) sL <|
            lt_ (sf (v4 + 1 : Int32).toNatClampNeg) fun x53 =>
            gi (v4 + 2) sL <|
            lt_ (sf (v4 + 2 : Int32).toNatClampNeg) fun x55 =>
            nn v2 fun a56 =>
            kd S a56 10 <|
            bdD (f_R_extend S d51 a56 x53 x55) fun x58 d60 =>
            if x49 = x58 then (
              f_L_law_J1102 sL sf kb S d60 (some a47) (some a56) v3 v4)
            else (
              some ((0, S, d60), 0, 0)))
          else (
            if (x2 &&& 31) = 4 then (
              gi (v4 + 1) sL <|
              lt_ (sf (v4 + 1 : Int32).toNatClampNeg) fun x63 =>
              gi (v4 + 2) sL <|
              lt_ (sf (v4 + 2 : Int32).toNatClampNeg) fun x65 =>
              gi (v4 + 3) sL <|
              lt_ (sf (v4 + 3 : Int32).toNatClampNeg) fun x67 =>
              nn v1 fun a68 =>
              kd S a68 1 <|
              bdA (f_M_method S d a68 x63 x65 x67) fun x70 S72 d73 =>
              gi (v4 + 1) sL <|
              lt_ (sf (v4 + 1 : Int32).toNatClampNeg) fun x79 =>
              gi (v4 + 2) sL <|
              lt_ (sf (v4 + 2 : Int32).toNatClampNeg) fun x81 =>
              gi (v4 + 3) sL <|
              lt_ (sf (v4 + 3 : Int32).toNatClampNeg) fun x83 =>
              nn v2 fun a84 =>
              kd S72 a84 10 <|
              bdD (f_R_method S72 d73 a84 x79 x81 x83) fun x86 d88 =>
              if x70 = x86 then (
                f_L_law_J1102 sL sf kb S72 d88 (some a68) (some a84) v3 v4)
              else (
                some ((0, S72, d88), 0, 0)))
            else (
              if (x2 &&& 31) = 5 then (
                gi (v4 + 1) sL <|
                lt_ (sf (v4 + 1 : Int32).toNatClampNeg) fun x91 =>
                gi (v4 + 2) sL <|
                lt_ (sf (v4 + 2 : Int32).toNatClampNeg) fun x93 =>
                gi (v4 + 3) sL <|
                lt_ (sf (v4 + 3 : Int32).toNatClampNeg) fun x95 =>
                nn v1 fun a96 =>
                kd S a96 1 <|
                bdD (f_M_throwing S d a96 x91 x93 x95) fun x98 d100 =>
                gi (v4 + 1) sL <|
                lt_ (sf (v4 + 1 : Int32).toNatClampNeg) fun x102 =>
                gi (v4 + 2) sL <|
                lt_ (sf (v4 + 2 : Int32).toNatClampNeg) fun x104 =>
                gi (v4 + 3) sL <|
                lt_ (sf (v4 + 3 : Int32).toNatClampNeg) fun x106 =>
                nn v2 fun a107 =>
                kd S a107 10 <|
                bdD (f_R_throwing S d100 a107 x102 x104 x106) fun x109 d111 =>
                if x98 = x109 then (
                  f_L_law_J1102 sL sf kb S d111 (some a96) (some a107) v3 v4)
                else (
                  some ((0, S, d111), 0, 0)))
              else (
                if (x2 &&& 31) = 6 then (
                  gi (v4 + 1) sL <|
                  lt_ (sf (v4 + 1 : Int32).toNatClampNeg) fun x114 =>
                  gi (v4 + 2) sL <|
                  lt_ (sf (v4 + 2 : Int32).toNatClampNeg) fun x116 =>
                  gi (v4 + 3) sL <|
                  lt_ (sf (v4 + 3 : Int32).toNatClampNeg) fun x118 =>
                  nn v1 fun a119 =>
                  kd S a119 1 <|
                  bdD (f_M_object S d a119 x114 (((Int32.toInt64 x116) <<< (Int32.toInt64 32 &&& 63)) ||| ((Int32.toInt64 x118) &&& 4294967295))) fun x121 d123 =>
                  gi (v4 + 1) sL <|
                  lt_ (sf (v4 + 1 : Int32).toNatClampNeg) fun x125 =>
                  gi (v4 + 2) sL <|
                  lt_ (sf (v4 + 2 : Int32).toNatClampNeg) fun x127 =>
                  gi (v4 + 3) sL <|
                  lt_ (sf (v4 + 3 : Int32).toNatClampNeg) fun x129 =>
                  nn v2 fun a130 =>
                  kd S a130 10 <|
                  bdD (f_R_object S d123 a130 x125 (((Int32.toInt64 x127) <<< (Int32.toInt64 32 &&& 63)) ||| ((Int32.toInt64 x129) &&& 4294967295))) fun x132 d134 =>
                  if x121 = x132 then (
                    f_L_law_J1102 sL sf kb S d134 (some a119) (some a130) v3 v4)
                  else (
                    some ((0, S, d134), 0, 0)))
                else (
                  if (x2 &&& 31) = 7 then (
                    gi (v4 + 1) sL <|
                    lt_ (sf (v4 + 1 : Int32).toNatClampNeg) fun x137 =>
                    gi (v4 + 2) sL <|
                    lt_ (sf (v4 + 2 : Int32).toNatClampNeg) fun x139 =>
                    nn v1 fun a140 =>
                    kd S a140 1 <|
                    bd (f_M_value S d a140 x137 x139) fun x142 =>
                    gi (v4 + 1) sL <|
                    lt_ (sf (v4 + 1 : Int32).toNatClampNeg) fun x145 =>
                    gi (v4 + 2) sL <|
                    lt_ (sf (v4 + 2 : Int32).toNatClampNeg) fun x147 =>
                    nn v2 fun a148 =>
                    kd S a148 10 <|
                    bdD (f_R_value S d a148 x145 x147) fun x150 d152 =>
                    if (lg_cmp x142 x150) = 0 then (
                      f_L_law_J1102 sL sf kb S d152 (some a140) (some a148) v3 v4)
                    else (
                      some ((0, S, d152), 0, 0)))
                  else (
                    if (x2 &&& 31) = 8 then (
                      gi (v4 + 1) sL <|
                      lt_ (sf (v4 + 1 : Int32).toNatClampNeg) fun x155 =>
                      gi (v4 + 2) sL <|
                      lt_ (sf (v4 + 2 : Int32).toNatClampNeg) fun x157 =>
                      nn v1 fun a158 =>
                      kd S a158 1 <|
                      bd (f_M_below S d a158 x155 x157) fun x160 =>
                      gi (v4 + 1) sL <|
                      lt_ (sf (v4 + 1 : Int32).toNatClampNeg) fun x163 =>
                      gi (v4 + 2) sL <|
                      lt_ (sf (v4 + 2 : Int32).toNatClampNeg) fun x165 =>
                      nn v2 fun a166 =>
                      kd S a166 10 <|
                      bdD (f_R_below S d a166 x163 x165) fun x168 d170 =>
                      if x160 = x168 then (
                        f_L_law_J1102 sL sf kb S d170 (some a158) (some a166) v3 v4)
                      else (
                        some ((0, S, d170), 0, 0)))
                    else (
                      if (x2 &&& 31) = 9 then (
                        gi (v4 + 1) sL <|
                        lt_ (sf (v4 + 1 : Int32).toNatClampNeg) fun x173 =>
                        gi (v4 + 2) sL <|
                        lt_ (sf (v4 + 2 : Int32).toNatClampNeg) fun x175 =>
                        gi (v4 + 3) sL <|
                        lt_ (sf (v4 + 3 : Int32).toNatClampNeg) fun x177 =>
                        nn v1 fun a178 =>
                        kd S a178 1 <|
                        bd (f_M_find S d a178 x173 x175 x177) fun x180 =>
                        gi (v4 + 1) sL <|
                        lt_ (sf (v4 + 1 : Int32).toNatClampNeg) fun x183 =>
                        gi (v4 + 2) sL <|
                        lt_ (sf (v4 + 2 : Int32).toNatClampNeg) fun x185 =>
                        gi (v4 + 3) sL <|
                        lt_ (sf (v4 + 3 : Int32).toNatClampNeg) fun x187 =>
                        nn v2 fun a188 =>
                        kd S a188 10 <|
                        bdD (f_R_find S d a188 x183 x185 x187) fun x190 d192 =>
                        if x180 = x190 then (
                          f_L_law_J1102 sL sf kb S d192 (some a178) (some a188) v3 v4)
                        else (
                          some ((0, S, d192), 0, 0)))
                      else (
                        if (x2 &&& 31) = 10 then (
                          gi (v4 + 1) sL <|
                          lt_ (sf (v4 + 1 : Int32).toNatClampNeg) fun x195 =>
                          gi (v4 + 2) sL <|
                          lt_ (sf (v4 + 2 : Int32).toNatClampNeg) fun x197 =>
                          bdA (f_L_stand S d v1 x195 x197 v3) fun x198 S200 d201 =>
                          gi (v4 + 1) sL <|
                          lt_ (sf (v4 + 1 : Int32).toNatClampNeg) fun x207 =>
                          gi (v4 + 2) sL <|
                          lt_ (sf (v4 + 2 : Int32).toNatClampNeg) fun x209 =>
                          nn v2 fun a210 =>
                          kd S200 a210 10 <|
                          bdD (f_R_stand S200 d201 a210 x207 x209) fun x212 d214 =>
                          bd (f_R_thrown S200 d214 a210) fun x215 =>
                          if x215 = x198 then (
                            if x198 = 0 then (
                              nn v3 fun a217 =>
                              kd S200 a217 51 <|
                              gi 0 (sN S200 a217) <|
                              lt_ (dL d214 a217 (0 : Int32).toNatClampNeg) fun x220 =>
                              if (lg_cmp x220 (Int32.toInt64 x212)) = 0 then (
                                f_L_law_J652 sL sf kb S200 d214 v1 (some a210) (some a217) v4)
                              else (
                                some ((0, S200, d214), 0, 0)))
                            else (
                              f_L_law_J652 sL sf kb S200 d214 v1 (some a210) v3 v4))
                          else (
                            some ((0, S200, d214), 0, 0)))
                        else (
                          if (x2 &&& 31) = 11 then (
                            nn v1 fun a224 =>
                            kd S a224 1 <|
                            bd (f_M_fault S d a224) fun x226 =>
                            nn v2 fun a228 =>
                            kd S a228 10 <|
                            bdD (f_R_fault S d a228) fun x230 d232 =>
                            if x226 = x230 then (
                              f_L_law_J1102 sL sf kb S d232 (some a224) (some a228) v3 v4)
                            else (
                              some ((0, S, d232), 0, 0)))
                          else (
                            if (x2 &&& 31) = 12 then (
                              gi (v4 + 1) sL <|
                              lt_ (sf (v4 + 1 : Int32).toNatClampNeg) fun x235 =>
                              gi (v4 + 2) sL <|
                              lt_ (sf (v4 + 2 : Int32).toNatClampNeg) fun x237 =>
                              nn v1 fun a238 =>
                              kd S a238 1 <|
                              bd (f_M_about S d a238 x235 x237) fun x240 =>
                              gi (v4 + 1) sL <|
                              lt_ (sf (v4 + 1 : Int32).toNatClampNeg) fun x243 =>
                              gi (v4 + 2) sL <|
                              lt_ (sf (v4 + 2 : Int32).toNatClampNeg) fun x245 =>
                              nn v2 fun a246 =>
                              kd S a246 10 <|
                              bdD (f_R_about S d a246 x243 x245) fun x248 d250 =>
                              if x240 = x248 then (
                                f_L_law_J1102 sL sf kb S d250 (some a238) (some a246) v3 v4)
                              else (
                                some ((0, S, d250), 0, 0)))
                            else (
                              if (x2 &&& 31) = 13 then (
                                gi (v4 + 1) sL <|
                                lt_ (sf (v4 + 1 : Int32).toNatClampNeg) fun x253 =>
                                gi (v4 + 2) sL <|
                                lt_ (sf (v4 + 2 : Int32).toNatClampNeg) fun x255 =>
                                gi (v4 + 3) sL <|
                                lt_ (sf (v4 + 3 : Int32).toNatClampNeg) fun x257 =>
                                nn v1 fun a258 =>
                                kd S a258 1 <|
                                bd (f_M_told S d a258 x253 x255 x257) fun x260 =>
                                gi (v4 + 1) sL <|
                                lt_ (sf (v4 + 1 : Int32).toNatClampNeg) fun x263 =>
                                gi (v4 + 2) sL <|
                                lt_ (sf (v4 + 2 : Int32).toNatClampNeg) fun x265 =>
                                gi (v4 + 3) sL <|
                                lt_ (sf (v4 + 3 : Int32).toNatClampNeg) fun x267 =>
                                nn v2 fun a268 =>
                                kd S a268 10 <|
                                bdD (f_R_told S d a268 x263 x265 x267) fun x270 d272 =>
                                if x260 = x270 then (
                                  f_L_law_J1102 sL sf kb S d272 (some a258) (some a268) v3 v4)
                                else (
                                  some ((0, S, d272), 0, 0)))
                              else (
                                if (x2 &&& 31) = 14 then (
                                  gi (v4 + 1) sL <|
                                  lt_ (sf (v4 + 1 : Int32).toNatClampNeg) fun x275 =>
                                  gi (v4 + 2) sL <|
                                  lt_ (sf (v4 + 2 : Int32).toNatClampNeg) fun x277 =>
                                  nn v1 fun a278 =>
                                  kd S a278 1 <|
                                  bd (f_M_octet S d a278 x275 x277) fun x280 =>
                                  gi (v4 + 1) sL <|
                                  lt_ (sf (v4 + 1 : Int32).toNatClampNeg) fun x283 =>
                                  gi (v4 + 2) sL <|
                                  lt_ (sf (v4 + 2 : Int32).toNatClampNeg) fun x285 =>
                                  nn v2 fun a286 =>
                                  kd S a286 10 <|
                                  bdD (f_R_octet S d a286 x283 x285) fun x288 d290 =>
                                  if x280 = x288 then (
                                    f_L_law_J1102 sL sf kb S d290 (some a278) (some a286) v3 v4)
                                  else (
                                    some ((0, S, d290), 0, 0)))
                                else (
                                  if (x2 &&& 31) = 15 then (
                                    gi (v4 + 1) sL <|
                                    lt_ (sf (v4 + 1 : Int32).toNatClampNeg) fun x293 =>
                                    gi (v4 + 2) sL <|
                                    lt_ (sf (v4 + 2 : Int32).toNatClampNeg) fun x295 =>
                                    gi (v4 + 3) sL <|
                                    lt_ (sf (v4 + 3 : Int32).toNatClampNeg) fun x297 =>
                                    if x297 = 0 then (
                                      f_L_law_J818 sL sf kb S d v1 v2 v3 v4 v1 x293 x295 0)
                                    else (
                                      f_L_law_J818 sL sf kb S d v1 v2 v3 v4 v1 x293 x295 1))
                                  else (
                                    if (x2 &&& 31) = 16 then (
                                      gi (v4 + 1) sL <|
                                      lt_ (sf (v4 + 1 : Int32).toNatClampNeg) fun x300 =>
                                      gi (v4 + 2) sL <|
                                      lt_ (sf (v4 + 2 : Int32).toNatClampNeg) fun x302 =>
                                      gi (v4 + 3) sL <|
                                      lt_ (sf (v4 + 3 : Int32).toNatClampNeg) fun x304 =>
                                      gi (v4 + 4) sL <|
                                      lt_ (sf (v4 + 4 : Int32).toNatClampNeg) fun x306 =>
                                      gi (v4 + 5) sL <|
                                      lt_ (sf (v4 + 5 : Int32).toNatClampNeg) fun x308 =>
                                      gi (v4 + 6) sL <|
                                      lt_ (sf (v4 + 6 : Int32).toNatClampNeg) fun x310 =>
                                      gi (v4 + 7) sL <|
                                      lt_ (sf (v4 + 7 : Int32).toNatClampNeg) fun x312 =>
                                      gi (v4 + 8) sL <|
                                      lt_ (sf (v4 + 8 : Int32).toNatClampNeg) fun x314 =>
                                      bdA (f_L_call S d v1 x300 x302 (((Int32.toInt64 x304) <<< (Int32.toInt64 32 &&& 63)) ||| ((Int32.toInt64 x306) &&& 4294967295)) (((Int32.toInt64 x308) <<< (Int32.toInt64 32 &&& 63)) ||| ((Int32.toInt64 x310) &&& 4294967295)) (((Int32.toInt64 x312) <<< (Int32.toInt64 32 &&& 63)) ||| ((Int32.toInt64 x314) &&& 4294967295)) v3) fun x315 S317 d318 =>
                                      gi (v4 + 1) sL <|
                                      lt_ (sf (v4 + 1 : Int32).toNatClampNeg) fun x324 =>
                                      gi (v4 + 2) sL <|
                                      lt_ (sf (v4 + 2 : Int32).toNatClampNeg) fun x326 =>
                                      gi (v4 + 3) sL <|
                                      lt_ (sf (v4 + 3 : Int32).toNatClampNeg) fun x328 =>
                                      gi (v4 + 4) sL <|
                                      lt_ (sf (v4 + 4 : Int32).toNatClampNeg) fun x330 =>
                                      gi (v4 + 5) sL <|
                                      lt_ (sf (v4 + 5 : Int32).toNatClampNeg) fun x332 =>
                                      gi (v4 + 6) sL <|
                                      lt_ (sf (v4 + 6 : Int32).toNatClampNeg) fun x334 =>
                                      gi (v4 + 7) sL <|
                                      lt_ (sf (v4 + 7 : Int32).toNatClampNeg) fun x336 =>
                                      gi (v4 + 8) sL <|
                                      lt_ (sf (v4 + 8 : Int32).toNatClampNeg) fun x338 =>
                                      nn v2 fun a339 =>
                                      kd S317 a339 10 <|
                                      bdD (f_R_call S317 d318 a339 x324 x326 (((Int32.toInt64 x328) <<< (Int32.toInt64 32 &&& 63)) ||| ((Int32.toInt64 x330) &&& 4294967295)) (((Int32.toInt64 x332) <<< (Int32.toInt64 32 &&& 63)) ||| ((Int32.toInt64 x334) &&& 4294967295)) (((Int32.toInt64 x336) <<< (Int32.toInt64 32 &&& 63)) ||| ((Int32.toInt64 x338) &&& 4294967295))) fun x341 d343 =>
                                      bd (f_R_thrown S317 d343 a339) fun x344 =>
                                      if x344 = x315 then (
                                        if x315 = 0 then (
                                          nn v3 fun a346 =>
                                          kd S317 a346 51 <|
                                          gi 0 (sN S317 a346) <|
                                          lt_ (dL d343 a346 (0 : Int32).toNatClampNeg) fun x349 =>
                                          if (lg_cmp x349 (Int32.toInt64 x341)) = 0 then (
                                            f_L_law_J1059 sL sf kb S317 d343 v1 (some a339) (some a346) v4)
                                          else (
                                            some ((0, S317, d343), 0, 0)))
                                        else (
                                          f_L_law_J1059 sL sf kb S317 d343 v1 (some a339) v3 v4))
                                      else (
                                        some ((0, S317, d343), 0, 0)))
                                    else (
                                      if (x2 &&& 31) = 17 then (
                                        nn v1 fun a353 =>
                                        kd S a353 1 <|
                                        bd (f_M_outcome S d a353) fun x355 =>
                                        nn v2 fun a357 =>
                                        kd S a357 10 <|
                                        bdD (f_R_outcome S d a357) fun x359 d361 =>
                                        if (lg_cmp x355 x359) = 0 then (
                                          f_L_law_J1102 sL sf kb S d361 (some a353) (some a357) v3 v4)
                                        else (
                                          some ((0, S, d361), 0, 0)))
                                      else (
                                        if (x2 &&& 31) = 18 then (
                                          gi (v4 + 1) sL <|
                                          lt_ (sf (v4 + 1 : Int32).toNatClampNeg) fun x364 =>
                                          nn v1 fun a365 =>
                                          kd S a365 1 <|
                                          bd (f_M_seen S d a365 x364) fun x367 =>
                                          gi (v4 + 1) sL <|
                                          lt_ (sf (v4 + 1 : Int32).toNatClampNeg) fun x370 =>
                                          nn v2 fun a371 =>
                                          kd S a371 10 <|
                                          bdD (f_R_seen S d a371 x370) fun x373 d375 =>
                                          if (lg_cmp x367 x373) = 0 then (
                                            f_L_law_J1102 sL sf kb S d375 (some a365) (some a371) v3 v4)
                                          else (
                                            some ((0, S, d375), 0, 0)))
                                        else (
                                          f_L_law_J1102 sL sf kb S d v1 v2 v3 v4))))))))))))))))))))
set_option maxRecDepth 100000 in
set_option maxHeartbeats 4000000 in
theorem w_L_law_B23 {X : GX} (hE : gE X b_L_law 7 "StandInMillLaw" (some (.boolean)) "law" 11 426) {sL : Nat} {sf : Nat → Int32} {b : Nat} (hXs : va_X b sL sf (xs X) (xs X).heap) (hbl : b < (xs X).heap.size) (hbA : ¬ gA (xG X) b) (hX : gX (xG X) (xs X)) (htr : (xl X).stackTraces = false) (hZ : lw_end X) {S' : gS} {d' : gD} {mc ms : Nat} (hmc : mc ≤ (xR X).cells) (hms : ms ≤ (xR X).slots) {kb : gS → gD → Option Nat → Option Nat → Option Nat → Int32 → Option ((Int32 × gS × gD) × Nat × Nat)} (hkb : ∀ (cells slots dc ds : Nat) (S : gS) (d : gD) (v1 : Option Nat) (v2 : Option Nat) (v3 : Option Nat) (v4 : Int32), kb S d v1 v2 v3 v4 = some ((1, S', d'), dc, ds) → cells + dc = mc → slots + ds = ms → gw X cells slots (lw_Z (xb X) (xa X) (xs X)) S d 23 [some (va_rf (some b)), some (va_rf v1), some (va_rf v2), some (va_rf v3), some (.int v4), none, none] []) :
    ∀ (cells slots dc ds : Nat) (S : gS) (d : gD) (v1 : Option Nat) (v2 : Option Nat) (v3 : Option Nat) (v4 : Int32), f_L_law_B23 sL sf kb S d v1 v2 v3 v4 = some ((1, S', d'), dc, ds) → cells + dc = mc → slots + ds = ms → gw X cells slots (lw_Z (xb X) (xa X) (xs X)) S d 23 [some (va_rf (some b)), some (va_rf v1), some (va_rf v2), some (va_rf v3), some (.int v4), none, none] [] := by
  intro cells slots dc ds S d v1 v2 v3 v4 h hc hs
  unfold f_L_law_B23 at h
  refine g_iload (i := 4) hE d_L_law_23 rfl ?_
  refine g_aload_n (i := 0) hE d_L_law_25 rfl rfl ?_
  refine g_slen hE hXs hbl hbA d_L_law_26 ?_
  refine g_bipush hE d_L_law_27 kb_9 ?_
  refine g_isub hE d_L_law_29 ?_
  refine g_icmp_gt hE d_L_law_30 (fun c377 => ?_) (fun c377 => ?_)
  · replace h := if_t c377 h
    refine g_iconst hE d_L_law_1108 ki_1 ?_
    cases h
    exact hZ d_L_law_1109 (by omega) (by omega)
  · replace h := if_f c377 h
    refine g_aload_n (i := 0) hE d_L_law_33 rfl rfl ?_
    refine g_iload (i := 4) hE d_L_law_34 rfl ?_
    obtain ⟨g1, h⟩ := gi_s h
    refine g_sld hE hXs hbl hbA g1 d_L_law_36 (fun x2 e => ?_)
    replace h := lt_i e h; clear e
    refine g_bipush hE d_L_law_37 kb_31 ?_
    refine g_iand hE d_L_law_39 ?_
    refine s_L_law_40 hE (fun c3 => ?_) (fun c3 => ?_) (fun c3 => ?_) (fun c3 => ?_) (fun c3 => ?_) (fun c3 => ?_) (fun c3 => ?_) (fun c3 => ?_) (fun c3 => ?_) (fun c3 => ?_) (fun c3 => ?_) (fun c3 => ?_) (fun c3 => ?_) (fun c3 => ?_) (fun c3 => ?_) (fun c3 => ?_) (fun c3 => ?_) (fun c3 => ?_) (fun c3 => ?_) (fun c3_0 c3_1 c3_2 c3_3 c3_4 c3_5 c3_6 c3_7 c3_8 c3_9 c3_10 c3_11 c3_12 c3_13 c3_14 c3_15 c3_16 c3_17 c3_18 => ?_)
    · replace h := if_t c3 h
      refine g_aload_n (i := 1) hE d_L_law_132 rfl rfl ?_
      refine g_aload_n (i := 0) hE d_L_law_133 rfl rfl ?_
      refine g_iload (i := 4) hE d_L_law_134 rfl ?_
      refine g_iconst hE d_L_law_136 ki_1 ?_
      refine g_iadd hE d_L_law_137 ?_
      obtain ⟨g4, h⟩ := gi_s h
      refine g_sld hE hXs hbl hbA g4 d_L_law_138 (fun x5 e => ?_)
      replace h := lt_i e h; clear e
      obtain ⟨a6, rfl, h⟩ := nn_s h
      obtain ⟨k7, h⟩ := kd_s h
      obtain ⟨x8, d10, e9, h⟩ := bdD_s h
      refine g_callV (av := [.inr (.inr (some a6)), .inl x5]) (as := [.inl x5]) (stk := [.int x8]) [] hE (c_M_loader (xl X) (xG X) e9) ky_M_loader ⟨Nat.le_of_ble_eq_true rfl, Nat.le_of_ble_eq_true rfl⟩ rfl kc_M k7 m_542 m_543 m_544 rfl d_L_law_139 rfl rfl ct_0 (cnt_room0L hmc hc) (cnt_room0L hms hs) ?_
      refine gw.cs (c2 := cells) (s2 := slots) rfl rfl ?_
      refine g_aload_n (i := 2) hE d_L_law_142 rfl rfl ?_
      refine g_aload_n (i := 0) hE d_L_law_143 rfl rfl ?_
      refine g_iload (i := 4) hE d_L_law_144 rfl ?_
      refine g_iconst hE d_L_law_146 ki_1 ?_
      refine g_iadd hE d_L_law_147 ?_
      obtain ⟨g11, h⟩ := gi_s h
      refine g_sld hE hXs hbl hbA g11 d_L_law_148 (fun x12 e => ?_)
      replace h := lt_i e h; clear e
      obtain ⟨a13, rfl, h⟩ := nn_s h
      obtain ⟨k14, h⟩ := kd_s h
      obtain ⟨x15, d17, e16, h⟩ := bdD_s h
      refine g_callV (av := [.inr (.inr (some a13)), .inl x12]) (as := [.inl x12]) (stk := [.int x15, .int x8]) [.int x8] hE (c_R_loader (xl X) (xG X) e16) ky_R_loader ⟨Nat.le_of_ble_eq_true rfl, Nat.le_of_ble_eq_true rfl⟩ rfl kc_R k14 m_545 m_546 m_547 rfl d_L_law_149 rfl rfl (Nat.le_trans (ct_i ct_n) (Nat.le_of_ble_eq_true rfl)) (cnt_room0L hmc hc) (cnt_room0L hms hs) ?_
      refine gw.cs (c2 := cells) (s2 := slots) rfl rfl ?_
      refine g_icmp_eq hE d_L_law_152 (fun c18 => ?_) (fun c18 => ?_)
      · replace h := if_t c18 h
        exact gw.less (lv' := [some (va_rf (some b)), some (va_rf (some a6)), some (va_rf (some a13)), some (va_rf v3), some (.int v4), none, none]) (And.intro rfl (And.intro rfl (And.intro rfl (And.intro rfl (And.intro rfl trivial))))) (w_L_law_J1102 hE hXs hbl hbA hX htr hZ hmc hms hkb _ _ _ _ S d17 (some a6) (some a13) v3 v4 h hc hs)
      · replace h := if_f c18 h
        refine g_iconst hE d_L_law_155 ki_0 ?_
        exact absurd h (by simp)
    · replace h := if_f (by rw [c3]; decide) h
      replace h := if_t c3 h
      refine g_aload_n (i := 1) hE d_L_law_157 rfl rfl ?_
      refine g_aload_n (i := 0) hE d_L_law_158 rfl rfl ?_
      refine g_iload (i := 4) hE d_L_law_159 rfl ?_
      refine g_iconst hE d_L_law_161 ki_1 ?_
      refine g_iadd hE d_L_law_162 ?_
      obtain ⟨g19, h⟩ := gi_s h
      refine g_sld hE hXs hbl hbA g19 d_L_law_163 (fun x20 e => ?_)
      replace h := lt_i e h; clear e
      obtain ⟨a21, rfl, h⟩ := nn_s h
      obtain ⟨k22, h⟩ := kd_s h
      obtain ⟨x23, d25, e24, h⟩ := bdD_s h
      refine g_callV (av := [.inr (.inr (some a21)), .inl x20]) (as := [.inl x20]) (stk := [.int x23]) [] hE (c_M_type (xl X) (xG X) e24) ky_M_type ⟨Nat.le_of_ble_eq_true rfl, Nat.le_of_ble_eq_true rfl⟩ rfl kc_M k22 m_548 m_549 m_550 rfl d_L_law_164 rfl rfl ct_0 (cnt_room0L hmc hc) (cnt_room0L hms hs) ?_
      refine gw.cs (c2 := cells) (s2 := slots) rfl rfl ?_
      refine g_aload_n (i := 2) hE d_L_law_167 rfl rfl ?_
      refine g_aload_n (i := 0) hE d_L_law_168 rfl rfl ?_
      refine g_iload (i := 4) hE d_L_law_169 rfl ?_
      refine g_iconst hE d_L_law_171 ki_1 ?_
      refine g_iadd hE d_L_law_172 ?_
      obtain ⟨g26, h⟩ := gi_s h
      refine g_sld hE hXs hbl hbA g26 d_L_law_173 (fun x27 e => ?_)
      replace h := lt_i e h; clear e
      obtain ⟨a28, rfl, h⟩ := nn_s h
      obtain ⟨k29, h⟩ := kd_s h
      obtain ⟨x30, d32, e31, h⟩ := bdD_s h
      refine g_callV (av := [.inr (.inr (some a28)), .inl x27]) (as := [.inl x27]) (stk := [.int x30, .int x23]) [.int x23] hE (c_R_type (xl X) (xG X) e31) ky_R_type ⟨Nat.le_of_ble_eq_true rfl, Nat.le_of_ble_eq_true rfl⟩ rfl kc_R k29 m_551 m_552 m_553 rfl d_L_law_174 rfl rfl (Nat.le_trans (ct_i ct_n) (Nat.le_of_ble_eq_true rfl)) (cnt_room0L hmc hc) (cnt_room0L hms hs) ?_
      refine gw.cs (c2 := cells) (s2 := slots) rfl rfl ?_
      refine g_icmp_eq hE d_L_law_177 (fun c33 => ?_) (fun c33 => ?_)
      · replace h := if_t c33 h
        exact gw.less (lv' := [some (va_rf (some b)), some (va_rf (some a21)), some (va_rf (some a28)), some (va_rf v3), some (.int v4), none, none]) (And.intro rfl (And.intro rfl (And.intro rfl (And.intro rfl (And.intro rfl trivial))))) (w_L_law_J1102 hE hXs hbl hbA hX htr hZ hmc hms hkb _ _ _ _ S d32 (some a21) (some a28) v3 v4 h hc hs)
      · replace h := if_f c33 h
        refine g_iconst hE d_L_law_180 ki_0 ?_
        exact absurd h (by simp)
    · replace h := if_f (by rw [c3]; decide) h; replace h := if_f (by rw [c3]; decide) h
      replace h := if_t c3 h
      refine g_aload_n (i := 1) hE d_L_law_182 rfl rfl ?_
      refine g_aload_n (i := 0) hE d_L_law_183 rfl rfl ?_
      refine g_iload (i := 4) hE d_L_law_184 rfl ?_
      refine g_iconst hE d_L_law_186 ki_1 ?_
      refine g_iadd hE d_L_law_187 ?_
      obtain ⟨g34, h⟩ := gi_s h
      refine g_sld hE hXs hbl hbA g34 d_L_law_188 (fun x35 e => ?_)
      replace h := lt_i e h; clear e
      refine g_aload_n (i := 0) hE d_L_law_189 rfl rfl ?_
      refine g_iload (i := 4) hE d_L_law_190 rfl ?_
      refine g_iconst hE d_L_law_192 ki_2 ?_
      refine g_iadd hE d_L_law_193 ?_
      obtain ⟨g36, h⟩ := gi_s h
      refine g_sld hE hXs hbl hbA g36 d_L_law_194 (fun x37 e => ?_)
      replace h := lt_i e h; clear e
      refine g_aload_n (i := 0) hE d_L_law_195 rfl rfl ?_
      refine g_iload (i := 4) hE d_L_law_196 rfl ?_
      refine g_iconst hE d_L_law_198 ki_3 ?_
      refine g_iadd hE d_L_law_199 ?_
      obtain ⟨g38, h⟩ := gi_s h
      refine g_sld hE hXs hbl hbA g38 d_L_law_200 (fun x39 e => ?_)
      replace h := lt_i e h; clear e
      refine g_aload_n (i := 0) hE d_L_law_201 rfl rfl ?_
      refine g_iload (i := 4) hE d_L_law_202 rfl ?_
      refine g_iconst hE d_L_law_204 ki_4 ?_
      refine g_iadd hE d_L_law_205 ?_
      obtain ⟨g40, h⟩ := gi_s h
      refine g_sld hE hXs hbl hbA g40 d_L_law_206 (fun x41 e => ?_)
      replace h := lt_i e h; clear e
      refine g_if_eq hE d_L_law_207 (fun c42 => ?_) (fun c42 => ?_)
      · replace h := if_t c42 h
        refine g_iconst hE d_L_law_214 ki_0 ?_
        exact gw.less (lv' := [some (va_rf (some b)), some (va_rf v1), some (va_rf v2), some (va_rf v3), some (.int v4), none, none]) (And.intro rfl (And.intro rfl (And.intro rfl (And.intro rfl (And.intro rfl trivial))))) (w_L_law_J215 hE hXs hbl hbA hX htr hZ hmc hms hkb _ _ _ _ S d v1 v2 v3 v4 v1 x35 x37 x39 0 h hc hs)
      · replace h := if_f c42 h
        refine g_iconst hE d_L_law_210 ki_1 ?_
        refine g_goto hE d_L_law_211 ?_
        exact gw.less (lv' := [some (va_rf (some b)), some (va_rf v1), some (va_rf v2), some (va_rf v3), some (.int v4), none, none]) (And.intro rfl (And.intro rfl (And.intro rfl (And.intro rfl (And.intro rfl trivial))))) (w_L_law_J215 hE hXs hbl hbA hX htr hZ hmc hms hkb _ _ _ _ S d v1 v2 v3 v4 v1 x35 x37 x39 1 h hc hs)
    · replace h := if_f (by rw [c3]; decide) h; replace h := if_f (by rw [c3]; decide) h; replace h := if_f (by rw [c3]; decide) h
      replace h := if_t c3 h
      refine g_aload_n (i := 1) hE d_L_law_259 rfl rfl ?_
      refine g_aload_n (i := 0) hE d_L_law_260 rfl rfl ?_
      refine g_iload (i := 4) hE d_L_law_261 rfl ?_
      refine g_iconst hE d_L_law_263 ki_1 ?_
      refine g_iadd hE d_L_law_264 ?_
      obtain ⟨g43, h⟩ := gi_s h
      refine g_sld hE hXs hbl hbA g43 d_L_law_265 (fun x44 e => ?_)
      replace h := lt_i e h; clear e
      refine g_aload_n (i := 0) hE d_L_law_266 rfl rfl ?_
      refine g_iload (i := 4) hE d_L_law_267 rfl ?_
      refine g_iconst hE d_L_law_269 ki_2 ?_
      refine g_iadd hE d_L_law_270 ?_
      obtain ⟨g45, h⟩ := gi_s h
      refine g_sld hE hXs hbl hbA g45 d_L_law_271 (fun x46 e => ?_)
      replace h := lt_i e h; clear e
      obtain ⟨a47, rfl, h⟩ := nn_s h
      obtain ⟨k48, h⟩ := kd_s h
      obtain ⟨x49, d51, e50, h⟩ := bdD_s h
      refine g_callV (av := [.inr (.inr (some a47)), .inl x44, .inl x46]) (as := [.inl x44, .inl x46]) (stk := [.int x49]) [] hE (c_M_extend (xl X) (xG X) e50) ky_M_extend ⟨Nat.le_of_ble_eq_true rfl, Nat.le_of_ble_eq_true rfl⟩ rfl kc_M k48 m_560 m_561 m_562 rfl d_L_law_272 rfl rfl ct_0 (cnt_room0L hmc hc) (cnt_room0L hms hs) ?_
      refine gw.cs (c2 := cells) (s2 := slots) rfl rfl ?_
      refine g_aload_n (i := 2) hE d_L_law_275 rfl rfl ?_
      refine g_aload_n (i := 0) hE d_L_law_276 rfl rfl ?_
      refine g_iload (i := 4) hE d_L_law_277 rfl ?_
      refine g_iconst hE d_L_law_279 ki_1 ?_
      refine g_iadd hE d_L_law_280 ?_
      obtain ⟨g52, h⟩ := gi_s h
      refine g_sld hE hXs hbl hbA g52 d_L_law_281 (fun x53 e => ?_)
      replace h := lt_i e h; clear e
      refine g_aload_n (i := 0) hE d_L_law_282 rfl rfl ?_
      refine g_iload (i := 4) hE d_L_law_283 rfl ?_
      refine g_iconst hE d_L_law_285 ki_2 ?_
      refine g_iadd hE d_L_law_286 ?_
      obtain ⟨g54, h⟩ := gi_s h
      refine g_sld hE hXs hbl hbA g54 d_L_law_287 (fun x55 e => ?_)
      replace h := lt_i e h; clear e
      obtain ⟨a56, rfl, h⟩ := nn_s h
      obtain ⟨k57, h⟩ := kd_s h
      obtain ⟨x58, d60, e59, h⟩ := bdD_s h
      refine g_callV (av := [.inr (.inr (some a56)), .inl x53, .inl x55]) (as := [.inl x53, .inl x55]) (stk := [.int x58, .int x49]) [.int x49] hE (c_R_extend (xl X) (xG X) e59) ky_R_extend ⟨Nat.le_of_ble_eq_true rfl, Nat.le_of_ble_eq_true rfl⟩ rfl kc_R k57 m_563 m_564 m_565 rfl d_L_law_288 rfl rfl (Nat.le_trans (ct_i ct_n) (Nat.le_of_ble_eq_true rfl)) (cnt_room0L hmc hc) (cnt_room0L hms hs) ?_
      refine gw.cs (c2 := cells) (s2 := slots) rfl rfl ?_
      refine g_icmp_eq hE d_L_law_291 (fun c61 => ?_) (fun c61 => ?_)
      · replace h := if_t c61 h
        exact gw.less (lv' := [some (va_rf (some b)), some (va_rf (some a47)), some (va_rf (some a56)), some (va_rf v3), some (.int v4), none, none]) (And.intro rfl (And.intro rfl (And.intro rfl (And.intro rfl (And.intro rfl trivial))))) (w_L_law_J1102 hE hXs hbl hbA hX htr hZ hmc hms hkb _ _ _ _ S d60 (some a47) (some a56) v3 v4 h hc hs)
      · replace h := if_f c61 h
        refine g_iconst hE d_L_law_294 ki_0 ?_
        exact absurd h (by simp)
    · replace h := if_f (by rw [c3]; decide) h; replace h := if_f (by rw [c3]; decide) h; replace h := if_f (by rw [c3]; decide) h; replace h := if_f (by rw [c3]; decide) h
      replace h := if_t c3 h
      refine g_aload_n (i := 1) hE d_L_law_296 rfl rfl ?_
      refine g_aload_n (i := 0) hE d_L_law_297 rfl rfl ?_
      refine g_iload (i := 4) hE d_L_law_298 rfl ?_
      refine g_iconst hE d_L_law_300 ki_1 ?_
      refine g_iadd hE d_L_law_301 ?_
      obtain ⟨g62, h⟩ := gi_s h
      refine g_sld hE hXs hbl hbA g62 d_L_law_302 (fun x63 e => ?_)
      replace h := lt_i e h; clear e
      refine g_aload_n (i := 0) hE d_L_law_303 rfl rfl ?_
      refine g_iload (i := 4) hE d_L_law_304 rfl ?_
      refine g_iconst hE d_L_law_306 ki_2 ?_
      refine g_iadd hE d_L_law_307 ?_
      obtain ⟨g64, h⟩ := gi_s h
      refine g_sld hE hXs hbl hbA g64 d_L_law_308 (fun x65 e => ?_)
      replace h := lt_i e h; clear e
      refine g_aload_n (i := 0) hE d_L_law_309 rfl rfl ?_
      refine g_iload (i := 4) hE d_L_law_310 rfl ?_
      refine g_iconst hE d_L_law_312 ki_3 ?_
      refine g_iadd hE d_L_law_313 ?_
      obtain ⟨g66, h⟩ := gi_s h
      refine g_sld hE hXs hbl hbA g66 d_L_law_314 (fun x67 e => ?_)
      replace h := lt_i e h; clear e
      obtain ⟨a68, rfl, h⟩ := nn_s h
      obtain ⟨k69, h⟩ := kd_s h
      obtain ⟨x70, S72, d73, n74, n75, dc0, ds0, e71, h, hc0, hs0⟩ := bdA_s h
      refine g_callV (av := [.inr (.inr (some a68)), .inl x63, .inl x65, .inl x67]) (as := [.inl x63, .inl x65, .inl x67]) (stk := [.int x70]) [] hE (c_M_method (xl X) (xG X) e71) ky_M_method ⟨Nat.le_of_ble_eq_true rfl, Nat.le_of_ble_eq_true rfl⟩ rfl kc_M k69 m_566 m_567 m_568 rfl d_L_law_315 rfl rfl ct_0 (cnt_roomL hmc hc hc0) (cnt_roomL hms hs hs0) ?_
      refine gw.gen (fun c76 s77 ec es => ?_)
      replace hc := cnt_step hc hc0 ec; replace hs := cnt_step hs hs0 es; clear hc0 hs0 ec es
      refine g_aload_n (i := 2) hE d_L_law_318 rfl rfl ?_
      refine g_aload_n (i := 0) hE d_L_law_319 rfl rfl ?_
      refine g_iload (i := 4) hE d_L_law_320 rfl ?_
      refine g_iconst hE d_L_law_322 ki_1 ?_
      refine g_iadd hE d_L_law_323 ?_
      obtain ⟨g78, h⟩ := gi_s h
      refine g_sld hE hXs hbl hbA g78 d_L_law_324 (fun x79 e => ?_)
      replace h := lt_i e h; clear e
      refine g_aload_n (i := 0) hE d_L_law_325 rfl rfl ?_
      refine g_iload (i := 4) hE d_L_law_326 rfl ?_
      refine g_iconst hE d_L_law_328 ki_2 ?_
      refine g_iadd hE d_L_law_329 ?_
      obtain ⟨g80, h⟩ := gi_s h
      refine g_sld hE hXs hbl hbA g80 d_L_law_330 (fun x81 e => ?_)
      replace h := lt_i e h; clear e
      refine g_aload_n (i := 0) hE d_L_law_331 rfl rfl ?_
      refine g_iload (i := 4) hE d_L_law_332 rfl ?_
      refine g_iconst hE d_L_law_334 ki_3 ?_
      refine g_iadd hE d_L_law_335 ?_
      obtain ⟨g82, h⟩ := gi_s h
      refine g_sld hE hXs hbl hbA g82 d_L_law_336 (fun x83 e => ?_)
      replace h := lt_i e h; clear e
      obtain ⟨a84, rfl, h⟩ := nn_s h
      obtain ⟨k85, h⟩ := kd_s h
      obtain ⟨x86, d88, e87, h⟩ := bdD_s h
      refine g_callV (av := [.inr (.inr (some a84)), .inl x79, .inl x81, .inl x83]) (as := [.inl x79, .inl x81, .inl x83]) (stk := [.int x86, .int x70]) [.int x70] hE (c_R_method (xl X) (xG X) e87) ky_R_method ⟨Nat.le_of_ble_eq_true rfl, Nat.le_of_ble_eq_true rfl⟩ rfl kc_R k85 m_569 m_570 m_571 rfl d_L_law_337 rfl rfl (Nat.le_trans (ct_i ct_n) (Nat.le_of_ble_eq_true rfl)) (cnt_room0L hmc hc) (cnt_room0L hms hs) ?_
      refine gw.cs (c2 := c76) (s2 := s77) rfl rfl ?_
      refine g_icmp_eq hE d_L_law_340 (fun c89 => ?_) (fun c89 => ?_)
      · replace h := if_t c89 h
        exact gw.less (lv' := [some (va_rf (some b)), some (va_rf (some a68)), some (va_rf (some a84)), some (va_rf v3), some (.int v4), none, none]) (And.intro rfl (And.intro rfl (And.intro rfl (And.intro rfl (And.intro rfl trivial))))) (w_L_law_J1102 hE hXs hbl hbA hX htr hZ hmc hms hkb _ _ _ _ S72 d88 (some a68) (some a84) v3 v4 h hc hs)
      · replace h := if_f c89 h
        refine g_iconst hE d_L_law_343 ki_0 ?_
        exact absurd h (by simp)
    · replace h := if_f (by rw [c3]; decide) h; replace h := if_f (by rw [c3]; decide) h; replace h := if_f (by rw [c3]; decide) h; replace h := if_f (by rw [c3]; decide) h; replace h := if_f (by rw [c3]; decide) h
      replace h := if_t c3 h
      refine g_aload_n (i := 1) hE d_L_law_345 rfl rfl ?_
      refine g_aload_n (i := 0) hE d_L_law_346 rfl rfl ?_
      refine g_iload (i := 4) hE d_L_law_347 rfl ?_
      refine g_iconst hE d_L_law_349 ki_1 ?_
      refine g_iadd hE d_L_law_350 ?_
      obtain ⟨g90, h⟩ := gi_s h
      refine g_sld hE hXs hbl hbA g90 d_L_law_351 (fun x91 e => ?_)
      replace h := lt_i e h; clear e
      refine g_aload_n (i := 0) hE d_L_law_352 rfl rfl ?_
      refine g_iload (i := 4) hE d_L_law_353 rfl ?_
      refine g_iconst hE d_L_law_355 ki_2 ?_
      refine g_iadd hE d_L_law_356 ?_
      obtain ⟨g92, h⟩ := gi_s h
      refine g_sld hE hXs hbl hbA g92 d_L_law_357 (fun x93 e => ?_)
      replace h := lt_i e h; clear e
      refine g_aload_n (i := 0) hE d_L_law_358 rfl rfl ?_
      refine g_iload (i := 4) hE d_L_law_359 rfl ?_
      refine g_iconst hE d_L_law_361 ki_3 ?_
      refine g_iadd hE d_L_law_362 ?_
      obtain ⟨g94, h⟩ := gi_s h
      refine g_sld hE hXs hbl hbA g94 d_L_law_363 (fun x95 e => ?_)
      replace h := lt_i e h; clear e
      obtain ⟨a96, rfl, h⟩ := nn_s h
      obtain ⟨k97, h⟩ := kd_s h
      obtain ⟨x98, d100, e99, h⟩ := bdD_s h
      refine g_callV (av := [.inr (.inr (some a96)), .inl x91, .inl x93, .inl x95]) (as := [.inl x91, .inl x93, .inl x95]) (stk := [.int x98]) [] hE (c_M_throwing (xl X) (xG X) e99) ky_M_throwing ⟨Nat.le_of_ble_eq_true rfl, Nat.le_of_ble_eq_true rfl⟩ rfl kc_M k97 m_572 m_573 m_574 rfl d_L_law_364 rfl rfl ct_0 (cnt_room0L hmc hc) (cnt_room0L hms hs) ?_
      refine gw.cs (c2 := cells) (s2 := slots) rfl rfl ?_
      refine g_aload_n (i := 2) hE d_L_law_367 rfl rfl ?_
      refine g_aload_n (i := 0) hE d_L_law_368 rfl rfl ?_
      refine g_iload (i := 4) hE d_L_law_369 rfl ?_
      refine g_iconst hE d_L_law_371 ki_1 ?_
      refine g_iadd hE d_L_law_372 ?_
      obtain ⟨g101, h⟩ := gi_s h
      refine g_sld hE hXs hbl hbA g101 d_L_law_373 (fun x102 e => ?_)
      replace h := lt_i e h; clear e
      refine g_aload_n (i := 0) hE d_L_law_374 rfl rfl ?_
      refine g_iload (i := 4) hE d_L_law_375 rfl ?_
      refine g_iconst hE d_L_law_377 ki_2 ?_
      refine g_iadd hE d_L_law_378 ?_
      obtain ⟨g103, h⟩ := gi_s h
      refine g_sld hE hXs hbl hbA g103 d_L_law_379 (fun x104 e => ?_)
      replace h := lt_i e h; clear e
      refine g_aload_n (i := 0) hE d_L_law_380 rfl rfl ?_
      refine g_iload (i := 4) hE d_L_law_381 rfl ?_
      refine g_iconst hE d_L_law_383 ki_3 ?_
      refine g_iadd hE d_L_law_384 ?_
      obtain ⟨g105, h⟩ := gi_s h
      refine g_sld hE hXs hbl hbA g105 d_L_law_385 (fun x106 e => ?_)
      replace h := lt_i e h; clear e
      obtain ⟨a107, rfl, h⟩ := nn_s h
      obtain ⟨k108, h⟩ := kd_s h
      obtain ⟨x109, d111, e110, h⟩ := bdD_s h
      refine g_callV (av := [.inr (.inr (some a107)), .inl x102, .inl x104, .inl x106]) (as := [.inl x102, .inl x104, .inl x106]) (stk := [.int x109, .int x98]) [.int x98] hE (c_R_throwing (xl X) (xG X) e110) ky_R_throwing ⟨Nat.le_of_ble_eq_true rfl, Nat.le_of_ble_eq_true rfl⟩ rfl kc_R k108 m_575 m_576 m_577 rfl d_L_law_386 rfl rfl (Nat.le_trans (ct_i ct_n) (Nat.le_of_ble_eq_true rfl)) (cnt_room0L hmc hc) (cnt_room0L hms hs) ?_
      refine gw.cs (c2 := cells) (s2 := slots) rfl rfl ?_
      refine g_icmp_eq hE d_L_law_389 (fun c112 => ?_) (fun c112 => ?_)
      · replace h := if_t c112 h
        exact gw.less (lv' := [some (va_rf (some b)), some (va_rf (some a96)), some (va_rf (some a107)), some (va_rf v3), some (.int v4), none, none]) (And.intro rfl (And.intro rfl (And.intro rfl (And.intro rfl (And.intro rfl trivial))))) (w_L_law_J1102 hE hXs hbl hbA hX htr hZ hmc hms hkb _ _ _ _ S d111 (some a96) (some a107) v3 v4 h hc hs)
      · replace h := if_f c112 h
        refine g_iconst hE d_L_law_392 ki_0 ?_
        exact absurd h (by simp)
    · replace h := if_f (by rw [c3]; decide) h; replace h := if_f (by rw [c3]; decide) h; replace h := if_f (by rw [c3]; decide) h; replace h := if_f (by rw [c3]; decide) h; replace h := if_f (by rw [c3]; decide) h; replace h := if_f (by rw [c3]; decide) h
      replace h := if_t c3 h
      refine g_aload_n (i := 1) hE d_L_law_394 rfl rfl ?_
      refine g_aload_n (i := 0) hE d_L_law_395 rfl rfl ?_
      refine g_iload (i := 4) hE d_L_law_396 rfl ?_
      refine g_iconst hE d_L_law_398 ki_1 ?_
      refine g_iadd hE d_L_law_399 ?_
      obtain ⟨g113, h⟩ := gi_s h
      refine g_sld hE hXs hbl hbA g113 d_L_law_400 (fun x114 e => ?_)
      replace h := lt_i e h; clear e
      refine g_aload_n (i := 0) hE d_L_law_401 rfl rfl ?_
      refine g_iload (i := 4) hE d_L_law_402 rfl ?_
      refine g_iconst hE d_L_law_404 ki_2 ?_
      refine g_iadd hE d_L_law_405 ?_
      obtain ⟨g115, h⟩ := gi_s h
      refine g_sld hE hXs hbl hbA g115 d_L_law_406 (fun x116 e => ?_)
      replace h := lt_i e h; clear e
      refine g_i2l hE d_L_law_407 ?_
      refine g_bipush hE d_L_law_408 kb_32 ?_
      refine g_lshl hE d_L_law_410 ?_
      refine g_aload_n (i := 0) hE d_L_law_411 rfl rfl ?_
      refine g_iload (i := 4) hE d_L_law_412 rfl ?_
      refine g_iconst hE d_L_law_414 ki_3 ?_
      refine g_iadd hE d_L_law_415 ?_
      obtain ⟨g117, h⟩ := gi_s h
      refine g_sld hE hXs hbl hbA g117 d_L_law_416 (fun x118 e => ?_)
      replace h := lt_i e h; clear e
      refine g_i2l hE d_L_law_417 ?_
      refine g_ldc2 hE d_L_law_418 m_578 ?_
      refine g_land hE d_L_law_421 ?_
      refine g_lor hE d_L_law_422 ?_
      obtain ⟨a119, rfl, h⟩ := nn_s h
      obtain ⟨k120, h⟩ := kd_s h
      obtain ⟨x121, d123, e122, h⟩ := bdD_s h
      refine g_callV (av := [.inr (.inr (some a119)), .inl x114, .inr (.inl (((Int32.toInt64 x116) <<< (Int32.toInt64 32 &&& 63)) ||| ((Int32.toInt64 x118) &&& 4294967295)))]) (as := [.inl x114, .inr (.inl (((Int32.toInt64 x116) <<< (Int32.toInt64 32 &&& 63)) ||| ((Int32.toInt64 x118) &&& 4294967295)))]) (stk := [.int x121]) [] hE (c_M_object (xl X) (xG X) e122) ky_M_object ⟨Nat.le_of_ble_eq_true rfl, Nat.le_of_ble_eq_true rfl⟩ rfl kc_M k120 m_579 m_580 m_581 rfl d_L_law_423 rfl rfl ct_0 (cnt_room0L hmc hc) (cnt_room0L hms hs) ?_
      refine gw.cs (c2 := cells) (s2 := slots) rfl rfl ?_
      refine g_aload_n (i := 2) hE d_L_law_426 rfl rfl ?_
      refine g_aload_n (i := 0) hE d_L_law_427 rfl rfl ?_
      refine g_iload (i := 4) hE d_L_law_428 rfl ?_
      refine g_iconst hE d_L_law_430 ki_1 ?_
      refine g_iadd hE d_L_law_431 ?_
      obtain ⟨g124, h⟩ := gi_s h
      refine g_sld hE hXs hbl hbA g124 d_L_law_432 (fun x125 e => ?_)
      replace h := lt_i e h; clear e
      refine g_aload_n (i := 0) hE d_L_law_433 rfl rfl ?_
      refine g_iload (i := 4) hE d_L_law_434 rfl ?_
      refine g_iconst hE d_L_law_436 ki_2 ?_
      refine g_iadd hE d_L_law_437 ?_
      obtain ⟨g126, h⟩ := gi_s h
      refine g_sld hE hXs hbl hbA g126 d_L_law_438 (fun x127 e => ?_)
      replace h := lt_i e h; clear e
      refine g_i2l hE d_L_law_439 ?_
      refine g_bipush hE d_L_law_440 kb_32 ?_
      refine g_lshl hE d_L_law_442 ?_
      refine g_aload_n (i := 0) hE d_L_law_443 rfl rfl ?_
      refine g_iload (i := 4) hE d_L_law_444 rfl ?_
      refine g_iconst hE d_L_law_446 ki_3 ?_
      refine g_iadd hE d_L_law_447 ?_
      obtain ⟨g128, h⟩ := gi_s h
      refine g_sld hE hXs hbl hbA g128 d_L_law_448 (fun x129 e => ?_)
      replace h := lt_i e h; clear e
      refine g_i2l hE d_L_law_449 ?_
      refine g_ldc2 hE d_L_law_450 m_578 ?_
      refine g_land hE d_L_law_453 ?_
      refine g_lor hE d_L_law_454 ?_
      obtain ⟨a130, rfl, h⟩ := nn_s h
      obtain ⟨k131, h⟩ := kd_s h
      obtain ⟨x132, d134, e133, h⟩ := bdD_s h
      refine g_callV (av := [.inr (.inr (some a130)), .inl x125, .inr (.inl (((Int32.toInt64 x127) <<< (Int32.toInt64 32 &&& 63)) ||| ((Int32.toInt64 x129) &&& 4294967295)))]) (as := [.inl x125, .inr (.inl (((Int32.toInt64 x127) <<< (Int32.toInt64 32 &&& 63)) ||| ((Int32.toInt64 x129) &&& 4294967295)))]) (stk := [.int x132, .int x121]) [.int x121] hE (c_R_object (xl X) (xG X) e133) ky_R_object ⟨Nat.le_of_ble_eq_true rfl, Nat.le_of_ble_eq_true rfl⟩ rfl kc_R k131 m_582 m_583 m_584 rfl d_L_law_455 rfl rfl (Nat.le_trans (ct_i ct_n) (Nat.le_of_ble_eq_true rfl)) (cnt_room0L hmc hc) (cnt_room0L hms hs) ?_
      refine gw.cs (c2 := cells) (s2 := slots) rfl rfl ?_
      refine g_icmp_eq hE d_L_law_458 (fun c135 => ?_) (fun c135 => ?_)
      · replace h := if_t c135 h
        exact gw.less (lv' := [some (va_rf (some b)), some (va_rf (some a119)), some (va_rf (some a130)), some (va_rf v3), some (.int v4), none, none]) (And.intro rfl (And.intro rfl (And.intro rfl (And.intro rfl (And.intro rfl trivial))))) (w_L_law_J1102 hE hXs hbl hbA hX htr hZ hmc hms hkb _ _ _ _ S d134 (some a119) (some a130) v3 v4 h hc hs)
      · replace h := if_f c135 h
        refine g_iconst hE d_L_law_461 ki_0 ?_
        exact absurd h (by simp)
    · replace h := if_f (by rw [c3]; decide) h; replace h := if_f (by rw [c3]; decide) h; replace h := if_f (by rw [c3]; decide) h; replace h := if_f (by rw [c3]; decide) h; replace h := if_f (by rw [c3]; decide) h; replace h := if_f (by rw [c3]; decide) h; replace h := if_f (by rw [c3]; decide) h
      replace h := if_t c3 h
      refine g_aload_n (i := 1) hE d_L_law_463 rfl rfl ?_
      refine g_aload_n (i := 0) hE d_L_law_464 rfl rfl ?_
      refine g_iload (i := 4) hE d_L_law_465 rfl ?_
      refine g_iconst hE d_L_law_467 ki_1 ?_
      refine g_iadd hE d_L_law_468 ?_
      obtain ⟨g136, h⟩ := gi_s h
      refine g_sld hE hXs hbl hbA g136 d_L_law_469 (fun x137 e => ?_)
      replace h := lt_i e h; clear e
      refine g_aload_n (i := 0) hE d_L_law_470 rfl rfl ?_
      refine g_iload (i := 4) hE d_L_law_471 rfl ?_
      refine g_iconst hE d_L_law_473 ki_2 ?_
      refine g_iadd hE d_L_law_474 ?_
      obtain ⟨g138, h⟩ := gi_s h
      refine g_sld hE hXs hbl hbA g138 d_L_law_475 (fun x139 e => ?_)
      replace h := lt_i e h; clear e
      obtain ⟨a140, rfl, h⟩ := nn_s h
      obtain ⟨k141, h⟩ := kd_s h
      obtain ⟨x142, e143, h⟩ := bd_s h
      refine g_callV (av := [.inr (.inr (some a140)), .inl x137, .inl x139]) (as := [.inl x137, .inl x139]) (stk := [.long x142]) [] hE (c_M_value (xl X) (xG X) e143) ky_M_value ⟨Nat.le_of_ble_eq_true rfl, Nat.le_of_ble_eq_true rfl⟩ rfl kc_M k141 m_585 m_586 m_587 rfl d_L_law_476 rfl rfl ct_0 (cnt_room0L hmc hc) (cnt_room0L hms hs) ?_
      refine gw.cs (c2 := cells) (s2 := slots) rfl rfl ?_
      refine g_aload_n (i := 2) hE d_L_law_479 rfl rfl ?_
      refine g_aload_n (i := 0) hE d_L_law_480 rfl rfl ?_
      refine g_iload (i := 4) hE d_L_law_481 rfl ?_
      refine g_iconst hE d_L_law_483 ki_1 ?_
      refine g_iadd hE d_L_law_484 ?_
      obtain ⟨g144, h⟩ := gi_s h
      refine g_sld hE hXs hbl hbA g144 d_L_law_485 (fun x145 e => ?_)
      replace h := lt_i e h; clear e
      refine g_aload_n (i := 0) hE d_L_law_486 rfl rfl ?_
      refine g_iload (i := 4) hE d_L_law_487 rfl ?_
      refine g_iconst hE d_L_law_489 ki_2 ?_
      refine g_iadd hE d_L_law_490 ?_
      obtain ⟨g146, h⟩ := gi_s h
      refine g_sld hE hXs hbl hbA g146 d_L_law_491 (fun x147 e => ?_)
      replace h := lt_i e h; clear e
      obtain ⟨a148, rfl, h⟩ := nn_s h
      obtain ⟨k149, h⟩ := kd_s h
      obtain ⟨x150, d152, e151, h⟩ := bdD_s h
      refine g_callV (av := [.inr (.inr (some a148)), .inl x145, .inl x147]) (as := [.inl x145, .inl x147]) (stk := [.long x150, .long x142]) [.long x142] hE (c_R_value (xl X) (xG X) e151) ky_R_value ⟨Nat.le_of_ble_eq_true rfl, Nat.le_of_ble_eq_true rfl⟩ rfl kc_R k149 m_588 m_589 m_590 rfl d_L_law_492 rfl rfl (Nat.le_trans (ct_l ct_n) (Nat.le_of_ble_eq_true rfl)) (cnt_room0L hmc hc) (cnt_room0L hms hs) ?_
      refine gw.cs (c2 := cells) (s2 := slots) rfl rfl ?_
      refine g_lcmp hE d_L_law_495 ?_
      refine g_if_eq hE d_L_law_496 (fun c153 => ?_) (fun c153 => ?_)
      · replace h := if_t c153 h
        exact gw.less (lv' := [some (va_rf (some b)), some (va_rf (some a140)), some (va_rf (some a148)), some (va_rf v3), some (.int v4), none, none]) (And.intro rfl (And.intro rfl (And.intro rfl (And.intro rfl (And.intro rfl trivial))))) (w_L_law_J1102 hE hXs hbl hbA hX htr hZ hmc hms hkb _ _ _ _ S d152 (some a140) (some a148) v3 v4 h hc hs)
      · replace h := if_f c153 h
        refine g_iconst hE d_L_law_499 ki_0 ?_
        exact absurd h (by simp)
    · replace h := if_f (by rw [c3]; decide) h; replace h := if_f (by rw [c3]; decide) h; replace h := if_f (by rw [c3]; decide) h; replace h := if_f (by rw [c3]; decide) h; replace h := if_f (by rw [c3]; decide) h; replace h := if_f (by rw [c3]; decide) h; replace h := if_f (by rw [c3]; decide) h; replace h := if_f (by rw [c3]; decide) h
      replace h := if_t c3 h
      refine g_aload_n (i := 1) hE d_L_law_501 rfl rfl ?_
      refine g_aload_n (i := 0) hE d_L_law_502 rfl rfl ?_
      refine g_iload (i := 4) hE d_L_law_503 rfl ?_
      refine g_iconst hE d_L_law_505 ki_1 ?_
      refine g_iadd hE d_L_law_506 ?_
      obtain ⟨g154, h⟩ := gi_s h
      refine g_sld hE hXs hbl hbA g154 d_L_law_507 (fun x155 e => ?_)
      replace h := lt_i e h; clear e
      refine g_aload_n (i := 0) hE d_L_law_508 rfl rfl ?_
      refine g_iload (i := 4) hE d_L_law_509 rfl ?_
      refine g_iconst hE d_L_law_511 ki_2 ?_
      refine g_iadd hE d_L_law_512 ?_
      obtain ⟨g156, h⟩ := gi_s h
      refine g_sld hE hXs hbl hbA g156 d_L_law_513 (fun x157 e => ?_)
      replace h := lt_i e h; clear e
      obtain ⟨a158, rfl, h⟩ := nn_s h
      obtain ⟨k159, h⟩ := kd_s h
      obtain ⟨x160, e161, h⟩ := bd_s h
      refine g_callV (av := [.inr (.inr (some a158)), .inl x155, .inl x157]) (as := [.inl x155, .inl x157]) (stk := [.int x160]) [] hE (c_M_below (xl X) (xG X) e161) ky_M_below ⟨Nat.le_of_ble_eq_true rfl, Nat.le_of_ble_eq_true rfl⟩ rfl kc_M k159 m_591 m_592 m_593 rfl d_L_law_514 rfl rfl ct_0 (cnt_room0L hmc hc) (cnt_room0L hms hs) ?_
      refine gw.cs (c2 := cells) (s2 := slots) rfl rfl ?_
      refine g_aload_n (i := 2) hE d_L_law_517 rfl rfl ?_
      refine g_aload_n (i := 0) hE d_L_law_518 rfl rfl ?_
      refine g_iload (i := 4) hE d_L_law_519 rfl ?_
      refine g_iconst hE d_L_law_521 ki_1 ?_
      refine g_iadd hE d_L_law_522 ?_
      obtain ⟨g162, h⟩ := gi_s h
      refine g_sld hE hXs hbl hbA g162 d_L_law_523 (fun x163 e => ?_)
      replace h := lt_i e h; clear e
      refine g_aload_n (i := 0) hE d_L_law_524 rfl rfl ?_
      refine g_iload (i := 4) hE d_L_law_525 rfl ?_
      refine g_iconst hE d_L_law_527 ki_2 ?_
      refine g_iadd hE d_L_law_528 ?_
      obtain ⟨g164, h⟩ := gi_s h
      refine g_sld hE hXs hbl hbA g164 d_L_law_529 (fun x165 e => ?_)
      replace h := lt_i e h; clear e
      obtain ⟨a166, rfl, h⟩ := nn_s h
      obtain ⟨k167, h⟩ := kd_s h
      obtain ⟨x168, d170, e169, h⟩ := bdD_s h
      refine g_callV (av := [.inr (.inr (some a166)), .inl x163, .inl x165]) (as := [.inl x163, .inl x165]) (stk := [.int x168, .int x160]) [.int x160] hE (c_R_below (xl X) (xG X) e169) ky_R_below ⟨Nat.le_of_ble_eq_true rfl, Nat.le_of_ble_eq_true rfl⟩ rfl kc_R k167 m_594 m_595 m_596 rfl d_L_law_530 rfl rfl (Nat.le_trans (ct_i ct_n) (Nat.le_of_ble_eq_true rfl)) (cnt_room0L hmc hc) (cnt_room0L hms hs) ?_
      refine gw.cs (c2 := cells) (s2 := slots) rfl rfl ?_
      refine g_icmp_eq hE d_L_law_533 (fun c171 => ?_) (fun c171 => ?_)
      · replace h := if_t c171 h
        exact gw.less (lv' := [some (va_rf (some b)), some (va_rf (some a158)), some (va_rf (some a166)), some (va_rf v3), some (.int v4), none, none]) (And.intro rfl (And.intro rfl (And.intro rfl (And.intro rfl (And.intro rfl trivial))))) (w_L_law_J1102 hE hXs hbl hbA hX htr hZ hmc hms hkb _ _ _ _ S d170 (some a158) (some a166) v3 v4 h hc hs)
      · replace h := if_f c171 h
        refine g_iconst hE d_L_law_536 ki_0 ?_
        exact absurd h (by simp)
    · replace h := if_f (by rw [c3]; decide) h; replace h := if_f (by rw [c3]; decide) h; replace h := if_f (by rw [c3]; decide) h; replace h := if_f (by rw [c3]; decide) h; replace h := if_f (by rw [c3]; decide) h; replace h := if_f (by rw [c3]; decide) h; replace h := if_f (by rw [c3]; decide) h; replace h := if_f (by rw [c3]; decide) h; replace h := if_f (by rw [c3]; decide) h
      replace h := if_t c3 h
      refine g_aload_n (i := 1) hE d_L_law_538 rfl rfl ?_
      refine g_aload_n (i := 0) hE d_L_law_539 rfl rfl ?_
      refine g_iload (i := 4) hE d_L_law_540 rfl ?_
      refine g_iconst hE d_L_law_542 ki_1 ?_
      refine g_iadd hE d_L_law_543 ?_
      obtain ⟨g172, h⟩ := gi_s h
      refine g_sld hE hXs hbl hbA g172 d_L_law_544 (fun x173 e => ?_)
      replace h := lt_i e h; clear e
      refine g_aload_n (i := 0) hE d_L_law_545 rfl rfl ?_
      refine g_iload (i := 4) hE d_L_law_546 rfl ?_
      refine g_iconst hE d_L_law_548 ki_2 ?_
      refine g_iadd hE d_L_law_549 ?_
      obtain ⟨g174, h⟩ := gi_s h
      refine g_sld hE hXs hbl hbA g174 d_L_law_550 (fun x175 e => ?_)
      replace h := lt_i e h; clear e
      refine g_aload_n (i := 0) hE d_L_law_551 rfl rfl ?_
      refine g_iload (i := 4) hE d_L_law_552 rfl ?_
      refine g_iconst hE d_L_law_554 ki_3 ?_
      refine g_iadd hE d_L_law_555 ?_
      obtain ⟨g176, h⟩ := gi_s h
      refine g_sld hE hXs hbl hbA g176 d_L_law_556 (fun x177 e => ?_)
      replace h := lt_i e h; clear e
      obtain ⟨a178, rfl, h⟩ := nn_s h
      obtain ⟨k179, h⟩ := kd_s h
      obtain ⟨x180, e181, h⟩ := bd_s h
      refine g_callV (av := [.inr (.inr (some a178)), .inl x173, .inl x175, .inl x177]) (as := [.inl x173, .inl x175, .inl x177]) (stk := [.int x180]) [] hE (c_M_find (xl X) (xG X) e181) ky_M_find ⟨Nat.le_of_ble_eq_true rfl, Nat.le_of_ble_eq_true rfl⟩ rfl kc_M k179 m_597 m_598 m_599 rfl d_L_law_557 rfl rfl ct_0 (cnt_room0L hmc hc) (cnt_room0L hms hs) ?_
      refine gw.cs (c2 := cells) (s2 := slots) rfl rfl ?_
      refine g_aload_n (i := 2) hE d_L_law_560 rfl rfl ?_
      refine g_aload_n (i := 0) hE d_L_law_561 rfl rfl ?_
      refine g_iload (i := 4) hE d_L_law_562 rfl ?_
      refine g_iconst hE d_L_law_564 ki_1 ?_
      refine g_iadd hE d_L_law_565 ?_
      obtain ⟨g182, h⟩ := gi_s h
      refine g_sld hE hXs hbl hbA g182 d_L_law_566 (fun x183 e => ?_)
      replace h := lt_i e h; clear e
      refine g_aload_n (i := 0) hE d_L_law_567 rfl rfl ?_
      refine g_iload (i := 4) hE d_L_law_568 rfl ?_
      refine g_iconst hE d_L_law_570 ki_2 ?_
      refine g_iadd hE d_L_law_571 ?_
      obtain ⟨g184, h⟩ := gi_s h
      refine g_sld hE hXs hbl hbA g184 d_L_law_572 (fun x185 e => ?_)
      replace h := lt_i e h; clear e
      refine g_aload_n (i := 0) hE d_L_law_573 rfl rfl ?_
      refine g_iload (i := 4) hE d_L_law_574 rfl ?_
      refine g_iconst hE d_L_law_576 ki_3 ?_
      refine g_iadd hE d_L_law_577 ?_
      obtain ⟨g186, h⟩ := gi_s h
      refine g_sld hE hXs hbl hbA g186 d_L_law_578 (fun x187 e => ?_)
      replace h := lt_i e h; clear e
      obtain ⟨a188, rfl, h⟩ := nn_s h
      obtain ⟨k189, h⟩ := kd_s h
      obtain ⟨x190, d192, e191, h⟩ := bdD_s h
      refine g_callV (av := [.inr (.inr (some a188)), .inl x183, .inl x185, .inl x187]) (as := [.inl x183, .inl x185, .inl x187]) (stk := [.int x190, .int x180]) [.int x180] hE (c_R_find (xl X) (xG X) e191) ky_R_find ⟨Nat.le_of_ble_eq_true rfl, Nat.le_of_ble_eq_true rfl⟩ rfl kc_R k189 m_600 m_601 m_602 rfl d_L_law_579 rfl rfl (Nat.le_trans (ct_i ct_n) (Nat.le_of_ble_eq_true rfl)) (cnt_room0L hmc hc) (cnt_room0L hms hs) ?_
      refine gw.cs (c2 := cells) (s2 := slots) rfl rfl ?_
      refine g_icmp_eq hE d_L_law_582 (fun c193 => ?_) (fun c193 => ?_)
      · replace h := if_t c193 h
        exact gw.less (lv' := [some (va_rf (some b)), some (va_rf (some a178)), some (va_rf (some a188)), some (va_rf v3), some (.int v4), none, none]) (And.intro rfl (And.intro rfl (And.intro rfl (And.intro rfl (And.intro rfl trivial))))) (w_L_law_J1102 hE hXs hbl hbA hX htr hZ hmc hms hkb _ _ _ _ S d192 (some a178) (some a188) v3 v4 h hc hs)
      · replace h := if_f c193 h
        refine g_iconst hE d_L_law_585 ki_0 ?_
        exact absurd h (by simp)
    · replace h := if_f (by rw [c3]; decide) h; replace h := if_f (by rw [c3]; decide) h; replace h := if_f (by rw [c3]; decide) h; replace h := if_f (by rw [c3]; decide) h; replace h := if_f (by rw [c3]; decide) h; replace h := if_f (by rw [c3]; decide) h; replace h := if_f (by rw [c3]; decide) h; replace h := if_f (by rw [c3]; decide) h; replace h := if_f (by rw [c3]; decide) h; replace h := if_f (by rw [c3]; decide) h
      replace h := if_t c3 h
      refine g_aload_n (i := 1) hE d_L_law_587 rfl rfl ?_
      refine g_aload_n (i := 0) hE d_L_law_588 rfl rfl ?_
      refine g_iload (i := 4) hE d_L_law_589 rfl ?_
      refine g_iconst hE d_L_law_591 ki_1 ?_
      refine g_iadd hE d_L_law_592 ?_
      obtain ⟨g194, h⟩ := gi_s h
      refine g_sld hE hXs hbl hbA g194 d_L_law_593 (fun x195 e => ?_)
      replace h := lt_i e h; clear e
      refine g_aload_n (i := 0) hE d_L_law_594 rfl rfl ?_
      refine g_iload (i := 4) hE d_L_law_595 rfl ?_
      refine g_iconst hE d_L_law_597 ki_2 ?_
      refine g_iadd hE d_L_law_598 ?_
      obtain ⟨g196, h⟩ := gi_s h
      refine g_sld hE hXs hbl hbA g196 d_L_law_599 (fun x197 e => ?_)
      replace h := lt_i e h; clear e
      refine g_aload_n (i := 3) hE d_L_law_600 rfl rfl ?_
      obtain ⟨x198, S200, d201, n202, n203, dc0, ds0, e199, h, hc0, hs0⟩ := bdA_s h
      refine g_callSW (av := [.inr (.inr v1), .inl x195, .inl x197, .inr (.inr v3)]) (np := 4) (stk := [.int x198]) [] hE hX (c_L_stand (xl X) (xG X) htr e199) m_524 m_526 ⟨by decide, by decide, by decide +kernel⟩ ⟨Nat.le_of_ble_eq_true rfl, Nat.le_of_ble_eq_true rfl⟩ m_603 m_525 rfl d_L_law_601 rfl rfl ct_0 (cnt_roomL hmc hc hc0) (cnt_roomL hms hs hs0) ?_
      refine gw.gen (fun c204 s205 ec es => ?_)
      replace hc := cnt_step hc hc0 ec; replace hs := cnt_step hs hs0 es; clear hc0 hs0 ec es
      refine g_istore (i := 5) (lv' := [some (va_rf (some b)), some (va_rf v1), some (va_rf v2), some (va_rf v3), some (.int v4), some (.int x198), none]) hE d_L_law_604 (Nat.le_of_ble_eq_true rfl) ⟨rfl, Nat.le_of_ble_eq_true rfl⟩ (lvp_i rfl) ?_
      refine g_aload_n (i := 2) hE d_L_law_606 rfl rfl ?_
      refine g_aload_n (i := 0) hE d_L_law_607 rfl rfl ?_
      refine g_iload (i := 4) hE d_L_law_608 rfl ?_
      refine g_iconst hE d_L_law_610 ki_1 ?_
      refine g_iadd hE d_L_law_611 ?_
      obtain ⟨g206, h⟩ := gi_s h
      refine g_sld hE hXs hbl hbA g206 d_L_law_612 (fun x207 e => ?_)
      replace h := lt_i e h; clear e
      refine g_aload_n (i := 0) hE d_L_law_613 rfl rfl ?_
      refine g_iload (i := 4) hE d_L_law_614 rfl ?_
      refine g_iconst hE d_L_law_616 ki_2 ?_
      refine g_iadd hE d_L_law_617 ?_
      obtain ⟨g208, h⟩ := gi_s h
      refine g_sld hE hXs hbl hbA g208 d_L_law_618 (fun x209 e => ?_)
      replace h := lt_i e h; clear e
      obtain ⟨a210, rfl, h⟩ := nn_s h
      obtain ⟨k211, h⟩ := kd_s h
      obtain ⟨x212, d214, e213, h⟩ := bdD_s h
      refine g_callV (av := [.inr (.inr (some a210)), .inl x207, .inl x209]) (as := [.inl x207, .inl x209]) (stk := [.int x212]) [] hE (c_R_stand (xl X) (xG X) e213) ky_R_stand ⟨Nat.le_of_ble_eq_true rfl, Nat.le_of_ble_eq_true rfl⟩ rfl kc_R k211 m_604 m_605 m_606 rfl d_L_law_619 rfl rfl ct_0 (cnt_room0L hmc hc) (cnt_room0L hms hs) ?_
      refine gw.cs (c2 := c204) (s2 := s205) rfl rfl ?_
      refine g_istore (i := 6) (lv' := [some (va_rf (some b)), some (va_rf v1), some (va_rf (some a210)), some (va_rf v3), some (.int v4), some (.int x198), some (.int x212)]) hE d_L_law_622 (Nat.le_of_ble_eq_true rfl) ⟨rfl, Nat.le_of_ble_eq_true rfl⟩ (lvp_i rfl) ?_
      refine g_aload_n (i := 2) hE d_L_law_624 rfl rfl ?_
      obtain ⟨x215, e216, h⟩ := bd_s h
      refine g_callV (av := [.inr (.inr (some a210))]) (as := []) (stk := [.int x215]) [] hE (c_R_thrown (xl X) (xG X) e216) ky_R_thrown ⟨Nat.le_of_ble_eq_true rfl, Nat.le_of_ble_eq_true rfl⟩ rfl kc_R k211 m_607 m_608 m_609 rfl d_L_law_625 rfl rfl ct_0 (cnt_room0L hmc hc) (cnt_room0L hms hs) ?_
      refine gw.cs (c2 := c204) (s2 := s205) rfl rfl ?_
      refine g_iload (i := 5) hE d_L_law_628 rfl ?_
      refine g_icmp_eq hE d_L_law_630 (fun c223 => ?_) (fun c223 => ?_)
      · replace h := if_t c223 h
        refine g_iload (i := 5) hE d_L_law_635 rfl ?_
        refine g_if_ne hE d_L_law_637 (fun c222 => ?_) (fun c222 => ?_)
        · replace h := if_f c222 h
          exact gw.less (lv' := [some (va_rf (some b)), some (va_rf v1), some (va_rf (some a210)), some (va_rf v3), some (.int v4), none, none]) (And.intro rfl (And.intro rfl (And.intro rfl (And.intro rfl (And.intro rfl trivial))))) (w_L_law_J652 hE hXs hbl hbA hX htr hZ hmc hms hkb _ _ _ _ S200 d214 v1 (some a210) v3 v4 h hc hs)
        · replace h := if_t c222 h
          refine g_aload_n (i := 3) hE d_L_law_640 rfl rfl ?_
          refine g_iconst hE d_L_law_641 ki_0 ?_
          obtain ⟨a217, rfl, h⟩ := nn_s h
          obtain ⟨k218, h⟩ := kd_s h
          obtain ⟨g219, h⟩ := gi_s h
          refine g_lald hE k218 g219 d_L_law_642 (fun x220 e => ?_)
          replace h := lt_i e h; clear e
          refine g_iload (i := 6) hE d_L_law_643 rfl ?_
          refine g_i2l hE d_L_law_645 ?_
          refine g_lcmp hE d_L_law_646 ?_
          refine g_if_eq hE d_L_law_647 (fun c221 => ?_) (fun c221 => ?_)
          · replace h := if_t c221 h
            exact gw.less (lv' := [some (va_rf (some b)), some (va_rf v1), some (va_rf (some a210)), some (va_rf (some a217)), some (.int v4), none, none]) (And.intro rfl (And.intro rfl (And.intro rfl (And.intro rfl (And.intro rfl trivial))))) (w_L_law_J652 hE hXs hbl hbA hX htr hZ hmc hms hkb _ _ _ _ S200 d214 v1 (some a210) (some a217) v4 h hc hs)
          · replace h := if_f c221 h
            refine g_iconst hE d_L_law_650 ki_0 ?_
            exact absurd h (by simp)
      · replace h := if_f c223 h
        refine g_iconst hE d_L_law_633 ki_0 ?_
        exact absurd h (by simp)
    · replace h := if_f (by rw [c3]; decide) h; replace h := if_f (by rw [c3]; decide) h; replace h := if_f (by rw [c3]; decide) h; replace h := if_f (by rw [c3]; decide) h; replace h := if_f (by rw [c3]; decide) h; replace h := if_f (by rw [c3]; decide) h; replace h := if_f (by rw [c3]; decide) h; replace h := if_f (by rw [c3]; decide) h; replace h := if_f (by rw [c3]; decide) h; replace h := if_f (by rw [c3]; decide) h; replace h := if_f (by rw [c3]; decide) h
      replace h := if_t c3 h
      refine g_aload_n (i := 1) hE d_L_law_655 rfl rfl ?_
      obtain ⟨a224, rfl, h⟩ := nn_s h
      obtain ⟨k225, h⟩ := kd_s h
      obtain ⟨x226, e227, h⟩ := bd_s h
      refine g_callV (av := [.inr (.inr (some a224))]) (as := []) (stk := [.int x226]) [] hE (c_M_fault (xl X) (xG X) e227) ky_M_fault ⟨Nat.le_of_ble_eq_true rfl, Nat.le_of_ble_eq_true rfl⟩ rfl kc_M k225 m_610 m_611 m_612 rfl d_L_law_656 rfl rfl ct_0 (cnt_room0L hmc hc) (cnt_room0L hms hs) ?_
      refine gw.cs (c2 := cells) (s2 := slots) rfl rfl ?_
      refine g_aload_n (i := 2) hE d_L_law_659 rfl rfl ?_
      obtain ⟨a228, rfl, h⟩ := nn_s h
      obtain ⟨k229, h⟩ := kd_s h
      obtain ⟨x230, d232, e231, h⟩ := bdD_s h
      refine g_callV (av := [.inr (.inr (some a228))]) (as := []) (stk := [.int x230, .int x226]) [.int x226] hE (c_R_fault (xl X) (xG X) e231) ky_R_fault ⟨Nat.le_of_ble_eq_true rfl, Nat.le_of_ble_eq_true rfl⟩ rfl kc_R k229 m_613 m_614 m_615 rfl d_L_law_660 rfl rfl (Nat.le_trans (ct_i ct_n) (Nat.le_of_ble_eq_true rfl)) (cnt_room0L hmc hc) (cnt_room0L hms hs) ?_
      refine gw.cs (c2 := cells) (s2 := slots) rfl rfl ?_
      refine g_icmp_eq hE d_L_law_663 (fun c233 => ?_) (fun c233 => ?_)
      · replace h := if_t c233 h
        exact gw.less (lv' := [some (va_rf (some b)), some (va_rf (some a224)), some (va_rf (some a228)), some (va_rf v3), some (.int v4), none, none]) (And.intro rfl (And.intro rfl (And.intro rfl (And.intro rfl (And.intro rfl trivial))))) (w_L_law_J1102 hE hXs hbl hbA hX htr hZ hmc hms hkb _ _ _ _ S d232 (some a224) (some a228) v3 v4 h hc hs)
      · replace h := if_f c233 h
        refine g_iconst hE d_L_law_666 ki_0 ?_
        exact absurd h (by simp)
    · replace h := if_f (by rw [c3]; decide) h; replace h := if_f (by rw [c3]; decide) h; replace h := if_f (by rw [c3]; decide) h; replace h := if_f (by rw [c3]; decide) h; replace h := if_f (by rw [c3]; decide) h; replace h := if_f (by rw [c3]; decide) h; replace h := if_f (by rw [c3]; decide) h; replace h := if_f (by rw [c3]; decide) h; replace h := if_f (by rw [c3]; decide) h; replace h := if_f (by rw [c3]; decide) h; replace h := if_f (by rw [c3]; decide) h; replace h := if_f (by rw [c3]; decide) h
      replace h := if_t c3 h
      refine g_aload_n (i := 1) hE d_L_law_668 rfl rfl ?_
      refine g_aload_n (i := 0) hE d_L_law_669 rfl rfl ?_
      refine g_iload (i := 4) hE d_L_law_670 rfl ?_
      refine g_iconst hE d_L_law_672 ki_1 ?_
      refine g_iadd hE d_L_law_673 ?_
      obtain ⟨g234, h⟩ := gi_s h
      refine g_sld hE hXs hbl hbA g234 d_L_law_674 (fun x235 e => ?_)
      replace h := lt_i e h; clear e
      refine g_aload_n (i := 0) hE d_L_law_675 rfl rfl ?_
      refine g_iload (i := 4) hE d_L_law_676 rfl ?_
      refine g_iconst hE d_L_law_678 ki_2 ?_
      refine g_iadd hE d_L_law_679 ?_
      obtain ⟨g236, h⟩ := gi_s h
      refine g_sld hE hXs hbl hbA g236 d_L_law_680 (fun x237 e => ?_)
      replace h := lt_i e h; clear e
      obtain ⟨a238, rfl, h⟩ := nn_s h
      obtain ⟨k239, h⟩ := kd_s h
      obtain ⟨x240, e241, h⟩ := bd_s h
      refine g_callV (av := [.inr (.inr (some a238)), .inl x235, .inl x237]) (as := [.inl x235, .inl x237]) (stk := [.int x240]) [] hE (c_M_about (xl X) (xG X) e241) ky_M_about ⟨Nat.le_of_ble_eq_true rfl, Nat.le_of_ble_eq_true rfl⟩ rfl kc_M k239 m_616 m_617 m_618 rfl d_L_law_681 rfl rfl ct_0 (cnt_room0L hmc hc) (cnt_room0L hms hs) ?_
      refine gw.cs (c2 := cells) (s2 := slots) rfl rfl ?_
      refine g_aload_n (i := 2) hE d_L_law_684 rfl rfl ?_
      refine g_aload_n (i := 0) hE d_L_law_685 rfl rfl ?_
      refine g_iload (i := 4) hE d_L_law_686 rfl ?_
      refine g_iconst hE d_L_law_688 ki_1 ?_
      refine g_iadd hE d_L_law_689 ?_
      obtain ⟨g242, h⟩ := gi_s h
      refine g_sld hE hXs hbl hbA g242 d_L_law_690 (fun x243 e => ?_)
      replace h := lt_i e h; clear e
      refine g_aload_n (i := 0) hE d_L_law_691 rfl rfl ?_
      refine g_iload (i := 4) hE d_L_law_692 rfl ?_
      refine g_iconst hE d_L_law_694 ki_2 ?_
      refine g_iadd hE d_L_law_695 ?_
      obtain ⟨g244, h⟩ := gi_s h
      refine g_sld hE hXs hbl hbA g244 d_L_law_696 (fun x245 e => ?_)
      replace h := lt_i e h; clear e
      obtain ⟨a246, rfl, h⟩ := nn_s h
      obtain ⟨k247, h⟩ := kd_s h
      obtain ⟨x248, d250, e249, h⟩ := bdD_s h
      refine g_callV (av := [.inr (.inr (some a246)), .inl x243, .inl x245]) (as := [.inl x243, .inl x245]) (stk := [.int x248, .int x240]) [.int x240] hE (c_R_about (xl X) (xG X) e249) ky_R_about ⟨Nat.le_of_ble_eq_true rfl, Nat.le_of_ble_eq_true rfl⟩ rfl kc_R k247 m_619 m_620 m_621 rfl d_L_law_697 rfl rfl (Nat.le_trans (ct_i ct_n) (Nat.le_of_ble_eq_true rfl)) (cnt_room0L hmc hc) (cnt_room0L hms hs) ?_
      refine gw.cs (c2 := cells) (s2 := slots) rfl rfl ?_
      refine g_icmp_eq hE d_L_law_700 (fun c251 => ?_) (fun c251 => ?_)
      · replace h := if_t c251 h
        exact gw.less (lv' := [some (va_rf (some b)), some (va_rf (some a238)), some (va_rf (some a246)), some (va_rf v3), some (.int v4), none, none]) (And.intro rfl (And.intro rfl (And.intro rfl (And.intro rfl (And.intro rfl trivial))))) (w_L_law_J1102 hE hXs hbl hbA hX htr hZ hmc hms hkb _ _ _ _ S d250 (some a238) (some a246) v3 v4 h hc hs)
      · replace h := if_f c251 h
        refine g_iconst hE d_L_law_703 ki_0 ?_
        exact absurd h (by simp)
    · replace h := if_f (by rw [c3]; decide) h; replace h := if_f (by rw [c3]; decide) h; replace h := if_f (by rw [c3]; decide) h; replace h := if_f (by rw [c3]; decide) h; replace h := if_f (by rw [c3]; decide) h; replace h := if_f (by rw [c3]; decide) h; replace h := if_f (by rw [c3]; decide) h; replace h := if_f (by rw [c3]; decide) h; replace h := if_f (by rw [c3]; decide) h; replace h := if_f (by rw [c3]; decide) h; replace h := if_f (by rw [c3]; decide) h; replace h := if_f (by rw [c3]; decide) h; replace h := if_f (by rw [c3]; decide) h
      replace h := if_t c3 h
      refine g_aload_n (i := 1) hE d_L_law_705 rfl rfl ?_
      refine g_aload_n (i := 0) hE d_L_law_706 rfl rfl ?_
      refine g_iload (i := 4) hE d_L_law_707 rfl ?_
      refine g_iconst hE d_L_law_709 ki_1 ?_
      refine g_iadd hE d_L_law_710 ?_
      obtain ⟨g252, h⟩ := gi_s h
      refine g_sld hE hXs hbl hbA g252 d_L_law_711 (fun x253 e => ?_)
      replace h := lt_i e h; clear e
      refine g_aload_n (i := 0) hE d_L_law_712 rfl rfl ?_
      refine g_iload (i := 4) hE d_L_law_713 rfl ?_
      refine g_iconst hE d_L_law_715 ki_2 ?_
      refine g_iadd hE d_L_law_716 ?_
      obtain ⟨g254, h⟩ := gi_s h
      refine g_sld hE hXs hbl hbA g254 d_L_law_717 (fun x255 e => ?_)
      replace h := lt_i e h; clear e
      refine g_aload_n (i := 0) hE d_L_law_718 rfl rfl ?_
      refine g_iload (i := 4) hE d_L_law_719 rfl ?_
      refine g_iconst hE d_L_law_721 ki_3 ?_
      refine g_iadd hE d_L_law_722 ?_
      obtain ⟨g256, h⟩ := gi_s h
      refine g_sld hE hXs hbl hbA g256 d_L_law_723 (fun x257 e => ?_)
      replace h := lt_i e h; clear e
      obtain ⟨a258, rfl, h⟩ := nn_s h
      obtain ⟨k259, h⟩ := kd_s h
      obtain ⟨x260, e261, h⟩ := bd_s h
      refine g_callV (av := [.inr (.inr (some a258)), .inl x253, .inl x255, .inl x257]) (as := [.inl x253, .inl x255, .inl x257]) (stk := [.int x260]) [] hE (c_M_told (xl X) (xG X) e261) ky_M_told ⟨Nat.le_of_ble_eq_true rfl, Nat.le_of_ble_eq_true rfl⟩ rfl kc_M k259 m_622 m_623 m_624 rfl d_L_law_724 rfl rfl ct_0 (cnt_room0L hmc hc) (cnt_room0L hms hs) ?_
      refine gw.cs (c2 := cells) (s2 := slots) rfl rfl ?_
      refine g_aload_n (i := 2) hE d_L_law_727 rfl rfl ?_
      refine g_aload_n (i := 0) hE d_L_law_728 rfl rfl ?_
      refine g_iload (i := 4) hE d_L_law_729 rfl ?_
      refine g_iconst hE d_L_law_731 ki_1 ?_
      refine g_iadd hE d_L_law_732 ?_
      obtain ⟨g262, h⟩ := gi_s h
      refine g_sld hE hXs hbl hbA g262 d_L_law_733 (fun x263 e => ?_)
      replace h := lt_i e h; clear e
      refine g_aload_n (i := 0) hE d_L_law_734 rfl rfl ?_
      refine g_iload (i := 4) hE d_L_law_735 rfl ?_
      refine g_iconst hE d_L_law_737 ki_2 ?_
      refine g_iadd hE d_L_law_738 ?_
      obtain ⟨g264, h⟩ := gi_s h
      refine g_sld hE hXs hbl hbA g264 d_L_law_739 (fun x265 e => ?_)
      replace h := lt_i e h; clear e
      refine g_aload_n (i := 0) hE d_L_law_740 rfl rfl ?_
      refine g_iload (i := 4) hE d_L_law_741 rfl ?_
      refine g_iconst hE d_L_law_743 ki_3 ?_
      refine g_iadd hE d_L_law_744 ?_
      obtain ⟨g266, h⟩ := gi_s h
      refine g_sld hE hXs hbl hbA g266 d_L_law_745 (fun x267 e => ?_)
      replace h := lt_i e h; clear e
      obtain ⟨a268, rfl, h⟩ := nn_s h
      obtain ⟨k269, h⟩ := kd_s h
      obtain ⟨x270, d272, e271, h⟩ := bdD_s h
      refine g_callV (av := [.inr (.inr (some a268)), .inl x263, .inl x265, .inl x267]) (as := [.inl x263, .inl x265, .inl x267]) (stk := [.int x270, .int x260]) [.int x260] hE (c_R_told (xl X) (xG X) e271) ky_R_told ⟨Nat.le_of_ble_eq_true rfl, Nat.le_of_ble_eq_true rfl⟩ rfl kc_R k269 m_625 m_626 m_627 rfl d_L_law_746 rfl rfl (Nat.le_trans (ct_i ct_n) (Nat.le_of_ble_eq_true rfl)) (cnt_room0L hmc hc) (cnt_room0L hms hs) ?_
      refine gw.cs (c2 := cells) (s2 := slots) rfl rfl ?_
      refine g_icmp_eq hE d_L_law_749 (fun c273 => ?_) (fun c273 => ?_)
      · replace h := if_t c273 h
        exact gw.less (lv' := [some (va_rf (some b)), some (va_rf (some a258)), some (va_rf (some a268)), some (va_rf v3), some (.int v4), none, none]) (And.intro rfl (And.intro rfl (And.intro rfl (And.intro rfl (And.intro rfl trivial))))) (w_L_law_J1102 hE hXs hbl hbA hX htr hZ hmc hms hkb _ _ _ _ S d272 (some a258) (some a268) v3 v4 h hc hs)
      · replace h := if_f c273 h
        refine g_iconst hE d_L_law_752 ki_0 ?_
        exact absurd h (by simp)
    · replace h := if_f (by rw [c3]; decide) h; replace h := if_f (by rw [c3]; decide) h; replace h := if_f (by rw [c3]; decide) h; replace h := if_f (by rw [c3]; decide) h; replace h := if_f (by rw [c3]; decide) h; replace h := if_f (by rw [c3]; decide) h; replace h := if_f (by rw [c3]; decide) h; replace h := if_f (by rw [c3]; decide) h; replace h := if_f (by rw [c3]; decide) h; replace h := if_f (by rw [c3]; decide) h; replace h := if_f (by rw [c3]; decide) h; replace h := if_f (by rw [c3]; decide) h; replace h := if_f (by rw [c3]; decide) h; replace h := if_f (by rw [c3]; decide) h
      replace h := if_t c3 h
      refine g_aload_n (i := 1) hE d_L_law_754 rfl rfl ?_
      refine g_aload_n (i := 0) hE d_L_law_755 rfl rfl ?_
      refine g_iload (i := 4) hE d_L_law_756 rfl ?_
      refine g_iconst hE d_L_law_758 ki_1 ?_
      refine g_iadd hE d_L_law_759 ?_
      obtain ⟨g274, h⟩ := gi_s h
      refine g_sld hE hXs hbl hbA g274 d_L_law_760 (fun x275 e => ?_)
      replace h := lt_i e h; clear e
      refine g_aload_n (i := 0) hE d_L_law_761 rfl rfl ?_
      refine g_iload (i := 4) hE d_L_law_762 rfl ?_
      refine g_iconst hE d_L_law_764 ki_2 ?_
      refine g_iadd hE d_L_law_765 ?_
      obtain ⟨g276, h⟩ := gi_s h
      refine g_sld hE hXs hbl hbA g276 d_L_law_766 (fun x277 e => ?_)
      replace h := lt_i e h; clear e
      obtain ⟨a278, rfl, h⟩ := nn_s h
      obtain ⟨k279, h⟩ := kd_s h
      obtain ⟨x280, e281, h⟩ := bd_s h
      refine g_callV (av := [.inr (.inr (some a278)), .inl x275, .inl x277]) (as := [.inl x275, .inl x277]) (stk := [.int x280]) [] hE (c_M_octet (xl X) (xG X) e281) ky_M_octet ⟨Nat.le_of_ble_eq_true rfl, Nat.le_of_ble_eq_true rfl⟩ rfl kc_M k279 m_628 m_629 m_630 rfl d_L_law_767 rfl rfl ct_0 (cnt_room0L hmc hc) (cnt_room0L hms hs) ?_
      refine gw.cs (c2 := cells) (s2 := slots) rfl rfl ?_
      refine g_aload_n (i := 2) hE d_L_law_770 rfl rfl ?_
      refine g_aload_n (i := 0) hE d_L_law_771 rfl rfl ?_
      refine g_iload (i := 4) hE d_L_law_772 rfl ?_
      refine g_iconst hE d_L_law_774 ki_1 ?_
      refine g_iadd hE d_L_law_775 ?_
      obtain ⟨g282, h⟩ := gi_s h
      refine g_sld hE hXs hbl hbA g282 d_L_law_776 (fun x283 e => ?_)
      replace h := lt_i e h; clear e
      refine g_aload_n (i := 0) hE d_L_law_777 rfl rfl ?_
      refine g_iload (i := 4) hE d_L_law_778 rfl ?_
      refine g_iconst hE d_L_law_780 ki_2 ?_
      refine g_iadd hE d_L_law_781 ?_
      obtain ⟨g284, h⟩ := gi_s h
      refine g_sld hE hXs hbl hbA g284 d_L_law_782 (fun x285 e => ?_)
      replace h := lt_i e h; clear e
      obtain ⟨a286, rfl, h⟩ := nn_s h
      obtain ⟨k287, h⟩ := kd_s h
      obtain ⟨x288, d290, e289, h⟩ := bdD_s h
      refine g_callV (av := [.inr (.inr (some a286)), .inl x283, .inl x285]) (as := [.inl x283, .inl x285]) (stk := [.int x288, .int x280]) [.int x280] hE (c_R_octet (xl X) (xG X) e289) ky_R_octet ⟨Nat.le_of_ble_eq_true rfl, Nat.le_of_ble_eq_true rfl⟩ rfl kc_R k287 m_631 m_632 m_633 rfl d_L_law_783 rfl rfl (Nat.le_trans (ct_i ct_n) (Nat.le_of_ble_eq_true rfl)) (cnt_room0L hmc hc) (cnt_room0L hms hs) ?_
      refine gw.cs (c2 := cells) (s2 := slots) rfl rfl ?_
      refine g_icmp_eq hE d_L_law_786 (fun c291 => ?_) (fun c291 => ?_)
      · replace h := if_t c291 h
        exact gw.less (lv' := [some (va_rf (some b)), some (va_rf (some a278)), some (va_rf (some a286)), some (va_rf v3), some (.int v4), none, none]) (And.intro rfl (And.intro rfl (And.intro rfl (And.intro rfl (And.intro rfl trivial))))) (w_L_law_J1102 hE hXs hbl hbA hX htr hZ hmc hms hkb _ _ _ _ S d290 (some a278) (some a286) v3 v4 h hc hs)
      · replace h := if_f c291 h
        refine g_iconst hE d_L_law_789 ki_0 ?_
        exact absurd h (by simp)
    · replace h := if_f (by rw [c3]; decide) h; replace h := if_f (by rw [c3]; decide) h; replace h := if_f (by rw [c3]; decide) h; replace h := if_f (by rw [c3]; decide) h; replace h := if_f (by rw [c3]; decide) h; replace h := if_f (by rw [c3]; decide) h; replace h := if_f (by rw [c3]; decide) h; replace h := if_f (by rw [c3]; decide) h; replace h := if_f (by rw [c3]; decide) h; replace h := if_f (by rw [c3]; decide) h; replace h := if_f (by rw [c3]; decide) h; replace h := if_f (by rw [c3]; decide) h; replace h := if_f (by rw [c3]; decide) h; replace h := if_f (by rw [c3]; decide) h; replace h := if_f (by rw [c3]; decide) h
      replace h := if_t c3 h
      refine g_aload_n (i := 1) hE d_L_law_791 rfl rfl ?_
      refine g_aload_n (i := 0) hE d_L_law_792 rfl rfl ?_
      refine g_iload (i := 4) hE d_L_law_793 rfl ?_
      refine g_iconst hE d_L_law_795 ki_1 ?_
      refine g_iadd hE d_L_law_796 ?_
      obtain ⟨g292, h⟩ := gi_s h
      refine g_sld hE hXs hbl hbA g292 d_L_law_797 (fun x293 e => ?_)
      replace h := lt_i e h; clear e
      refine g_aload_n (i := 0) hE d_L_law_798 rfl rfl ?_
      refine g_iload (i := 4) hE d_L_law_799 rfl ?_
      refine g_iconst hE d_L_law_801 ki_2 ?_
      refine g_iadd hE d_L_law_802 ?_
      obtain ⟨g294, h⟩ := gi_s h
      refine g_sld hE hXs hbl hbA g294 d_L_law_803 (fun x295 e => ?_)
      replace h := lt_i e h; clear e
      refine g_aload_n (i := 0) hE d_L_law_804 rfl rfl ?_
      refine g_iload (i := 4) hE d_L_law_805 rfl ?_
      refine g_iconst hE d_L_law_807 ki_3 ?_
      refine g_iadd hE d_L_law_808 ?_
      obtain ⟨g296, h⟩ := gi_s h
      refine g_sld hE hXs hbl hbA g296 d_L_law_809 (fun x297 e => ?_)
      replace h := lt_i e h; clear e
      refine g_if_eq hE d_L_law_810 (fun c298 => ?_) (fun c298 => ?_)
      · replace h := if_t c298 h
        refine g_iconst hE d_L_law_817 ki_0 ?_
        exact gw.less (lv' := [some (va_rf (some b)), some (va_rf v1), some (va_rf v2), some (va_rf v3), some (.int v4), none, none]) (And.intro rfl (And.intro rfl (And.intro rfl (And.intro rfl (And.intro rfl trivial))))) (w_L_law_J818 hE hXs hbl hbA hX htr hZ hmc hms hkb _ _ _ _ S d v1 v2 v3 v4 v1 x293 x295 0 h hc hs)
      · replace h := if_f c298 h
        refine g_iconst hE d_L_law_813 ki_1 ?_
        refine g_goto hE d_L_law_814 ?_
        exact gw.less (lv' := [some (va_rf (some b)), some (va_rf v1), some (va_rf v2), some (va_rf v3), some (.int v4), none, none]) (And.intro rfl (And.intro rfl (And.intro rfl (And.intro rfl (And.intro rfl trivial))))) (w_L_law_J818 hE hXs hbl hbA hX htr hZ hmc hms hkb _ _ _ _ S d v1 v2 v3 v4 v1 x293 x295 1 h hc hs)
    · replace h := if_f (by rw [c3]; decide) h; replace h := if_f (by rw [c3]; decide) h; replace h := if_f (by rw [c3]; decide) h; replace h := if_f (by rw [c3]; decide) h; replace h := if_f (by rw [c3]; decide) h; replace h := if_f (by rw [c3]; decide) h; replace h := if_f (by rw [c3]; decide) h; replace h := if_f (by rw [c3]; decide) h; replace h := if_f (by rw [c3]; decide) h; replace h := if_f (by rw [c3]; decide) h; replace h := if_f (by rw [c3]; decide) h; replace h := if_f (by rw [c3]; decide) h; replace h := if_f (by rw [c3]; decide) h; replace h := if_f (by rw [c3]; decide) h; replace h := if_f (by rw [c3]; decide) h; replace h := if_f (by rw [c3]; decide) h
      replace h := if_t c3 h
      refine g_aload_n (i := 1) hE d_L_law_856 rfl rfl ?_
      refine g_aload_n (i := 0) hE d_L_law_857 rfl rfl ?_
      refine g_iload (i := 4) hE d_L_law_858 rfl ?_
      refine g_iconst hE d_L_law_860 ki_1 ?_
      refine g_iadd hE d_L_law_861 ?_
      obtain ⟨g299, h⟩ := gi_s h
      refine g_sld hE hXs hbl hbA g299 d_L_law_862 (fun x300 e => ?_)
      replace h := lt_i e h; clear e
      refine g_aload_n (i := 0) hE d_L_law_863 rfl rfl ?_
      refine g_iload (i := 4) hE d_L_law_864 rfl ?_
      refine g_iconst hE d_L_law_866 ki_2 ?_
      refine g_iadd hE d_L_law_867 ?_
      obtain ⟨g301, h⟩ := gi_s h
      refine g_sld hE hXs hbl hbA g301 d_L_law_868 (fun x302 e => ?_)
      replace h := lt_i e h; clear e
      refine g_aload_n (i := 0) hE d_L_law_869 rfl rfl ?_
      refine g_iload (i := 4) hE d_L_law_870 rfl ?_
      refine g_iconst hE d_L_law_872 ki_3 ?_
      refine g_iadd hE d_L_law_873 ?_
      obtain ⟨g303, h⟩ := gi_s h
      refine g_sld hE hXs hbl hbA g303 d_L_law_874 (fun x304 e => ?_)
      replace h := lt_i e h; clear e
      refine g_i2l hE d_L_law_875 ?_
      refine g_bipush hE d_L_law_876 kb_32 ?_
      refine g_lshl hE d_L_law_878 ?_
      refine g_aload_n (i := 0) hE d_L_law_879 rfl rfl ?_
      refine g_iload (i := 4) hE d_L_law_880 rfl ?_
      refine g_iconst hE d_L_law_882 ki_4 ?_
      refine g_iadd hE d_L_law_883 ?_
      obtain ⟨g305, h⟩ := gi_s h
      refine g_sld hE hXs hbl hbA g305 d_L_law_884 (fun x306 e => ?_)
      replace h := lt_i e h; clear e
      refine g_i2l hE d_L_law_885 ?_
      refine g_ldc2 hE d_L_law_886 m_578 ?_
      refine g_land hE d_L_law_889 ?_
      refine g_lor hE d_L_law_890 ?_
      refine g_aload_n (i := 0) hE d_L_law_891 rfl rfl ?_
      refine g_iload (i := 4) hE d_L_law_892 rfl ?_
      refine g_iconst hE d_L_law_894 ki_5 ?_
      refine g_iadd hE d_L_law_895 ?_
      obtain ⟨g307, h⟩ := gi_s h
      refine g_sld hE hXs hbl hbA g307 d_L_law_896 (fun x308 e => ?_)
      replace h := lt_i e h; clear e
      refine g_i2l hE d_L_law_897 ?_
      refine g_bipush hE d_L_law_898 kb_32 ?_
      refine g_lshl hE d_L_law_900 ?_
      refine g_aload_n (i := 0) hE d_L_law_901 rfl rfl ?_
      refine g_iload (i := 4) hE d_L_law_902 rfl ?_
      refine g_bipush hE d_L_law_904 kb_6 ?_
      refine g_iadd hE d_L_law_906 ?_
      obtain ⟨g309, h⟩ := gi_s h
      refine g_sld hE hXs hbl hbA g309 d_L_law_907 (fun x310 e => ?_)
      replace h := lt_i e h; clear e
      refine g_i2l hE d_L_law_908 ?_
      refine g_ldc2 hE d_L_law_909 m_578 ?_
      refine g_land hE d_L_law_912 ?_
      refine g_lor hE d_L_law_913 ?_
      refine g_aload_n (i := 0) hE d_L_law_914 rfl rfl ?_
      refine g_iload (i := 4) hE d_L_law_915 rfl ?_
      refine g_bipush hE d_L_law_917 kb_7 ?_
      refine g_iadd hE d_L_law_919 ?_
      obtain ⟨g311, h⟩ := gi_s h
      refine g_sld hE hXs hbl hbA g311 d_L_law_920 (fun x312 e => ?_)
      replace h := lt_i e h; clear e
      refine g_i2l hE d_L_law_921 ?_
      refine g_bipush hE d_L_law_922 kb_32 ?_
      refine g_lshl hE d_L_law_924 ?_
      refine g_aload_n (i := 0) hE d_L_law_925 rfl rfl ?_
      refine g_iload (i := 4) hE d_L_law_926 rfl ?_
      refine g_bipush hE d_L_law_928 kb_8 ?_
      refine g_iadd hE d_L_law_930 ?_
      obtain ⟨g313, h⟩ := gi_s h
      refine g_sld hE hXs hbl hbA g313 d_L_law_931 (fun x314 e => ?_)
      replace h := lt_i e h; clear e
      refine g_i2l hE d_L_law_932 ?_
      refine g_ldc2 hE d_L_law_933 m_578 ?_
      refine g_land hE d_L_law_936 ?_
      refine g_lor hE d_L_law_937 ?_
      refine g_aload_n (i := 3) hE d_L_law_938 rfl rfl ?_
      obtain ⟨x315, S317, d318, n319, n320, dc0, ds0, e316, h, hc0, hs0⟩ := bdA_s h
      refine g_callSW (av := [.inr (.inr v1), .inl x300, .inl x302, .inr (.inl (((Int32.toInt64 x304) <<< (Int32.toInt64 32 &&& 63)) ||| ((Int32.toInt64 x306) &&& 4294967295))), .inr (.inl (((Int32.toInt64 x308) <<< (Int32.toInt64 32 &&& 63)) ||| ((Int32.toInt64 x310) &&& 4294967295))), .inr (.inl (((Int32.toInt64 x312) <<< (Int32.toInt64 32 &&& 63)) ||| ((Int32.toInt64 x314) &&& 4294967295))), .inr (.inr v3)]) (np := 7) (stk := [.int x315]) [] hE hX (c_L_call (xl X) (xG X) htr e316) m_530 m_526 ⟨by decide, by decide, by decide +kernel⟩ ⟨Nat.le_of_ble_eq_true rfl, Nat.le_of_ble_eq_true rfl⟩ m_640 m_531 rfl d_L_law_939 rfl rfl ct_0 (cnt_roomL hmc hc hc0) (cnt_roomL hms hs hs0) ?_
      refine gw.gen (fun c321 s322 ec es => ?_)
      replace hc := cnt_step hc hc0 ec; replace hs := cnt_step hs hs0 es; clear hc0 hs0 ec es
      refine g_istore (i := 5) (lv' := [some (va_rf (some b)), some (va_rf v1), some (va_rf v2), some (va_rf v3), some (.int v4), some (.int x315), none]) hE d_L_law_942 (Nat.le_of_ble_eq_true rfl) ⟨rfl, Nat.le_of_ble_eq_true rfl⟩ (lvp_i rfl) ?_
      refine g_aload_n (i := 2) hE d_L_law_944 rfl rfl ?_
      refine g_aload_n (i := 0) hE d_L_law_945 rfl rfl ?_
      refine g_iload (i := 4) hE d_L_law_946 rfl ?_
      refine g_iconst hE d_L_law_948 ki_1 ?_
      refine g_iadd hE d_L_law_949 ?_
      obtain ⟨g323, h⟩ := gi_s h
      refine g_sld hE hXs hbl hbA g323 d_L_law_950 (fun x324 e => ?_)
      replace h := lt_i e h; clear e
      refine g_aload_n (i := 0) hE d_L_law_951 rfl rfl ?_
      refine g_iload (i := 4) hE d_L_law_952 rfl ?_
      refine g_iconst hE d_L_law_954 ki_2 ?_
      refine g_iadd hE d_L_law_955 ?_
      obtain ⟨g325, h⟩ := gi_s h
      refine g_sld hE hXs hbl hbA g325 d_L_law_956 (fun x326 e => ?_)
      replace h := lt_i e h; clear e
      refine g_aload_n (i := 0) hE d_L_law_957 rfl rfl ?_
      refine g_iload (i := 4) hE d_L_law_958 rfl ?_
      refine g_iconst hE d_L_law_960 ki_3 ?_
      refine g_iadd hE d_L_law_961 ?_
      obtain ⟨g327, h⟩ := gi_s h
      refine g_sld hE hXs hbl hbA g327 d_L_law_962 (fun x328 e => ?_)
      replace h := lt_i e h; clear e
      refine g_i2l hE d_L_law_963 ?_
      refine g_bipush hE d_L_law_964 kb_32 ?_
      refine g_lshl hE d_L_law_966 ?_
      refine g_aload_n (i := 0) hE d_L_law_967 rfl rfl ?_
      refine g_iload (i := 4) hE d_L_law_968 rfl ?_
      refine g_iconst hE d_L_law_970 ki_4 ?_
      refine g_iadd hE d_L_law_971 ?_
      obtain ⟨g329, h⟩ := gi_s h
      refine g_sld hE hXs hbl hbA g329 d_L_law_972 (fun x330 e => ?_)
      replace h := lt_i e h; clear e
      refine g_i2l hE d_L_law_973 ?_
      refine g_ldc2 hE d_L_law_974 m_578 ?_
      refine g_land hE d_L_law_977 ?_
      refine g_lor hE d_L_law_978 ?_
      refine g_aload_n (i := 0) hE d_L_law_979 rfl rfl ?_
      refine g_iload (i := 4) hE d_L_law_980 rfl ?_
      refine g_iconst hE d_L_law_982 ki_5 ?_
      refine g_iadd hE d_L_law_983 ?_
      obtain ⟨g331, h⟩ := gi_s h
      refine g_sld hE hXs hbl hbA g331 d_L_law_984 (fun x332 e => ?_)
      replace h := lt_i e h; clear e
      refine g_i2l hE d_L_law_985 ?_
      refine g_bipush hE d_L_law_986 kb_32 ?_
      refine g_lshl hE d_L_law_988 ?_
      refine g_aload_n (i := 0) hE d_L_law_989 rfl rfl ?_
      refine g_iload (i := 4) hE d_L_law_990 rfl ?_
      refine g_bipush hE d_L_law_992 kb_6 ?_
      refine g_iadd hE d_L_law_994 ?_
      obtain ⟨g333, h⟩ := gi_s h
      refine g_sld hE hXs hbl hbA g333 d_L_law_995 (fun x334 e => ?_)
      replace h := lt_i e h; clear e
      refine g_i2l hE d_L_law_996 ?_
      refine g_ldc2 hE d_L_law_997 m_578 ?_
      refine g_land hE d_L_law_1000 ?_
      refine g_lor hE d_L_law_1001 ?_
      refine g_aload_n (i := 0) hE d_L_law_1002 rfl rfl ?_
      refine g_iload (i := 4) hE d_L_law_1003 rfl ?_
      refine g_bipush hE d_L_law_1005 kb_7 ?_
      refine g_iadd hE d_L_law_1007 ?_
      obtain ⟨g335, h⟩ := gi_s h
      refine g_sld hE hXs hbl hbA g335 d_L_law_1008 (fun x336 e => ?_)
      replace h := lt_i e h; clear e
      refine g_i2l hE d_L_law_1009 ?_
      refine g_bipush hE d_L_law_1010 kb_32 ?_
      refine g_lshl hE d_L_law_1012 ?_
      refine g_aload_n (i := 0) hE d_L_law_1013 rfl rfl ?_
      refine g_iload (i := 4) hE d_L_law_1014 rfl ?_
      refine g_bipush hE d_L_law_1016 kb_8 ?_
      refine g_iadd hE d_L_law_1018 ?_
      obtain ⟨g337, h⟩ := gi_s h
      refine g_sld hE hXs hbl hbA g337 d_L_law_1019 (fun x338 e => ?_)
      replace h := lt_i e h; clear e
      refine g_i2l hE d_L_law_1020 ?_
      refine g_ldc2 hE d_L_law_1021 m_578 ?_
      refine g_land hE d_L_law_1024 ?_
      refine g_lor hE d_L_law_1025 ?_
      obtain ⟨a339, rfl, h⟩ := nn_s h
      obtain ⟨k340, h⟩ := kd_s h
      obtain ⟨x341, d343, e342, h⟩ := bdD_s h
      refine g_callV (av := [.inr (.inr (some a339)), .inl x324, .inl x326, .inr (.inl (((Int32.toInt64 x328) <<< (Int32.toInt64 32 &&& 63)) ||| ((Int32.toInt64 x330) &&& 4294967295))), .inr (.inl (((Int32.toInt64 x332) <<< (Int32.toInt64 32 &&& 63)) ||| ((Int32.toInt64 x334) &&& 4294967295))), .inr (.inl (((Int32.toInt64 x336) <<< (Int32.toInt64 32 &&& 63)) ||| ((Int32.toInt64 x338) &&& 4294967295)))]) (as := [.inl x324, .inl x326, .inr (.inl (((Int32.toInt64 x328) <<< (Int32.toInt64 32 &&& 63)) ||| ((Int32.toInt64 x330) &&& 4294967295))), .inr (.inl (((Int32.toInt64 x332) <<< (Int32.toInt64 32 &&& 63)) ||| ((Int32.toInt64 x334) &&& 4294967295))), .inr (.inl (((Int32.toInt64 x336) <<< (Int32.toInt64 32 &&& 63)) ||| ((Int32.toInt64 x338) &&& 4294967295)))]) (stk := [.int x341]) [] hE (c_R_call (xl X) (xG X) e342) ky_R_call ⟨Nat.le_of_ble_eq_true rfl, Nat.le_of_ble_eq_true rfl⟩ rfl kc_R k340 m_641 m_642 m_643 rfl d_L_law_1026 rfl rfl ct_0 (cnt_room0L hmc hc) (cnt_room0L hms hs) ?_
      refine gw.cs (c2 := c321) (s2 := s322) rfl rfl ?_
      refine g_istore (i := 6) (lv' := [some (va_rf (some b)), some (va_rf v1), some (va_rf (some a339)), some (va_rf v3), some (.int v4), some (.int x315), some (.int x341)]) hE d_L_law_1029 (Nat.le_of_ble_eq_true rfl) ⟨rfl, Nat.le_of_ble_eq_true rfl⟩ (lvp_i rfl) ?_
      refine g_aload_n (i := 2) hE d_L_law_1031 rfl rfl ?_
      obtain ⟨x344, e345, h⟩ := bd_s h
      refine g_callV (av := [.inr (.inr (some a339))]) (as := []) (stk := [.int x344]) [] hE (c_R_thrown (xl X) (xG X) e345) ky_R_thrown ⟨Nat.le_of_ble_eq_true rfl, Nat.le_of_ble_eq_true rfl⟩ rfl kc_R k340 m_607 m_608 m_609 rfl d_L_law_1032 rfl rfl ct_0 (cnt_room0L hmc hc) (cnt_room0L hms hs) ?_
      refine gw.cs (c2 := c321) (s2 := s322) rfl rfl ?_
      refine g_iload (i := 5) hE d_L_law_1035 rfl ?_
      refine g_icmp_eq hE d_L_law_1037 (fun c352 => ?_) (fun c352 => ?_)
      · replace h := if_t c352 h
        refine g_iload (i := 5) hE d_L_law_1042 rfl ?_
        refine g_if_ne hE d_L_law_1044 (fun c351 => ?_) (fun c351 => ?_)
        · replace h := if_f c351 h
          exact gw.less (lv' := [some (va_rf (some b)), some (va_rf v1), some (va_rf (some a339)), some (va_rf v3), some (.int v4), none, none]) (And.intro rfl (And.intro rfl (And.intro rfl (And.intro rfl (And.intro rfl trivial))))) (w_L_law_J1059 hE hXs hbl hbA hX htr hZ hmc hms hkb _ _ _ _ S317 d343 v1 (some a339) v3 v4 h hc hs)
        · replace h := if_t c351 h
          refine g_aload_n (i := 3) hE d_L_law_1047 rfl rfl ?_
          refine g_iconst hE d_L_law_1048 ki_0 ?_
          obtain ⟨a346, rfl, h⟩ := nn_s h
          obtain ⟨k347, h⟩ := kd_s h
          obtain ⟨g348, h⟩ := gi_s h
          refine g_lald hE k347 g348 d_L_law_1049 (fun x349 e => ?_)
          replace h := lt_i e h; clear e
          refine g_iload (i := 6) hE d_L_law_1050 rfl ?_
          refine g_i2l hE d_L_law_1052 ?_
          refine g_lcmp hE d_L_law_1053 ?_
          refine g_if_eq hE d_L_law_1054 (fun c350 => ?_) (fun c350 => ?_)
          · replace h := if_t c350 h
            exact gw.less (lv' := [some (va_rf (some b)), some (va_rf v1), some (va_rf (some a339)), some (va_rf (some a346)), some (.int v4), none, none]) (And.intro rfl (And.intro rfl (And.intro rfl (And.intro rfl (And.intro rfl trivial))))) (w_L_law_J1059 hE hXs hbl hbA hX htr hZ hmc hms hkb _ _ _ _ S317 d343 v1 (some a339) (some a346) v4 h hc hs)
          · replace h := if_f c350 h
            refine g_iconst hE d_L_law_1057 ki_0 ?_
            exact absurd h (by simp)
      · replace h := if_f c352 h
        refine g_iconst hE d_L_law_1040 ki_0 ?_
        exact absurd h (by simp)
    · replace h := if_f (by rw [c3]; decide) h; replace h := if_f (by rw [c3]; decide) h; replace h := if_f (by rw [c3]; decide) h; replace h := if_f (by rw [c3]; decide) h; replace h := if_f (by rw [c3]; decide) h; replace h := if_f (by rw [c3]; decide) h; replace h := if_f (by rw [c3]; decide) h; replace h := if_f (by rw [c3]; decide) h; replace h := if_f (by rw [c3]; decide) h; replace h := if_f (by rw [c3]; decide) h; replace h := if_f (by rw [c3]; decide) h; replace h := if_f (by rw [c3]; decide) h; replace h := if_f (by rw [c3]; decide) h; replace h := if_f (by rw [c3]; decide) h; replace h := if_f (by rw [c3]; decide) h; replace h := if_f (by rw [c3]; decide) h; replace h := if_f (by rw [c3]; decide) h
      replace h := if_t c3 h
      refine g_aload_n (i := 1) hE d_L_law_1062 rfl rfl ?_
      obtain ⟨a353, rfl, h⟩ := nn_s h
      obtain ⟨k354, h⟩ := kd_s h
      obtain ⟨x355, e356, h⟩ := bd_s h
      refine g_callV (av := [.inr (.inr (some a353))]) (as := []) (stk := [.long x355]) [] hE (c_M_outcome (xl X) (xG X) e356) ky_M_outcome ⟨Nat.le_of_ble_eq_true rfl, Nat.le_of_ble_eq_true rfl⟩ rfl kc_M k354 m_644 m_645 m_646 rfl d_L_law_1063 rfl rfl ct_0 (cnt_room0L hmc hc) (cnt_room0L hms hs) ?_
      refine gw.cs (c2 := cells) (s2 := slots) rfl rfl ?_
      refine g_aload_n (i := 2) hE d_L_law_1066 rfl rfl ?_
      obtain ⟨a357, rfl, h⟩ := nn_s h
      obtain ⟨k358, h⟩ := kd_s h
      obtain ⟨x359, d361, e360, h⟩ := bdD_s h
      refine g_callV (av := [.inr (.inr (some a357))]) (as := []) (stk := [.long x359, .long x355]) [.long x355] hE (c_R_outcome (xl X) (xG X) e360) ky_R_outcome ⟨Nat.le_of_ble_eq_true rfl, Nat.le_of_ble_eq_true rfl⟩ rfl kc_R k358 m_647 m_648 m_649 rfl d_L_law_1067 rfl rfl (Nat.le_trans (ct_l ct_n) (Nat.le_of_ble_eq_true rfl)) (cnt_room0L hmc hc) (cnt_room0L hms hs) ?_
      refine gw.cs (c2 := cells) (s2 := slots) rfl rfl ?_
      refine g_lcmp hE d_L_law_1070 ?_
      refine g_if_eq hE d_L_law_1071 (fun c362 => ?_) (fun c362 => ?_)
      · replace h := if_t c362 h
        exact gw.less (lv' := [some (va_rf (some b)), some (va_rf (some a353)), some (va_rf (some a357)), some (va_rf v3), some (.int v4), none, none]) (And.intro rfl (And.intro rfl (And.intro rfl (And.intro rfl (And.intro rfl trivial))))) (w_L_law_J1102 hE hXs hbl hbA hX htr hZ hmc hms hkb _ _ _ _ S d361 (some a353) (some a357) v3 v4 h hc hs)
      · replace h := if_f c362 h
        refine g_iconst hE d_L_law_1074 ki_0 ?_
        exact absurd h (by simp)
    · replace h := if_f (by rw [c3]; decide) h; replace h := if_f (by rw [c3]; decide) h; replace h := if_f (by rw [c3]; decide) h; replace h := if_f (by rw [c3]; decide) h; replace h := if_f (by rw [c3]; decide) h; replace h := if_f (by rw [c3]; decide) h; replace h := if_f (by rw [c3]; decide) h; replace h := if_f (by rw [c3]; decide) h; replace h := if_f (by rw [c3]; decide) h; replace h := if_f (by rw [c3]; decide) h; replace h := if_f (by rw [c3]; decide) h; replace h := if_f (by rw [c3]; decide) h; replace h := if_f (by rw [c3]; decide) h; replace h := if_f (by rw [c3]; decide) h; replace h := if_f (by rw [c3]; decide) h; replace h := if_f (by rw [c3]; decide) h; replace h := if_f (by rw [c3]; decide) h; replace h := if_f (by rw [c3]; decide) h
      replace h := if_t c3 h
      refine g_aload_n (i := 1) hE d_L_law_1076 rfl rfl ?_
      refine g_aload_n (i := 0) hE d_L_law_1077 rfl rfl ?_
      refine g_iload (i := 4) hE d_L_law_1078 rfl ?_
      refine g_iconst hE d_L_law_1080 ki_1 ?_
      refine g_iadd hE d_L_law_1081 ?_
      obtain ⟨g363, h⟩ := gi_s h
      refine g_sld hE hXs hbl hbA g363 d_L_law_1082 (fun x364 e => ?_)
      replace h := lt_i e h; clear e
      obtain ⟨a365, rfl, h⟩ := nn_s h
      obtain ⟨k366, h⟩ := kd_s h
      obtain ⟨x367, e368, h⟩ := bd_s h
      refine g_callV (av := [.inr (.inr (some a365)), .inl x364]) (as := [.inl x364]) (stk := [.long x367]) [] hE (c_M_seen (xl X) (xG X) e368) ky_M_seen ⟨Nat.le_of_ble_eq_true rfl, Nat.le_of_ble_eq_true rfl⟩ rfl kc_M k366 m_650 m_651 m_652 rfl d_L_law_1083 rfl rfl ct_0 (cnt_room0L hmc hc) (cnt_room0L hms hs) ?_
      refine gw.cs (c2 := cells) (s2 := slots) rfl rfl ?_
      refine g_aload_n (i := 2) hE d_L_law_1086 rfl rfl ?_
      refine g_aload_n (i := 0) hE d_L_law_1087 rfl rfl ?_
      refine g_iload (i := 4) hE d_L_law_1088 rfl ?_
      refine g_iconst hE d_L_law_1090 ki_1 ?_
      refine g_iadd hE d_L_law_1091 ?_
      obtain ⟨g369, h⟩ := gi_s h
      refine g_sld hE hXs hbl hbA g369 d_L_law_1092 (fun x370 e => ?_)
      replace h := lt_i e h; clear e
      obtain ⟨a371, rfl, h⟩ := nn_s h
      obtain ⟨k372, h⟩ := kd_s h
      obtain ⟨x373, d375, e374, h⟩ := bdD_s h
      refine g_callV (av := [.inr (.inr (some a371)), .inl x370]) (as := [.inl x370]) (stk := [.long x373, .long x367]) [.long x367] hE (c_R_seen (xl X) (xG X) e374) ky_R_seen ⟨Nat.le_of_ble_eq_true rfl, Nat.le_of_ble_eq_true rfl⟩ rfl kc_R k372 m_653 m_654 m_655 rfl d_L_law_1093 rfl rfl (Nat.le_trans (ct_l ct_n) (Nat.le_of_ble_eq_true rfl)) (cnt_room0L hmc hc) (cnt_room0L hms hs) ?_
      refine gw.cs (c2 := cells) (s2 := slots) rfl rfl ?_
      refine g_lcmp hE d_L_law_1096 ?_
      refine g_if_eq hE d_L_law_1097 (fun c376 => ?_) (fun c376 => ?_)
      · replace h := if_t c376 h
        exact gw.less (lv' := [some (va_rf (some b)), some (va_rf (some a365)), some (va_rf (some a371)), some (va_rf v3), some (.int v4), none, none]) (And.intro rfl (And.intro rfl (And.intro rfl (And.intro rfl (And.intro rfl trivial))))) (w_L_law_J1102 hE hXs hbl hbA hX htr hZ hmc hms hkb _ _ _ _ S d375 (some a365) (some a371) v3 v4 h hc hs)
      · replace h := if_f c376 h
        refine g_iconst hE d_L_law_1100 ki_0 ?_
        exact absurd h (by simp)
    · replace h := if_f c3_0 h; replace h := if_f c3_1 h; replace h := if_f c3_2 h; replace h := if_f c3_3 h; replace h := if_f c3_4 h; replace h := if_f c3_5 h; replace h := if_f c3_6 h; replace h := if_f c3_7 h; replace h := if_f c3_8 h; replace h := if_f c3_9 h; replace h := if_f c3_10 h; replace h := if_f c3_11 h; replace h := if_f c3_12 h; replace h := if_f c3_13 h; replace h := if_f c3_14 h; replace h := if_f c3_15 h; replace h := if_f c3_16 h; replace h := if_f c3_17 h; replace h := if_f c3_18 h
      exact gw.less (lv' := [some (va_rf (some b)), some (va_rf v1), some (va_rf v2), some (va_rf v3), some (.int v4), none, none]) (And.intro rfl (And.intro rfl (And.intro rfl (And.intro rfl (And.intro rfl trivial))))) (w_L_law_J1102 hE hXs hbl hbA hX htr hZ hmc hms hkb _ _ _ _ S d v1 v2 v3 v4 h hc hs)
theorem w_L_law_L23 {X : GX} (hE : gE X b_L_law 7 "StandInMillLaw" (some (.boolean)) "law" 11 426) {sL : Nat} {sf : Nat → Int32} {b : Nat} (hXs : va_X b sL sf (xs X) (xs X).heap) (hbl : b < (xs X).heap.size) (hbA : ¬ gA (xG X) b) (hX : gX (xG X) (xs X)) (htr : (xl X).stackTraces = false) (hZ : lw_end X) {S' : gS} {d' : gD} {mc ms : Nat} (hmc : mc ≤ (xR X).cells) (hms : ms ≤ (xR X).slots) : ∀ (n : Nat) (cells slots dc ds : Nat) (S : gS) (d : gD) (v1 : Option Nat) (v2 : Option Nat) (v3 : Option Nat) (v4 : Int32), itr (f_L_law_B23 sL sf) (fun _ _ _ _ _ _ => none) n S d v1 v2 v3 v4 = some ((1, S', d'), dc, ds) → cells + dc = mc → slots + ds = ms → gw X cells slots (lw_Z (xb X) (xa X) (xs X)) S d 23 [some (va_rf (some b)), some (va_rf v1), some (va_rf v2), some (va_rf v3), some (.int v4), none, none] [] := by
  intro n
  induction n with
  | zero => intro cells slots dc ds S d v1 v2 v3 v4 h hc hs; cases h
  | succ n ih => exact w_L_law_B23 hE hXs hbl hbA hX htr hZ hmc hms ih
set_option maxRecDepth 100000 in
def f_L_law (sL : Nat) (sf : Nat → Int32) (S : gS) (d : gD) : Option ((Int32 × gS × gD) × Nat × Nat) :=
  ac 1 18 <|
  lt_ (nS S 1 0) fun S1 =>
  lt_ (nD S d) fun d2 =>
  lt_ (sZ S) fun a3 =>
  bdA (f_M_init S1 d2 a3) fun _ S9 d10 =>
  ac 1 47 <|
  lt_ (nS S9 10 0) fun S15 =>
  lt_ (nD S9 d10) fun d16 =>
  lt_ (sZ S9) fun a17 =>
  bdA (f_R_init S15 d16 a17) fun _ S23 d24 =>
  nl 1 <|
  ac 1 ((1 : Int32).toNatClampNeg) <|
  lt_ (nS S23 51 ((1 : Int32).toNatClampNeg)) fun S29 =>
  lt_ (nD S23 d24) fun d30 =>
  lt_ (sZ S23) fun a31 =>
  itr (f_L_law_B23 sL sf) (fun _ _ _ _ _ _ => none) fu S29 d30 (some a3) (some a17) (some a31) 0
set_option maxRecDepth 100000 in
set_option maxHeartbeats 4000000 in
theorem w_L_law {X : GX} (hE : gE X b_L_law 7 "StandInMillLaw" (some (.boolean)) "law" 11 426) {sL : Nat} {sf : Nat → Int32} {b : Nat} (hXs : va_X b sL sf (xs X) (xs X).heap) (hbl : b < (xs X).heap.size) (hbA : ¬ gA (xG X) b) (hX : gX (xG X) (xs X)) (htr : (xl X).stackTraces = false) (hZ : lw_end X) {S' : gS} {d' : gD} {mc ms : Nat} (hmc : mc ≤ (xR X).cells) (hms : ms ≤ (xR X).slots) :
    ∀ (cells slots dc ds : Nat) (S : gS) (d : gD), f_L_law sL sf S d = some ((1, S', d'), dc, ds) → cells + dc = mc → slots + ds = ms → gw X cells slots (lw_Z (xb X) (xa X) (xs X)) S d 0 [some (va_rf (some b)), none, none, none, none, none, none] [] := by
  intro cells slots dc ds S d h hc hs
  unfold f_L_law at h
  obtain ⟨dc0, ds0, h, hc0, hs0⟩ := ac_s h
  refine g_new hE kc_M kn_M m_532 m_533 m_534 (cnt_roomL hmc hc hc0) (cnt_roomL hms hs hs0) d_L_law_0 (fun S1 d2 a3 e1 e2 e3 => ?_)
  have k4 : sK S1 a3 = 1 := by rw [← e1, ← e3]; exact nS_new
  replace h := lt_i e1 h; replace h := lt_i e2 h; replace h := lt_i e3 h; clear e1 e2 e3
  refine gw.gen (fun c5 s6 ec es => ?_)
  replace hc := cnt_step hc hc0 ec; replace hs := cnt_step hs hs0 es; clear hc0 hs0 ec es
  refine g_dupr hE d_L_law_3 ?_
  obtain ⟨x7, S9, d10, n11, n12, dc0, ds0, e8, h, hc0, hs0⟩ := bdA_s h
  refine g_callI (av := [.inr (.inr (some a3))]) (as := []) (stk := [va_rf (some a3)]) [va_rf (some a3)] hE (c_M_init (xl X) (xG X) e8) ky_M_init ⟨Nat.le_of_ble_eq_true rfl, Nat.le_of_ble_eq_true rfl⟩ rfl m_535 m_536 rfl rfl d_L_law_4 rfl rfl (Nat.le_trans (ct_r ct_n) (Nat.le_of_ble_eq_true rfl)) (cnt_roomL hmc hc hc0) (cnt_roomL hms hs hs0) ?_
  refine gw.gen (fun c13 s14 ec es => ?_)
  replace hc := cnt_step hc hc0 ec; replace hs := cnt_step hs hs0 es; clear hc0 hs0 ec es
  refine g_astore_n (i := 1) (lv' := [some (va_rf (some b)), some (va_rf (some a3)), none, none, none, none, none]) hE d_L_law_7 rfl (Nat.le_of_ble_eq_true rfl) ⟨rfl, Nat.le_of_ble_eq_true rfl⟩ (lvp_r rfl) ?_
  obtain ⟨dc0, ds0, h, hc0, hs0⟩ := ac_s h
  refine g_new hE kc_R kn_R m_537 m_538 m_539 (cnt_roomL hmc hc hc0) (cnt_roomL hms hs hs0) d_L_law_8 (fun S15 d16 a17 e1 e2 e3 => ?_)
  have k18 : sK S15 a17 = 10 := by rw [← e1, ← e3]; exact nS_new
  replace h := lt_i e1 h; replace h := lt_i e2 h; replace h := lt_i e3 h; clear e1 e2 e3
  refine gw.gen (fun c19 s20 ec es => ?_)
  replace hc := cnt_step hc hc0 ec; replace hs := cnt_step hs hs0 es; clear hc0 hs0 ec es
  refine g_dupr hE d_L_law_11 ?_
  obtain ⟨x21, S23, d24, n25, n26, dc0, ds0, e22, h, hc0, hs0⟩ := bdA_s h
  refine g_callI (av := [.inr (.inr (some a17))]) (as := []) (stk := [va_rf (some a17)]) [va_rf (some a17)] hE (c_R_init (xl X) (xG X) e22) ky_R_init ⟨Nat.le_of_ble_eq_true rfl, Nat.le_of_ble_eq_true rfl⟩ rfl m_540 m_541 rfl rfl d_L_law_12 rfl rfl (Nat.le_trans (ct_r ct_n) (Nat.le_of_ble_eq_true rfl)) (cnt_roomL hmc hc hc0) (cnt_roomL hms hs hs0) ?_
  refine gw.gen (fun c27 s28 ec es => ?_)
  replace hc := cnt_step hc hc0 ec; replace hs := cnt_step hs hs0 es; clear hc0 hs0 ec es
  refine g_astore_n (i := 2) (lv' := [some (va_rf (some b)), some (va_rf (some a3)), some (va_rf (some a17)), none, none, none, none]) hE d_L_law_15 rfl (Nat.le_of_ble_eq_true rfl) ⟨rfl, Nat.le_of_ble_eq_true rfl⟩ (lvp_r rfl) ?_
  refine g_iconst hE d_L_law_16 ki_1 ?_
  obtain ⟨g32, h⟩ := nl_s h
  obtain ⟨dc0, ds0, h, hc0, hs0⟩ := ac_s h
  refine g_newa (κ := 51) hE rfl (by decide) (fun _ => rfl) (fun _ _ h => h) (by decide) m_3 g32 (cnt_roomL hmc hc hc0) (cnt_roomL hms hs hs0) d_L_law_17 (fun S29 d30 a31 e1 e2 e3 => ?_)
  have k33 : sK S29 a31 = 51 := by rw [← e1, ← e3]; exact nS_new
  replace h := lt_i e1 h; replace h := lt_i e2 h; replace h := lt_i e3 h; clear e1 e2 e3
  refine gw.gen (fun c34 s35 ec es => ?_)
  replace hc := cnt_step hc hc0 ec; replace hs := cnt_step hs hs0 es; clear hc0 hs0 ec es
  refine g_astore_n (i := 3) (lv' := [some (va_rf (some b)), some (va_rf (some a3)), some (va_rf (some a17)), some (va_rf (some a31)), none, none, none]) hE d_L_law_19 rfl (Nat.le_of_ble_eq_true rfl) ⟨rfl, Nat.le_of_ble_eq_true rfl⟩ (lvp_r rfl) ?_
  refine g_iconst hE d_L_law_20 ki_0 ?_
  refine g_istore (i := 4) (lv' := [some (va_rf (some b)), some (va_rf (some a3)), some (va_rf (some a17)), some (va_rf (some a31)), some (.int 0), none, none]) hE d_L_law_21 (Nat.le_of_ble_eq_true rfl) ⟨rfl, Nat.le_of_ble_eq_true rfl⟩ (lvp_r rfl) ?_
  exact gw.less (lv' := [some (va_rf (some b)), some (va_rf (some a3)), some (va_rf (some a17)), some (va_rf (some a31)), some (.int 0), none, none]) (And.intro rfl (And.intro rfl (And.intro rfl (And.intro rfl (And.intro rfl trivial))))) (w_L_law_L23 hE hXs hbl hbA hX htr hZ hmc hms fu _ _ _ _ S29 d30 (some a3) (some a17) (some a31) 0 h hc hs)
