def S0 (z : Nat) : gS := (fun _ => 0, fun _ => 0, fun _ _ => none, z)
def d0 : gD := (fun _ _ => 0, fun _ _ => 0)
theorem start_K {args : Array Value} {s : State} (hts : ∀ w ∈ lw_tbl, w.before args s = true) : ∃ G : gG, G.2.2 = s.heap.size ∧ gK G s := by
  obtain ⟨c0, i0, u0⟩ := u_known (C := "StandInMill") (T := F_M) (N := 18) (n := 18) hts wl_0 (hts _ (IN_in _ (List.mem_of_getElem? (i := 0) rfl)))
  obtain ⟨c1, i1, u1⟩ := u_known (C := "StandInMill$ClassRow") (T := F_Rw) (N := 2) (n := 2) hts wl_1 (hts _ (IN_in _ (List.mem_of_getElem? (i := 1) rfl)))
  obtain ⟨c2, i2, u2⟩ := u_known (C := "StandInMill$Draft") (T := F_Dr) (N := 4) (n := 4) hts wl_2 (hts _ (IN_in _ (List.mem_of_getElem? (i := 2) rfl)))
  obtain ⟨c3, i3, u3⟩ := u_known (C := "StandInMill$Face") (T := F_Fc) (N := 10) (n := 10) hts wl_3 (hts _ (IN_in _ (List.mem_of_getElem? (i := 3) rfl)))
  obtain ⟨c4, i4, u4⟩ := u_known (C := "StandInMill$OwnMethod") (T := F_Om) (N := 6) (n := 6) hts wl_4 (hts _ (IN_in _ (List.mem_of_getElem? (i := 4) rfl)))
  obtain ⟨c5, i5, u5⟩ := u_known (C := "StandInMill$StandIn") (T := F_Si) (N := 8) (n := 8) hts wl_5 (hts _ (IN_in _ (List.mem_of_getElem? (i := 5) rfl)))
  obtain ⟨c6, i6, u6⟩ := u_known (C := "StandInMill$StandMethod") (T := F_Sm) (N := 3) (n := 3) hts wl_6 (hts _ (IN_in _ (List.mem_of_getElem? (i := 6) rfl)))
  obtain ⟨c7, i7, u7⟩ := u_known (C := "StandInMill$Types") (T := F_Ty) (N := 2) (n := 2) hts wl_7 (hts _ (IN_in _ (List.mem_of_getElem? (i := 7) rfl)))
  obtain ⟨c8, i8, u8⟩ := u_known (C := "StandInMill$UnitWriter") (T := F_Uw) (N := 6) (n := 6) hts wl_8 (hts _ (IN_in _ (List.mem_of_getElem? (i := 8) rfl)))
  obtain ⟨c9, i9, u9⟩ := u_known (C := "StandInMillModel") (T := F_R) (N := 47) (n := 47) hts wl_9 (hts _ (IN_in _ (List.mem_of_getElem? (i := 9) rfl)))
  obtain ⟨a50, k50, m50, p50, q50, r50⟩ := Cond.arrayClass_spec (hts _ (AC_in (.int) (List.mem_of_getElem? (i := 0) rfl)))
  obtain ⟨a51, k51, m51, p51, q51, r51⟩ := Cond.arrayClass_spec (hts _ (AC_in (.long) (List.mem_of_getElem? (i := 1) rfl)))
  obtain ⟨a52, k52, m52, p52, q52, r52⟩ := Cond.arrayClass_spec (hts _ (AC_in (.byte) (List.mem_of_getElem? (i := 2) rfl)))
  obtain ⟨a53, k53, m53, p53, q53, r53⟩ := Cond.arrayClass_spec (hts _ (AC_in (.boolean) (List.mem_of_getElem? (i := 3) rfl)))
  obtain ⟨m60, a60, k60, p60, -, q60, r60, t60⟩ := Cond.arrayOver_spec (hts _ (AO_in "StandInMill$Face" (List.mem_of_getElem? (i := 0) rfl)))
  obtain ⟨m61, a61, k61, p61, -, q61, r61, t61⟩ := Cond.arrayOver_spec (hts _ (AO_in "StandInMill$OwnMethod" (List.mem_of_getElem? (i := 1) rfl)))
  obtain ⟨m62, a62, k62, p62, -, q62, r62, t62⟩ := Cond.arrayOver_spec (hts _ (AO_in "StandInMill$StandIn" (List.mem_of_getElem? (i := 2) rfl)))
  obtain ⟨m63, a63, k63, p63, -, q63, r63, t63⟩ := Cond.arrayOver_spec (hts _ (AO_in "StandInMill$StandMethod" (List.mem_of_getElem? (i := 3) rfl)))
  refine ⟨((fun c => match c with | 0 => c0 | 1 => c1 | 2 => c2 | 3 => c3 | 4 => c4 | 5 => c5 | 6 => c6 | 7 => c7 | 8 => c8 | 9 => c9 | _ => c0, fun c => match c with | 0 => i0 | 1 => i1 | 2 => i2 | 3 => i3 | 4 => i4 | 5 => i5 | 6 => i6 | 7 => i7 | 8 => i8 | 9 => i9 | _ => i0), (fun κ => match κ with | 50 => a50 | 51 => a51 | 52 => a52 | 53 => a53 | 60 => a60 | 61 => a61 | 62 => a62 | 63 => a63 | _ => a50), s.heap.size), rfl, ⟨?_, ?_⟩, fun w hw => ?_, fun C hC => hts _ (AO_in C hC)⟩
  · intro c q hq
    have hlt : c < 10 := (List.getElem?_eq_some_iff.mp hq).1
    rcases (show c = 0 ∨ c = 1 ∨ c = 2 ∨ c = 3 ∨ c = 4 ∨ c = 5 ∨ c = 6 ∨ c = 7 ∨ c = 8 ∨ c = 9 by omega) with rfl | rfl | rfl | rfl | rfl | rfl | rfl | rfl | rfl | rfl <;> cases hq
    · exact u0
    · exact u1
    · exact u2
    · exact u3
    · exact u4
    · exact u5
    · exact u6
    · exact u7
    · exact u8
    · exact u9
  · intro k q hq
    have hlt : k < 8 := (List.getElem?_eq_some_iff.mp hq).1
    rcases (show k = 0 ∨ k = 1 ∨ k = 2 ∨ k = 3 ∨ k = 4 ∨ k = 5 ∨ k = 6 ∨ k = 7 by omega) with rfl | rfl | rfl | rfl | rfl | rfl | rfl | rfl <;> cases hq
    · exact ⟨fun N z => ⟨(fun k h => by cases h), k50, q50, m50, r50⟩, p50⟩
    · exact ⟨fun N z => ⟨(fun k h => by cases h), k51, q51, m51, r51⟩, p51⟩
    · exact ⟨fun N z => ⟨(fun k h => by cases h), k52, q52, m52, r52⟩, p52⟩
    · exact ⟨fun N z => ⟨(fun k h => by cases h), k53, q53, m53, r53⟩, p53⟩
    · exact ⟨fun N z => ⟨(fun k h => by cases h), k60, q60, m60, r60⟩, k60, m60, q60, r60, p60, t60⟩
    · exact ⟨fun N z => ⟨(fun k h => by cases h), k61, q61, m61, r61⟩, k61, m61, q61, r61, p61, t61⟩
    · exact ⟨fun N z => ⟨(fun k h => by cases h), k62, q62, m62, r62⟩, k62, m62, q62, r62, p62, t62⟩
    · exact ⟨fun N z => ⟨(fun k h => by cases h), k63, q63, m63, r63⟩, k63, m63, q63, r63, p63, t63⟩
  · obtain ⟨a, i, b, nn, dd, q, rfl⟩ | ⟨a, i, x, q, rfl⟩ := NW_form w hw
    · exact va_Nw.of rfl (hts _ (NW_in _ hw))
    · exact va_Nw.of rfl (hts _ (NW_in _ hw))
theorem start_X {b : Nat} {s : State} {G : gG} (hG : G.2.2 = s.heap.size) (hts : ∀ w ∈ lw_tbl, w.before #[Value.ref b] s = true) (hgv : (Jvm.Cond.and given_1 narrow_1).before #[Value.ref b] s = true) : gX G s := by
  have hs := flat_of_before _ hgv
  have hA : ∀ a : Nat, a < s.heap.size → ¬ gA G a := fun a h1 h2 => by
    have h3 : G.2.2 ≤ a := h2
    rw [hG] at h3
    omega
  refine ⟨fun w hw => ?_, va_Zqof (hts _ LS_in.1) (hts _ LS_in.2.2) (hs _ (by decide +kernel)) hA, va_Zqof (hts _ LS_in.2.1) (hts _ LS_in.2.2) (hs _ (by decide +kernel)) hA, fun q hq => ?_, gLS.of (hts _ LS_in.1) hA, gLS.of (hts _ LS_in.2.1) hA, ?_⟩
  · have ht := (List.mem_filter.mp hw).2
    simp only [tok, Bool.and_eq_true] at ht
    exact va_Nw.of ht.1 (hts _ (XW_in w hw))
  · have h1 := hts _ (SR_in q hq)
    have hcur : ∃ cur, s.vm.findClass "StandInMill" = some cur := by
      have h2 := h1
      simp only [Cond.before, Cond.holds, Cond.value] at h2
      cases hc : s.vm.findClass "StandInMill" with
      | none => simp [hc] at h2
      | some cur => exact ⟨cur, rfl⟩
    obtain ⟨cur, hcur⟩ := hcur
    obtain ⟨k, cf, i, a, -, -, -, -, -, hev⟩ := Cond.stringRef_spec hcur h1
    exact ⟨a, vk_R.of h1 hev⟩
  · have h1 : (Cond.not (.castable xA xI)).before #[Value.ref b] s = true := hs _ (by decide +kernel)
    have hv := Cond.holds_not_iff.mp h1
    simp only [Cond.value] at hv
    cases ha : s.vm.findClass xA with
    | none => simp [ha] at hv
    | some c =>
      cases hb : s.vm.findClass xI with
      | none => simp [ha, hb] at hv
      | some t =>
        simp only [ha, hb, Option.some.injEq] at hv
        exact ⟨c, t, ha, hb, hv⟩
def PureLaw : Prop := ∀ (z L : Nat) (f : Nat → Int32), L ≤ 4608 → ∃ S' d' dc ds, f_L_law L f (S0 z) d0 = some ((1, S', d'), dc, ds) ∧ dc ≤ 601024 ∧ ds ≤ 7293034
set_option maxHeartbeats 4000000 in
theorem whole_open (hp : PureLaw) {p : Program} {e : Env} {s : State} {m : MethodId} {below : List Frame} {meth : Method} {c : Code} (l : Launch) (hlt : l.stackTraces = false) (hnm : meth.name = "law") {b L : Nat} {xs : Nat → Int32} (hL : L ≤ 4608) (C0 : lw_At p s m meth c b L xs) : W p l e room_1 s m #[Value.ref b] below meth c s.heap [] 0 0 (lw_Z below #[Value.ref b] s) (entryFrame m ([Value.ref b] : List Value).toArray 7) := by
  obtain ⟨hx, hb, hr, hml, hown, hts, hXs, hbl, hlocks, hgv⟩ := C0
  obtain ⟨G, hG, hK⟩ := start_K hts
  have hX := start_X hG hts hgv
  obtain ⟨S', d', dc, ds, hf, hdc, hds⟩ := hp s.heap.size L xs hL
  rw [lg_entry_eq]
  have hl := lv_entry [Value.ref b] (n := 7) (Nat.le_of_ble_eq_true rfl)
  have hA : ∀ a : Nat, a < s.heap.size → ¬ gA G a := fun a h1 h2 => by
    have h3 : G.2.2 ≤ a := h2
    rw [hG] at h3
    omega
  have hE : gE (p, l, e, room_1, s, m, #[Value.ref b], below, meth, c, G) b_L_law 7 "StandInMillLaw" (some (.boolean)) "law" 11 426 := ⟨hx, hb, hml, hown, fun w hw => hts w (WG_in w hw), hK, by rw [hG]; exact Nat.le_refl _, hlocks, hr, hnm, rfl, rfl⟩
  have hZ : lw_end (p, l, e, room_1, s, m, #[Value.ref b], below, meth, c, G) := by
    intro cells slots S d pc q lv dg h1 h2 ls H locs hv hH hS
    refine va_forget (fun q hq => ?_) (W.widen h1 h2 ?_)
    · have h3 : G.2.2 ≤ q.base := hS.2.2 q hq
      rw [hG] at h3
      exact h3
    · exact lw_ret hx hb hr hlocks dg.1
  refine w_L_law hE hXs hbl (hA b hbl) hX hlt hZ (mc := dc) (ms := ds) hdc hds 0 0 dc ds (S0 s.heap.size) d0 hf (Nat.zero_add _) (Nat.zero_add _) _ s.heap [] ?_ ⟨rfl, fun a ha => absurd rfl ha⟩ va_S.rf
  refine ⟨hl.1.trans hml.symm, hl.2.1, fun i v hi => ?_⟩
  refine hl.2.2 (i, v) ?_
  match i, hi with
  | 0, hi => cases hi; exact List.mem_cons_self
  | 1, hi => cases hi
  | 2, hi => cases hi
  | 3, hi => cases hi
  | 4, hi => cases hi
  | 5, hi => cases hi
  | 6, hi => cases hi
  | (k + 7), hi => simp at hi
set_option maxHeartbeats 4000000 in
theorem lw_walk (hp : PureLaw) (l : Launch) (hlt : l.stackTraces = false) (b : Addr) (xs : List Int32) : MetFree l x (headSpec (Jvm.Cond.code x code maxLocals ret :: tables_1) room_1) (lw_P b xs) (fun _ _ _ _ _ => True) lw_Q := by
  refine MetFree.of_bodyS (code := code) (maxLocals := maxLocals) (ret := ret) (by decide) ?_ ?_
  · intro args s m h hn
    obtain ⟨meth, c, h1, h2, h3, h4, h5, h6, -, -⟩ := Cond.code_spec hn (atoms_spec (ws := Jvm.Cond.code x code maxLocals ret :: tables_1) h _ List.mem_cons_self)
    exact ⟨meth, c, h1, h2, h3, h4, h5, h6⟩
  · intro p e s m args below meth c s₁ B hml0 hP _
    obtain ⟨rfl, hx, hbd, hgv⟩ := hP
    obtain ⟨scr, harrAt, hlist, hof, hsmall⟩ := hx
    obtain ⟨hcb, hkn, -, -⟩ := State.arrayAt?_spec harrAt
    have hown : s.vm.findClass R_law = some m.cls := findClass_of_methodNamed B.named
    have hts0 : ∀ c ∈ (Jvm.Cond.code x code maxLocals ret :: tables_1), c.before #[Value.ref b] s = true := atoms_spec (ws := Jvm.Cond.code x code maxLocals ret :: tables_1) B.pre
    have hts : ∀ w ∈ lw_tbl, w.before #[Value.ref b] s = true := k2_hts_sels lw_privs (fun w hw => hts0 w (List.mem_cons_of_mem _ hw)) lw_privs_ok
    have hml : c.maxLocals = 7 := B.maxLocals_eq (hts0 _ List.mem_cons_self)
    have X₀ : Stand p l e room_1 s m #[Value.ref b] below meth c s₁ [] 0 0 := Stand.of_body B
    have hh0 : s₁.heap = s.heap := by rw [B.state]; rfl
    have hsz : scr.slots.size = xs.length := by rw [← Array.length_toList, hlist, List.length_map]
    have hval : ∀ j : Nat, j < xs.length → scr.slots[j]? = some (.int (xs.getD j 0)) := fun j hj => by
      rw [← Array.getElem?_toList, hlist]
      simp [hj]
    have hbl : b < s.heap.size := (Array.getElem?_eq_some_iff.mp hcb).1
    have hX : va_X b xs.length (fun j => xs.getD j 0) s s.heap := ⟨scr, hcb, hof, hkn, hsz, hval⟩
    have K : W p l e room_1 s m #[Value.ref b] below meth c s₁.heap [] 0 0 (lw_Z below #[Value.ref b] s) (entryFrame m ([Value.ref b] : List Value).toArray 7) := by
      rw [hh0]
      exact whole_open hp l hlt (name_of_methodNamed B.named B.method).1 hbd ⟨B.exec, B.bytes, B.returns, hml, hown, hts, hX, hbl, B.notSynchronized, hgv⟩
    obtain ⟨t, a1, o, b1, b2, b3⟩ := K s₁ rfl X₀
    exact ⟨t, o, a1, b1, b2, b3⟩
theorem lw_pre_spec {args : Array Value} {s : State} (h : (Jvm.Cond.and given_1 narrow_1).before args s = true) (hr : rest_1_c.before args s = true) : ∃ (b : Addr) (xs : List Int32), lw_P b xs args s := by
  have hs := flat_of_before _ h
  have hq := flat_of_before _ hr
  have hc : (Cond.count 1).before args s = true := hs _ (by decide +kernel)
  have harr : (Cond.arrayOf (.arg 0) .int).before args s = true := hs _ (by decide +kernel)
  have hle : (Cond.le (.length (.arg 0)) (.int 4608)).before args s = true := hs _ (by decide +kernel)
  have hlen : (Cond.isInt (.length (.arg 0))).before args s = true := hq _ (by decide +kernel)
  have hall : (Cond.all (.arg 0) (.isInt (.elem (.arg 0) (.index 0)))).before args s = true := hq _ (by decide +kernel)
  obtain ⟨b, xs, hb, hx⟩ := State.ints_of_pre rfl harr hlen hall
  have hsm : xs.length < 2 ^ 31 := hx.choose_spec.2.2.2
  have hev : (Term.length (.arg 0)).eval args s none [] s = some (.int xs.length.toInt32) := hx.length_eval hb
  have hv := Cond.le_ints hev (show (Term.int 4608).eval args s none [] s = some (.int 4608) from rfl)
  have hd : xs.length.toInt32 ≤ 4608 := by
    simpa [Cond.before, Cond.holds, hv] using hle
  have hN : xs.length ≤ 4608 := (Int32.ofNat_le_ofNat hsm (by decide)).mp (show Int32.ofNat xs.length ≤ Int32.ofNat 4608 from hd)
  exact ⟨b, xs, Cond.one_arg hc (show args[0]? = some (.ref b) from hb), hx, hN, h⟩
theorem lw_comes (hp : PureLaw) (l : Launch) (hlt : l.stackTraces = false) : Comes l x (Jvm.Cond.code x code maxLocals ret :: tables_1) room_1 (fun tb e args s => Calls_1 tb e args s ∧ rest_1 tb e args s ∧ Pre_1 tb e args s)
    (fun _ _ args s o t => lw_Q args s o t) := by
  intro p e ha hc hk s m args below hf hfit hheap happ hpre
  obtain ⟨b, xs, hP⟩ := lw_pre_spec hpre.2.2 hpre.2.1
  obtain ⟨k, o, h1, h2, h3, hQ⟩ := lw_walk hp l hlt b xs p e ha hc hk s m args below hf ((Spec.applies_iff_loose hf).mp happ).1 hP trivial
  exact ⟨k, o, h1, h2, h3, hQ⟩
theorem lw_frame {s t : State} {o : Outcome} {args : Array Value} (h : Framed s o t [] 601024 7293034) :
    Framed s o t (fieldLocs frame_1_writes args s ++ arrayLocs frame_1_arrays args s ++ staticLocs frame_1_statics s) 601024 7293034 := h
theorem lw_limb (hp : PureLaw) (L : Cond) (hL : ∀ (args : Array Value) (s t : State), L.after args s (.returned (some (.int 1))) t = true) :
    ArmFor flags0 classFile x code maxLocals ret World_1 tables_1 room_1 Calls_1 rest_1 Pre_1
      (fun tb e a s o t => postC L tb e a s o t ∧ Framed s o t (fieldLocs frame_1_writes a s ++ arrayLocs frame_1_arrays a s ++ staticLocs frame_1_statics s) 601024 7293034) := by
  intro l hfl _ _ p e ha hc hk s m args below hf hfit hheap happ hpre
  obtain ⟨k, o, h1, h2, h3, rfl, hF⟩ := lw_comes hp l (by rw [Launch.stackTraces, hfl]; decide +kernel) p e ha hc hk s m args below hf hfit hheap happ hpre
  exact ⟨k, _, h1, h2, h3, hL args s _, lw_frame hF⟩
theorem i_vc_open (hp : PureLaw) : Claimed_1_1 ∧ Claimed_1_2 := ⟨lw_limb hp limb_1_1 (fun args s t => by simp [limb_1_1, Cond.after, Cond.holds, Cond.value]), lw_limb hp limb_1_2 (fun args s t => Cond.after_iff.mpr (by
  first | (rw [show limb_1_2 = Cond.eq .result (.int 1) from rfl, Cond.eq_ints (x := 1) (y := 1) rfl rfl]; simp; done) | (simp [limb_1_2, Cond.value, Term.eval]; done)))⟩
