theorem zq_ref {C n d : String} {A : Nat → Prop} {args : Array Value} {U : State} (h : va_Zq C n d A U U.heap) : (Cond.isRef (.static C n d)).before args U = true := by
  rcases h with h | ⟨t, h⟩
  · obtain ⟨cf, kf, fi, f, a, cell, h1, h2, h3, h4, h5, h6, h7, h8⟩ := h
    simp [Cond.before, Cond.holds, Cond.value, Term.eval, State.fieldNamed?, h1, h2, h4, h5, h6, h7]
  · obtain ⟨cf, kf, fi, f, a, cell, h1, h2, h3, h4, h5, h6, h7, h8⟩ := h
    simp [Cond.before, Cond.holds, Cond.value, Term.eval, State.fieldNamed?, h1, h2, h4, h5, h6, h7]
theorem same_kept {s t : State} {k n : Nat} (h : s.sameButNew t [] k n) {a : Nat} (ha : a < s.heap.size) : t.heap[a]? = s.heap[a]? := by
  have h0 : s.heap[a]? = some s.heap[a] := Array.getElem?_eq_getElem ha
  obtain ⟨c', h1, h2, h3, h4⟩ := h.2.2.2.2.2 a _ h0
  rw [h1, h0]
  congr 1
  rw [h2]
  have : c'.slots = s.heap[a].slots := by
    apply Array.ext_getElem?
    intro i
    exact h4 i (by simp)
  rw [this]
theorem g_ldcwS {p : Program} {l : Launch} {e : Env} {R : Room} {s : State} {m : MethodId} {args : Array Value} {below : List Frame} {meth : Method} {c : Code} {H : Heap} {locs : List Loc} {cells slots : Nat} {Q : State → Prop} {cc : ByteArray} {pc : Nat} {ls : Array Slot} {rest : List Value} (hexec : p.tables.exec = Jvm.exec) (hb : c.code = cc) {own tx : String} {index q : Nat} (hown : s.vm.findClass own = some m.cls) (hZ : vk_R own index tx q s) (hdg : decode cc pc = .ok (.ldc_w index, 3))
    (k : W p l e R s m args below meth c H locs cells slots Q (F0 m (pc + 3) ls (.ref q :: rest))) : W p l e R s m args below meth c H locs cells slots Q (F0 m pc ls rest) := by
  intro T hT X
  obtain ⟨t, a1, b1⟩ := k T hT X
  refine ⟨t, ?_, b1⟩
  obtain ⟨kc, cf, i, a', hk, hcf, hcp, -, hr, hev'⟩ := Cond.stringRef_spec hown hZ.1
  cases hZ.2.symm.trans hev'
  obtain ⟨k', hk', he⟩ := X.warmed.alike.2.2 _ _ hk
  have hr' : k'.resolved[index]? = some (some (.string q)) := by
    rcases X.warmed.entry hk hk' index with h | ⟨h, -⟩
    · rw [h]; exact hr
    · rw [hr] at h; cases h
  jvm_step X.here [hexec, hb, hdg, ldc_w.wp_string (e := e) (s := T) (f := F0 m pc ls rest) X.here.top hk' (by rw [he]; exact hcf) hcp hr']
  exact a1
def nZ (S : gS) : gS := (S.1, S.2.1, S.2.2.1, S.2.2.2 + 1)
section GT
variable {X : GX} {cells slots : Nat} {Q : State → Prop} {S : gS} {d : gD} {pc q : Nat} {lv : List (Option Value)} {st : List Value} {cc : ByteArray} {nL nf nw : Nat} {own nm : String} {rt : Option FieldType}
theorem gH.nZ {H H' : Heap} (hH : gH (xG X) S d H) (hz : H'.size = H.size + 1) (ho : ∀ q : Nat, q < H.size → H'[q]? = H[q]?) : gH (xG X) (nZ S) d H' := by
  refine ⟨by rw [hz, hH.1]; rfl, fun b hb => ?_⟩
  have hb' : sK S b ≠ 0 := hb
  obtain ⟨h1, h2⟩ := hH.2 b hb'
  have hlt := hH.lt hb'
  rw [← hH.1] at hlt
  exact ⟨h1, h2.kept (ho b hlt) rfl rfl (gV_congr rfl (fun _ => rfl) (fun _ => rfl) (fun _ => rfl))⟩
set_option maxHeartbeats 4000000 in
theorem g_throw {cls tx : String} {idN idC idS q1 q2 q3 q4 q5 mc ms : Nat} (hE : gE X cc nL "StandInMill" rt nm nf nw) (hX : gX (xG X) (xs X)) (htr : (xl X).stackTraces = false) (het : (xc X).exceptionTable.isEmpty = true)
    (hat : ∀ w ∈ Bundle.ownAtoms "StandInMill" idC cls xUp, w ∈ XW ∨ w = .isRef (.static xT "UNASSIGNED_STACK" xSte) ∨ w = .isRef (.static xT "SUPPRESSED_SENTINEL" xLs) ∨ w = .laysStatic xT "UNASSIGNED_STACK" xSte ∨ w = .laysStatic xT "SUPPRESSED_SENTINEL" xLs) (hfit : Bundle.fit cls = true)
    (hw1 : Cond.classLink "StandInMill" idN cls ∈ WG) (hw2 : Cond.instantiable cls 6 ∈ WG) (hw3 : Cond.initialized cls ∈ WG) (hsx : (idS, tx) ∈ XS) (hR : 6 ≤ nf ∧ 82 ≤ nw) (hc1 : cells + 1 ≤ (xR X).cells) (hs1 : slots + 6 ≤ (xR X).slots) (hm : cells + 1 = mc) (hs : slots + 6 = ms)
    (dn : dc cc pc (.new idN) 3 q1) (dd : dc cc q1 .dup 1 q2) (dl : dc cc q2 (.ldc idS) 2 q3 ∨ dc cc q2 (.ldc_w idS) 3 q3) (di : dc cc q3 (.invokespecial idC) 3 q4) (da : dc cc q4 .athrow 1 q5) :
    gw X cells slots (gQT X cls (nZ S) d mc ms) S d pc lv [] := by
  subst hm; subst hs
  obtain ⟨dn, rfl⟩ := dn
  obtain ⟨dd, rfl⟩ := dd
  obtain ⟨di, rfl⟩ := di
  obtain ⟨da, rfl⟩ := da
  intro ls H locs hl hH hS
  obtain ⟨cC, kC, hfc, hk, hkind, -, -, hn6⟩ := Cond.instantiable_spec (hE.wd _ hw2)
  refine W.newcK hE.ex hE.bt hE.ow (hE.wd _ hw1) (hE.wd _ hw2) (hE.wd _ hw3) rfl dn hc1 hs1 hfc hH.1 fun H1 kC' hkC e1 z1 o1 => ?_
  cases hk.symm.trans hkC
  refine lv_dup hE.ex hE.bt dd rfl ?_
  obtain ⟨sa, hsa⟩ := hX.2.2.2.1 (idS, tx) hsx
  have core : W (xp X) (xl X) (xe X) (xR X) (xs X) (xm X) (xa X) (xb X) (xM X) (xc X) H1 locs (cells + 1) (slots + 6) (gQT X cls (nZ S) d (cells + 1) (slots + 6)) (F0 (xm X) q3 ls [.ref sa, .ref (sZ S), .ref (sZ S)]) := by
    intro T hT X0
    have hpush : T.heap = H.push (blank cC kC) := by
      rw [hT]
      apply Array.ext_getElem?
      intro i
      rw [Array.getElem?_push]
      by_cases hi : i = H.size
      · rw [if_pos hi, hi, hH.1]; exact e1
      · rw [if_neg hi]
        by_cases hi2 : i < H.size
        · exact o1 i (by rw [← hH.1]; exact hi2)
        · have a1 : H1[i]? = none := by rw [Array.getElem?_eq_none_iff, z1, ← hH.1]; omega
          have a2 : H[i]? = none := by rw [Array.getElem?_eq_none_iff]; omega
          rw [a1, a2]
    have X1 := stand_rebase X0 hpush hc1 hs1
    have hb6 : (blank cC kC).slots.size = 6 := by simp [blank, hn6]
    generalize hsp : ({ xs X with heap := H, slotsUsed := T.slotsUsed - (blank cC kC).slots.size } : State) = sp at X1
    have hvm : sp.vm = (xs X).vm := by rw [← hsp]
    have hhp : sp.heap = H := by rw [← hsp]
    have hgx : gX (xG X) sp := gX.moved (s := xs X) (by rw [hvm]; exact State.WarmedH.refl _) (by rw [hhp]; exact hS.2.1) hX
    have hatoms : ∀ w ∈ Bundle.ownAtoms "StandInMill" idC cls xUp, w.before (xa X) sp = true := by
      intro w hw
      rcases hat w hw with h | h | h | h | h
      · have ht := (List.mem_filter.mp h).2
        simp only [tok, Bool.and_eq_true] at ht
        exact va_Nw.use ht.1 (hgx.1 w h)
      · rw [h]; exact zq_ref hgx.2.1
      · rw [h]; exact zq_ref hgx.2.2.1
      · rw [h]; exact hgx.2.2.2.2.1.use
      · rw [h]; exact hgx.2.2.2.2.2.1.use
    have htr' : (xe X).platform.stackTraces = false := by rw [X0.admits.platform]; exact htr
    have hzn : T.heap[sZ S]? = some (blank cC kC) := by rw [hT]; exact e1
    obtain ⟨U, hsteps, hrun, hend, hW, hsame, ce, hce, K⟩ := X1.ctorThrowS hE.ex htr' (own := "StandInMill") (cls := cls) (names := xUp) (ic := idC) (by rw [hvm]; exact hE.ow) hfit (by decide +kernel) hatoms
      (fun x hx => by cases hx) (cX := cC) (kX := kC) (by rw [hvm]; exact hfc) (by rw [hvm]; exact hk) hzn (by rw [hhp, hH.1]; exact Nat.le_refl _) (msg := .ref sa) rfl
      (g := F0 (xm X) q3 ls [.ref sa, .ref (sZ S), .ref (sZ S)]) rfl hl.1 rfl rfl (rest := []) rfl (by rw [hE.bt]; exact di) (by rw [hE.bt]; exact da) (covers_of_empty het _)
      (by show 2 + 3 < (xR X).frames; rw [hE.fr]; omega) (by show 2 * 0 + 1 + (13 * 3 + 42) ≤ (xR X).locals; rw [hE.lw]; omega) hE.lk
    have hUs : U.heap.size = H.size + 1 := by
      have h1 : U.heap.size ≤ sp.heap.size + 1 := hsame.2.2.1
      have h2 := (Array.getElem?_eq_some_iff.mp hce).1
      rw [hhp] at h1
      rw [← hH.1] at h2
      omega
    have hUo : ∀ q : Nat, q < H.size → U.heap[q]? = H[q]? := fun q hq => by
      have := same_kept hsame (a := q) (by rw [hhp]; exact hq)
      rw [hhp] at this
      exact this
    have hcecls : (xs X).vm.findClass cls = some ce.cls := by rw [← hvm]; exact K.cls
    have hce2 : ce.cls = cC := Option.some.inj (hcecls.symm.trans hfc)
    have hza : (xG X).2.2 ≤ sZ S := by rw [← hH.1]; exact Nat.le_trans hE.sz hS.1
    have hTs : T.heap.size = H.size + 1 := by rw [hpush, Array.size_push]
    have hTo : ∀ q : Nat, q < H.size → T.heap[q]? = H[q]? := fun q hq => by rw [hpush, Array.getElem?_push, if_neg (Nat.ne_of_lt hq)]
    have hused : T.slotsUsed = H.foldl (fun n c => n + c.slots.size) 0 + 6 := by
      have h1 : T.slotsUsed = T.heap.foldl (fun n c => n + c.slots.size) 0 := by simpa [State.slotsTrue] using X0.book
      rw [h1, hpush, Array.foldl_push, hb6]
    have h2 : (T.setVm (xs X).vm).sameButNew ({ U with vm := (xs X).vm } : State) ((List.range 6).map fun i => (⟨sZ S, i⟩ : Loc)) 0 0 := by
      obtain ⟨g1, g2, g3, g4, g5, g6⟩ := hsame
      refine ⟨?_, ?_, ?_, ?_, ?_, ?_⟩
      · have a1 := X0.same.1
        have a2 : ({ U with vm := (xs X).vm } : State) = { sp.setFrames U.frames with heap := U.heap, slotsUsed := U.slotsUsed } := by rw [← hvm]; exact g1
        have b1 : ({ U with vm := (xs X).vm } : State) = { (xs X).setFrames U.frames with heap := U.heap, slotsUsed := U.slotsUsed } := a2.trans (by rw [← hsp]; rfl)
        have b2 : ∀ FT F, ((xs X).setFrames FT).setFrames F = (xs X).setFrames F := fun FT F => by rw [State.setFrames_setFrames]
        refine b1.trans ?_
        rw [a1]
        exact (congrArg (fun z : State => ({ z with heap := U.heap, slotsUsed := U.slotsUsed } : State)) (b2 _ _)).symm
      · show T.heap.size ≤ U.heap.size; omega
      · show U.heap.size ≤ T.heap.size + 0; omega
      · show U.slotsUsed = T.slotsUsed + ((U.heap.toList.drop T.heap.size).map (·.slots.size)).sum
        have b1 : U.slotsUsed = sp.slotsUsed + ((U.heap.toList.drop sp.heap.size).map (·.slots.size)).sum := g4
        have b2 : sp.slotsUsed = T.slotsUsed - 6 := by rw [← hsp, hb6]
        have b3 : U.heap.toList.drop sp.heap.size = [ce] := by
          rw [hhp]
          apply List.ext_getElem?
          intro i
          rw [List.getElem?_drop, Array.getElem?_toList]
          cases i with
          | zero => rw [Nat.add_zero, hH.1, hce]; rfl
          | succ i =>
            have : U.heap[H.size + (i + 1)]? = none := by rw [Array.getElem?_eq_none_iff]; omega
            rw [this]; rfl
        have b4 : U.heap.toList.drop T.heap.size = [] := by
          rw [List.drop_eq_nil_iff, Array.length_toList]; omega
        rw [b1, b2, b3, b4]
        simp only [List.map_cons, List.map_nil, List.sum_cons, List.sum_nil, K.size]
        omega
      · show ((U.heap.toList.drop T.heap.size).map (·.slots.size)).sum ≤ 0
        have b4 : U.heap.toList.drop T.heap.size = [] := by
          rw [List.drop_eq_nil_iff, Array.length_toList]; omega
        rw [b4]; simp
      · refine fun (a : Nat) c0 (h0 : T.heap[a]? = some c0) => ?_
        have hlt : a < T.heap.size := (Array.getElem?_eq_some_iff.mp h0).1
        by_cases ha : a < H.size
        · refine ⟨c0, ?_, rfl, rfl, fun i _ => rfl⟩
          show U.heap[a]? = some c0
          rw [hUo a ha, ← hTo a ha, h0]
        · have haz : a = sZ S := by rw [← hH.1]; omega
          subst haz
          rw [hzn] at h0
          cases h0
          refine ⟨ce, hce, ?_, by rw [K.size, hb6], fun i hi => ?_⟩
          · have m1 := K.monitor
            have m2 := K.hash
            have m3 := K.vm
            obtain ⟨c1, c2, c3, c4, c5⟩ := ce
            simp only at hce2 m1 m2 m3
            subst hce2; subst m1; subst m2; subst m3
            rfl
          · have : ¬ i < 6 := fun h => hi (List.mem_map.mpr ⟨i, List.mem_range.mpr h, rfl⟩)
            rw [Array.getElem?_eq_none_iff.mpr (by rw [K.size]; omega), Array.getElem?_eq_none_iff.mpr (by rw [hb6]; omega)]
    refine ⟨U, hsteps, .threw (sZ S), hrun, hend, ⟨sZ S, rfl, hH.nZ hUs hUo, ⟨?_, ?_⟩, ce, hce, K.vm, hcecls⟩, locs ++ ((List.range 6).map fun i => (⟨sZ S, i⟩ : Loc)), ⟨⟨_, rfl⟩, by rw [← hsp] at hW; exact hW, X0.same.trans h2⟩, ?_⟩
    · exact Nat.le_trans hS.1 (by omega)
    · intro q h1 h2
      rw [hUo q (Nat.lt_of_lt_of_le h1 hS.1)]
      exact hS.2.1 q h1 h2
    · intro q hq
      rcases List.mem_append.mp hq with h | h
      · exact hS.2.2 q h
      · obtain ⟨i, -, rfl⟩ := List.mem_map.mp h
        exact hza
  rcases dl with ⟨dl, rfl⟩ | ⟨dl, rfl⟩
  · exact va_ldcS hE.ex hE.bt hE.ow hsa dl core
  · exact g_ldcwS hE.ex hE.bt hE.ow hsa dl core
end GT
