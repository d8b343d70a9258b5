theorem cnt_roomL {R c n n0 k m : Nat} (hm : m ≤ R) (h : c + n = m) (e : n = n0 + k) : c + k ≤ R := by omega
theorem cnt_room0L {R c n m : Nat} (hm : m ≤ R) (h : c + n = m) : c + 0 ≤ R := by omega
def GW (l : Launch) (G : gG) (y : MethodName) (cc : ByteArray) (nL : Nat) (rt : Option FieldType) (hh : List (Nat × Nat × Nat × Nat)) (nf nw mc ms : Nat) (av : List gT) (S : gS) (d : gD) (rv : Option Value) (S' : gS) (d' : gD) : Prop :=
  Met l y (Cond.codeWith y cc nL rt hh :: WG) { frames := nf, locals := nw, cells := mc, slots := ms } (gPx G av S d) (gQc G rv S' d') mc ms (gA G)
theorem GW.of {l : Launch} {G : gG} {y : MethodName} {cc : ByteArray} {nL : Nat} {rt : Option FieldType} {hh : List (Nat × Nat × Nat × Nat)} {nf nw mc ms : Nat} {av : List gT} {S : gS} {d : gD} {rv : Option Value} {S' : gS} {d' : gD}
    (hy : plainName y.cls = true) (hlen : (tl av).length ≤ nL)
    (h : ∀ X : GX, xl X = l → xG X = G → xR X = { frames := nf, locals := nw, cells := mc, slots := ms } → gE X cc nL y.cls rt y.name nf nw → gX (xG X) (xs X) → (xc X).exceptionTable.toList.map (fun h => (h.startPc, h.endPc, h.handlerPc, h.catchType)) = hh → gw X 0 0 (gQ X rv S' d' mc ms) S d 0 (tl av) []) : GW l G y cc nL rt hh nf nw mc ms av S d rv S' d' := by
  refine va_MetW (hh := hh) (cc := cc) (maxL := nL) (ret := rt) hy rfl ?_
  intro p e s m args below meth c s₁ B hml hv
  obtain ⟨⟨rfl, hH, hK, hz⟩, hX⟩ := hv
  have hx := B.exec
  have hb := B.bytes
  have hr := B.returns
  have hts := atoms_spec (ws := Cond.codeWith y cc nL rt hh :: WG) B.pre
  have hown : s.vm.findClass y.cls = some m.cls := findClass_of_methodNamed B.named
  have hlocks := B.notSynchronized
  have hin : meth.name = y.name := (name_of_methodNamed B.named B.method).1
  obtain ⟨m9, meth9, c9, hn9, hm9, hc9, -, -, htab, -⟩ := Cond.codeWith_spec (hts _ List.mem_cons_self)
  cases B.named.symm.trans hn9
  cases B.method.symm.trans hm9
  cases (Stand.of_body B).code.symm.trans hc9
  rw [lg_entry_eq]
  have hl := lv_entry (av.map tv) (n := nL) (by rw [tl_len]; exact hlen)
  refine h (p, l, e, { frames := nf, locals := nw, cells := mc, slots := ms }, s, m, (av.map tv).toArray, below, meth, c, G) rfl rfl rfl ⟨hx, hb, hml, hown, fun w hw => hts w (List.mem_cons_of_mem _ hw), hK, hz, hlocks, hr, hin, rfl, rfl⟩ hX htab _ s.heap [] ?_ hH va_S.rf
  refine ⟨hl.1.trans hml.symm, hl.2.1, fun i v hi => ?_⟩
  have h9 := tl_args av 0 i v hi
  rw [Nat.zero_add] at h9
  exact hl.2.2 (i, v) h9
section GV
variable {X : GX} {cells slots : Nat} {Q : State → Prop} {S : gS} {d : gD} {pc q : Nat} {lv : List (Option Value)} {st : List Value} {cc : ByteArray} {nL nf nw : Nat} {own nm : String} {rt : Option FieldType}
theorem g_callSW {y : MethodName} {b2 : ByteArray} {n2 np nf2 nw2 mc ms idx : Nat} {r2 : Option FieldType} {hh : List (Nat × Nat × Nat × Nat)} {av : List gT} {rv : Option Value} {S' : gS} {d' : gD} {st0 stk : List Value} (rest : List Value) (hE : gE X cc nL own rt nm nf nw) (hX : gX (xG X) (xs X)) (hM : GW (xl X) (xG X) y b2 n2 r2 hh nf2 nw2 mc ms av S d rv S' d')
    (hcw : Cond.codeWith y b2 n2 r2 hh ∈ WG) (hini : Cond.initialized y.cls ∈ WG) (hyd : y.cls ≠ "java/lang/invoke/MethodHandle" ∧ y.cls ≠ "java/lang/invoke/VarHandle" ∧ (parseMethodDescriptor y.desc).map (fun d => d.parameters.length) = some np) (hR : nf2 + 1 ≤ nf ∧ 8 + (n2 + 11) + nw2 ≤ nw) (hw : Cond.methodLink own idx y ∈ WG) (hw2 : Cond.static y ∈ WG) (hn : av.length = np) (dg : dc cc pc (.invokestatic idx) 3 q)
    (hi0 : (av.map tv).reverse ++ rest = st0) (ho0 : rv.toList ++ rest = stk) (hcs : (rest.map fun v => v.category).sum ≤ 8) (hc1 : cells + mc ≤ (xR X).cells) (hs1 : slots + ms ≤ (xR X).slots) (k : gw X (cells + mc) (slots + ms) Q S' d' q lv stk) : gw X cells slots Q S d pc lv st0 := by
  subst hi0; subst ho0
  obtain ⟨dg, rfl⟩ := dg
  refine g_ret (a := (av.map tv).toArray) (fun ls H locs hl hH hS => ?_) k
  have hPc : ∀ U : State, U.heap = H → (xs X).WarmedH U.vm → gPx (xG X) av S d (av.map tv).toArray U := fun U hU hW => ⟨⟨rfl, by rw [hU]; exact hH, hE.kn.moved hW, by rw [hU]; exact Nat.le_trans hE.sz hS.1⟩, gX.moved hW (by rw [hU]; exact hS.2.1) hX⟩
  have hpay : ∀ w ∈ Cond.codeWith y b2 n2 r2 hh :: WG, ∀ (a' : Array Value) (U : State), (xs X).WarmedH U.vm → w.before a' U = true := by
    intro w hw9 a' U hU
    have hw8 : w ∈ WG := by
      rcases List.mem_cons.mp hw9 with h | h
      · rw [h]; exact hcw
      · exact h
    exact word_at hU (WG_good w hw8) (hE.wd w hw8)
  have hK : Back (xl X) (xR X) (xp X) (xe X) (xb X) (xs X) (xa X) y 3 8 (PreOf (xR X) mc ms (gPx (xG X) av S d)) (PostOf (gQc (xG X) rv S' d') mc ms (gA (xG X))) :=
    va_backW (bytes := b2) (maxL := n2) (ret := r2) (hh := hh) hM gPx.blind rfl rfl (by rw [hE.fr]; exact hR.1) (by rw [hE.lw]; exact hR.2) hpay List.mem_cons_self (fun a' U hW => word_at hW (WG_good _ hini) (hE.wd _ hini))
  intro T hT X0
  obtain ⟨mk, methM, cM, hnamed, hmethM, -, -, -, -, -, -, hsigM⟩ := Cond.codeWith_spec (hE.wd _ hcw)
  have hstatic : methM.isStatic = true := Cond.static_spec hnamed hmethM (hE.wd _ hw2)
  obtain ⟨kP, hkP, -⟩ := className_of_methodNamed hnamed
  have hinitP : kP.init = .initialized := Cond.initialized_spec (findClass_of_methodNamed hnamed) hkP (hE.wd _ hini)
  have hlen : (av.map tv).length = methM.sig.parameters.length := by
    have h2 := hyd.2.2
    rw [hsigM] at h2
    rw [List.length_map, hn]
    exact (Option.some.inj h2).symm
  obtain ⟨vm₁, X₁, hstep₁⟩ := X0.invokestatic hE.ex hE.ow (hE.wd _ hw) hnamed hmethM hstatic hkP hinitP ⟨hyd.1, hyd.2.1⟩ (g := F0 (xm X) pc ls ((av.map tv).reverse ++ rest)) rfl (argsL := av.map tv) (rest := rest) hlen rfl (by rw [hE.bt]; exact dg)
  obtain ⟨v, ⟨U', l2, c2, s2⟩, X', ⟨g', mk', t, L, e1, e2, hq, h1, hL, h2, h3⟩, hsteps⟩ := hK (xm X) (xM X) (xc X) ⟨T.setVm vm₁, locs, cells, slots⟩ (F0 (xm X) pc ls rest) (.invokestatic idx) mk (av.map tv).toArray X₁ rfl hl.1 (by rw [hE.bt]; exact dg) (lv_room hcs) (X₁.named hnamed) ⟨hc1, hs1, hPc (T.setVm vm₁) hT X₁.warmed⟩
  dsimp only [Pt.U, Pt.locs, Pt.cells, Pt.slots] at X' e1 e2 h1 h2 h3 hsteps
  subst h1; subst h2; subst h3
  exact ⟨v, (T.setVm vm₁).calling g' mk' (av.map tv).toArray, t, U', L, hT, X', hL, e1, e2, hq, fun target h => hstep₁ _ fun acts => by rw [doInvoke_state]; exact hsteps.trans h⟩
theorem g_sld {b L : Nat} {f : Nat → Int32} {i : Int32} (hE : gE X cc nL own rt nm nf nw) (hXs : va_X b L f (xs X) (xs X).heap) (hb : b < (xs X).heap.size) (hbA : ¬ gA (xG X) b) (hin : vp_in i L) (dg : dc cc pc .iaload 1 q) (kk : ∀ x, f i.toNatClampNeg = x → gw X cells slots Q S d q lv (.int x :: st)) : gw X cells slots Q S d pc lv (.int i :: va_rf (some b) :: st) := by
  obtain ⟨dg, rfl⟩ := dg
  exact fun ls H locs hl hH hS => va_sld hE.ex hE.bt hXs hb hbA hS hin dg (kk _ rfl ls H locs hl hH hS)
theorem g_slen {b L : Nat} {f : Nat → Int32} (hE : gE X cc nL own rt nm nf nw) (hXs : va_X b L f (xs X) (xs X).heap) (hb : b < (xs X).heap.size) (hbA : ¬ gA (xG X) b) (dg : dc cc pc .arraylength 1 q) (kk : gw X cells slots Q S d q lv (.int (Int32.ofNat L) :: st)) : gw X cells slots Q S d pc lv (va_rf (some b) :: st) := by
  obtain ⟨dg, rfl⟩ := dg
  exact fun ls H locs hl hH hS => va_slen hE.ex hE.bt hXs hb hbA hS dg (kk ls H locs hl hH hS)
end GV
def bdT {β : Type} (x : Option (((Int32 ⊕ Nat) × gS × gD) × Nat × Nat)) (f : Int32 → gS → gD → Option (β × Nat × Nat)) (g : Nat → gS → gD → Option (β × Nat × Nat)) : Option (β × Nat × Nat) := match x with
  | none => none
  | some ((.inl r, S, d), n, m) => ac n m (f r S d)
  | some ((.inr k, S, d), n, m) => ac n m (g k S d)
theorem bdT_s {β : Type} {x : Option (((Int32 ⊕ Nat) × gS × gD) × Nat × Nat)} {f : Int32 → gS → gD → Option (β × Nat × Nat)} {g : Nat → gS → gD → Option (β × Nat × Nat)} {r : β} {dc ds : Nat} (h : bdT x f g = some (r, dc, ds)) :
    (∃ a S d n m n2 m2, x = some ((.inl a, S, d), n, m) ∧ f a S d = some (r, n2, m2) ∧ dc = n2 + n ∧ ds = m2 + m) ∨ (∃ k S d n m n2 m2, x = some ((.inr k, S, d), n, m) ∧ g k S d = some (r, n2, m2) ∧ dc = n2 + n ∧ ds = m2 + m) := by
  cases x with
  | none => cases h
  | some p =>
    obtain ⟨⟨a, S, d⟩, n, m⟩ := p
    cases a with
    | inl a =>
      obtain ⟨n2, m2, h1, h2, h3⟩ := ac_s (c := n) (s := m) (x := f a S d) h
      exact Or.inl ⟨a, S, d, n, m, n2, m2, rfl, h1, h2, h3⟩
    | inr k =>
      obtain ⟨n2, m2, h1, h2, h3⟩ := ac_s (c := n) (s := m) (x := g k S d) h
      exact Or.inr ⟨k, S, d, n, m, n2, m2, rfl, h1, h2, h3⟩
theorem xcast {cls : String} {ic : Nat} (hat : ∀ w ∈ Bundle.ownAtoms "StandInMill" ic cls xUp, w ∈ XW ∨ w = .isRef (.static xT "UNASSIGNED_STACK" xSte) ∨ w = .isRef (.static xT "SUPPRESSED_SENTINEL" xLs) ∨ w = .laysStatic xT "UNASSIGNED_STACK" xSte ∨ w = .laysStatic xT "SUPPRESSED_SENTINEL" xLs) {G : gG} {s : State} (hX : gX G s) {c : ClassId} (hc : s.vm.findClass cls = some c) : s.vm.assignable c c = true := by
  have hm : Cond.castable cls cls ∈ Bundle.ownAtoms "StandInMill" ic cls xUp := by simp [Bundle.ownAtoms]
  rcases hat _ hm with h | h | h | h | h
  · have h1 : (Cond.castable cls cls).before #[] s = true := hX.1 _ h
    obtain ⟨c3, c4, h3, h4, h5⟩ := Cond.castable_spec h1
    cases hc.symm.trans h3
    cases hc.symm.trans h4
    exact h5
  all_goals cases h
theorem xcase1 {G : gG} {s : State} (hX : gX G s) {p1 p2 : Nat} : ∀ c1 c2 cx, s.vm.findClass xI = some c1 → s.vm.findClass xA = some c2 → s.vm.findClass xI = some cx → (s.vm.assignable cx c1 = true ∧ p1 = p1) ∨ (s.vm.assignable cx c1 = false ∧ s.vm.assignable cx c2 = true ∧ p1 = p2) := by
  intro c1 c2 cx h1 h2 h3
  cases h1.symm.trans h3
  exact Or.inl ⟨xcast xat_1 hX h1, rfl⟩
theorem xcase2 {G : gG} {s : State} (hX : gX G s) {p1 p2 : Nat} : ∀ c1 c2 cx, s.vm.findClass xI = some c1 → s.vm.findClass xA = some c2 → s.vm.findClass xA = some cx → (s.vm.assignable cx c1 = true ∧ p2 = p1) ∨ (s.vm.assignable cx c1 = false ∧ s.vm.assignable cx c2 = true ∧ p2 = p2) := by
  intro c1 c2 cx h1 h2 h3
  cases h2.symm.trans h3
  obtain ⟨a, b, g1, g2, g3⟩ := hX.2.2.2.2.2.2
  cases h2.symm.trans g1
  cases h1.symm.trans g2
  exact Or.inr ⟨g3, xcast xat_2 hX h2, rfl⟩
