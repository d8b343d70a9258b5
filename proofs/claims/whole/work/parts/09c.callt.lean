section GU
variable {X : GX} {cells slots : Nat} {Q : State → Prop} {S : gS} {d : gD} {pc q : Nat} {lv : List (Option Value)} {st : List Value} {cc : ByteArray} {nL nf nw : Nat} {own nm : String} {rt : Option FieldType}
set_option maxHeartbeats 4000000 in
theorem g_callVT {y : MethodName} {b2 : ByteArray} {n2 np nf2 nw2 mc ms idx : Nat} {r2 : Option FieldType} {av : List gT} {cls : String} {S' : gS} {d' : gD} {st0 : List Value} (rest : List Value) {a κ N : Nat} {C : String} {T0 : u_T} {ty : Nat → FieldType} {as : List gT} {x1 x2 : ExceptionTableEntry} {lo hi p1 p2 hp : Nat}
    (hE : gE X cc nL "StandInMillLaw" rt nm nf nw) (hX : gX (xG X) (xs X)) (hM : GT (xl X) (xG X) y b2 n2 r2 nf2 nw2 mc ms av S d cls S' d') (hY : gY y b2 n2 r2 np) (hR : nf2 + 1 ≤ nf ∧ 8 + (n2 + 11) + nw2 ≤ nw) (hav : av = .inr (.inr (some a)) :: as) (hC : gCl κ C T0 N ty) (hk : sK S a = κ)
    (hw : Cond.methodLink "StandInMillLaw" idx y ∈ WG) (hw2 : Cond.instanceMethod y ∈ WG) (hw3 : Cond.selects C y y ∈ WG) (hw4 : Cond.classLink "StandInMillLaw" 13 xI ∈ WG) (hw5 : Cond.classLink "StandInMillLaw" 15 xA ∈ WG) (hn : as.length = np) (dg : dc cc pc (.invokevirtual idx) 3 q)
    (hi0 : (as.map tv).reverse ++ va_rf (some a) :: rest = st0) (hcs : (rest.map fun v => v.category).sum ≤ 8) (hc1 : cells + mc ≤ (xR X).cells) (hs1 : slots + ms ≤ (xR X).slots) (htab : gTab (xc X) x1 x2 lo hi p1 p2) (hpc : lo ≤ pc ∧ pc < hi)
    (hcase : ∀ c1 c2 cx, (xs X).vm.findClass xI = some c1 → (xs X).vm.findClass xA = some c2 → (xs X).vm.findClass cls = some cx → ((xs X).vm.assignable cx c1 = true ∧ hp = p1) ∨ ((xs X).vm.assignable cx c1 = false ∧ (xs X).vm.assignable cx c2 = true ∧ hp = p2))
    (k : ∀ z : Nat, gw X (cells + mc) (slots + ms) Q S' d' hp lv [va_rf (some z)]) : gw X cells slots Q S d pc lv st0 := by
  subst hav; subst hi0
  obtain ⟨dg, rfl⟩ := dg
  intro ls H locs hl hH hS T hT X0
  have hPc : ∀ U : State, U.heap = H → (xs X).WarmedH U.vm → gPx (xG X) (.inr (.inr (some a)) :: as) S d ((.inr (.inr (some a)) :: as : List gT).map tv).toArray U := fun U hU hW => ⟨⟨rfl, by rw [hU]; exact hH, hE.kn.moved hW, by rw [hU]; exact Nat.le_trans hE.sz hS.1⟩, gX.moved hW (by rw [hU]; exact hS.2.1) hX⟩
  have hrc : ∃ cellB : Cell, H[a]? = some cellB ∧ cellB.vm.isStatics = false ∧ (xs X).vm.findClass C = some cellB.cls := by
    subst hk
    obtain ⟨h0, h50, hc, -⟩ := hC
    obtain ⟨-, hat⟩ := hH.2 a h0
    obtain ⟨r, h1, cell, q1, q2, q3, q4⟩ := hat.1 h50
    exact ⟨cell, q1, by rw [q3]; rfl, by rw [q2]; exact (hE.kn.1.1 _ _ hc).2.1⟩
  obtain ⟨cellB, hcB, hoB, hclB⟩ := hrc
  have hy : y.cls ≠ "java/lang/invoke/MethodHandle" ∧ y.cls ≠ "java/lang/invoke/VarHandle" := ⟨hY.2.2.1, hY.2.2.2.1⟩
  obtain ⟨mk, methM, hnamed, hmethM, hstM, habM⟩ := Cond.instanceMethod_spec (hE.wd _ hw2)
  obtain ⟨methM', cM, hmethM', -, -, -, -, -, -, hsigM⟩ := Cond.code_spec hnamed (hE.wd _ hY.1)
  cases hmethM.symm.trans hmethM'
  obtain ⟨c2, r2', m2, s1, s2, s3, s4, kP, hkP, hkPi⟩ := Cond.selects_spec (hE.wd _ hw3)
  cases hclB.symm.trans s1
  cases (State.methodFound?_of_named hnamed hy).symm.trans s2
  cases hnamed.symm.trans s3
  have hselP : selectMethod (xe X).platform (xs X).vm cellB.cls mk = .method mk := by rw [Launch.admits_selectMethod X0.admits]; exact s4
  obtain ⟨vm₁, X₁, hstep₁⟩ := X0.invokevirtual hE.ex hE.ow (hE.wd _ hw) hnamed hmethM hstM hkP hkPi hy (a := a) (cell := cellB) (by rw [hT]; exact hcB)
    (fun z h => by rw [h] at hoB; cases hoB) hselP hmethM habM hkP hkPi (g := F0 (xm X) pc ls ((as.map tv).reverse ++ va_rf (some a) :: rest)) rfl (argsL := as.map tv) (rest := rest) (by rw [List.length_map, hn]; exact g_sig hY _ hsigM) rfl (by rw [hE.bt]; exact dg)
  generalize hU : T.setVm vm₁ = U at X₁ hstep₁
  have hUh : U.heap = H := by rw [← hU]; exact hT
  have hnU : U.methodNamed? y = some mk := X₁.named hnamed
  have hcU : (Cond.code y b2 n2 r2).before #[] U = true := g_pay hE hY.1 _ List.mem_cons_self _ _ X₁.warmed
  obtain ⟨methY, cY, hmY, hcY, -, hlY, -, -, -, -⟩ := Cond.code_spec hnU hcU
  obtain ⟨kY, hkY, -⟩ := className_of_methodNamed hnU
  have hinitY : kY.init = .initialized := Cond.initialized_spec (findClass_of_methodNamed hnU) hkY (word_at (a' := #[]) X₁.warmed (WG_good _ hY.2.1) (hE.wd _ hY.2.1))
  have hAt : At U (F0 (xm X) pc ls rest).method (xc X) (xb X) := X₁.here
  have happ : (headSpec (Cond.code y b2 n2 r2 :: WG) { frames := nf2, locals := nw2, cells := mc, slots := ms }).appliesLoose y (xe X).platform (U.calling (F0 (xm X) pc ls rest) mk ((.inr (.inr (some a)) :: as : List gT).map tv).toArray) = true :=
    Spec.appliesLoose_calling (g := F0 (xm X) pc ls rest) hAt (by rw [hE.bt]; exact dg) hnU hkY hinitY
      (X₁.room_calling (g := F0 (xm X) pc ls rest) (R' := { frames := nf2, locals := nw2, cells := mc, slots := ms }) hl.1 hmY hcY (by rw [hE.fr]; exact hR.1) (by rw [hE.lw, hlY]; have := lv_room (m := xm X) (pc := pc) (ls := ls) (rest := rest) hcs; have := hR.2; show 2 * (F0 (xm X) pc ls rest).monitorRoom + (rest.map fun v => v.category).sum + _ + nw2 ≤ nw; omega) hc1 hs1)
      (atoms_intro fun w hw => g_pay hE hY.1 w hw _ _ X₁.warmed)
  obtain ⟨mid, hmid⟩ := hAt.above
  have hfr : (U.setTop (F0 (xm X) pc ls rest)).frames = (.java (F0 (xm X) pc ls rest) :: mid) ++ xb X := by rw [State.frames_setTop' _ hAt.top, hmid]; rfl
  have hM' : MetFree (xl X) y (headSpec (Cond.code y b2 n2 r2 :: WG) { frames := nf2, locals := nw2, cells := mc, slots := ms }) (gPx (xG X) (.inr (.inr (some a)) :: as) S d) (fun _ _ _ _ _ => True) (fun a st o t => gQcT (xG X) cls S' d' a st o t ∧ ∃ L, FET st o t L mc ms ∧ ∀ q ∈ L, gA (xG X) q.base) := hM
  obtain ⟨o, s₂, hsteps, -, hend, ⟨⟨z, rfl, hH', hF', cz, hcz, hczv, hczc⟩, L, ⟨-, hW₂, hsm⟩, hL⟩⟩ := Steps.callFree hM' (xp X) X₁.admits X₁.cas X₁.clock (acts := []) hfr happ (gPx.blind _ U _ _ (hPc U hUh X₁.warmed)) trivial
  have hend : s₂.frames = .throwing z :: (U.setTop (F0 (xm X) pc ls rest)).frames := hend
  rw [State.frames_setTop' _ hAt.top] at hend
  have hWU : U.WarmedH s₂.vm := hW₂
  obtain ⟨e2, q2, q3, q4, q5, q6⟩ := hsm
  have e2 : ({ s₂ with vm := (U.calling (F0 (xm X) pc ls rest) mk ((.inr (.inr (some a)) :: as : List gT).map tv).toArray).vm } : State) = { (U.calling (F0 (xm X) pc ls rest) mk ((.inr (.inr (some a)) :: as : List gT).map tv).toArray).setFrames s₂.frames with heap := s₂.heap, slotsUsed := s₂.slotsUsed } := e2
  have e3 : s₂ = ({ (U.calling (F0 (xm X) pc ls rest) mk ((.inr (.inr (some a)) :: as : List gT).map tv).toArray).setFrames s₂.frames with heap := s₂.heap, slotsUsed := s₂.slotsUsed } : State).setVm s₂.vm := by
    have : s₂ = ({ s₂ with vm := (U.calling (F0 (xm X) pc ls rest) mk ((.inr (.inr (some a)) :: as : List gT).map tv).toArray).vm } : State).setVm s₂.vm := rfl
    rw [e2] at this
    exact this
  obtain ⟨g₀, hg0⟩ := Option.isSome_iff_exists.mp hAt.top
  obtain ⟨r, hr⟩ := State.topJava?_eq_some.mp hg0
  generalize hB : ({ U with heap := s₂.heap, slotsUsed := s₂.slotsUsed } : State).setVm s₂.vm = B
  have hrB : B.frames = .java g₀ :: r := by rw [← hB]; exact hr
  have hs₂ : s₂ = (B.setTop (F0 (xm X) pc ls rest)).pushFrame (.throwing z) := by
    refine e3.trans ?_
    rw [hend, State.calling_eq hAt.top, State.setFrames_setFrames, State.pushFrame, State.frames_setTop _ hrB, State.setTop_of_frames _ hrB, State.setFrames_setFrames, ← hB, hr]
    rfl
  have hsame : U.sameButNew ({ U with heap := s₂.heap, slotsUsed := s₂.slotsUsed } : State) L mc ms := by
    refine ⟨?_, q2, q3, q4, q5, q6⟩
    obtain ⟨t, ht, -⟩ := State.frames_cons hr
    show ({ U with heap := s₂.heap, slotsUsed := s₂.slotsUsed } : State) = { U.setFrames U.frames with heap := s₂.heap, slotsUsed := s₂.slotsUsed }
    rw [State.setFrames_self ht]
  have XB : Stand (xp X) (xl X) (xe X) (xR X) (xs X) (xm X) (xa X) (xb X) (xM X) (xc X) B (locs ++ L) (cells + mc) (slots + ms) := by
    rw [← hB]
    exact X₁.moved ((hAt.setHeapUsed s₂.heap s₂.slotsUsed).setVm hWU.alike) X₁.tail rfl rfl hWU hsame
  have hBh : B.heap = s₂.heap := by rw [← hB]; rfl
  have hcx : (xs X).vm.findClass cls = some cz.cls := by
    have h1 : U.vm.findClass cls = some cz.cls := hczc
    rw [X₁.warmed.alike.findClass] at h1
    exact h1
  obtain ⟨t1, ht1, -⟩ := Cond.classLink_spec hE.ow (hE.wd _ hw4) (xe X).platform (by rw [X0.admits.platform])
  obtain ⟨t2, ht2, -⟩ := Cond.classLink_spec hE.ow (hE.wd _ hw5) (xe X).platform (by rw [X0.admits.platform])
  obtain ⟨kx, hkx, -⟩ := Vm.findClass_spec hcx
  obtain ⟨vm₂, hW3, hfind⟩ := gF.two XB htab (g := F0 (xm X) pc ls rest) rfl hpc hE.ow (hE.wd _ hw4) (hE.wd _ hw5) (a := z) (cell := cz) (by rw [hBh]; exact hcz) hczv hkx ht1 ht2 (hcase _ _ _ ht1 ht2 hcx)
  obtain ⟨t9, a9, b9⟩ := k z ls s₂.heap (locs ++ L) hl hH' ⟨Nat.le_trans hS.1 (by rw [← hUh]; exact hF'.1), fun x h1 h2 => by
      rw [hF'.2 x (by show x < U.heap.size; rw [hUh]; exact Nat.lt_of_lt_of_le h1 hS.1) h2]
      show U.heap[x]? = _
      rw [hUh]
      exact hS.2.1 x h1 h2, fun x hx => by
      rcases List.mem_append.mp hx with h | h
      · exact hS.2.2 x h
      · exact hL x h⟩ (B.setVm vm₂) hBh (XB.noted hW3)
  refine ⟨t9, hstep₁ _ (fun acts => ?_), b9⟩
  rw [doInvoke_state]
  refine hsteps.trans ?_
  rw [hs₂]
  exact gF.steps (g := F0 (xm X) pc ls rest) XB.here hfind a9
end GU
