theorem gf_row {Q : Handler → Pre} {E : CtlPost} {e : Env} {d : Bool} {acts : List Action} {Z : State} {f : JFrame} {a : Addr} {x : ExceptionTableEntry} {t : List ExceptionTableEntry} {ct : ClassId} {cell : Cell} (hx : covers x f.pc = true) (h0 : x.catchType ≠ 0)
    (hl : Z.vm.ClassLinks e.platform f.method.cls x.catchType ct) (hcell : Z.heap[a]? = some cell) (hobj : ∀ k, cell.vm ≠ .statics k) (hk : ∃ k, Z.vm.classes[cell.cls]? = some k) (hc : ∃ k, Z.vm.classes[ct]? = some k) :
    wp (findHandler.go f a (x :: t)) Q E e d acts Z ↔ if Z.vm.assignable cell.cls ct = true then Q (.found x.handlerPc) d acts (Z.setVm (Z.vm.noted f.method.cls x.catchType (.cls ct))) else wp (findHandler.go f a t) Q E e d acts (Z.setVm (Z.vm.noted f.method.cls x.catchType (.cls ct))) := by
  simp only [covers] at hx
  obtain ⟨ha, ht⟩ := (resolveClass_links e.toSetting hl).op (op := VmOp.resolveClass f.method.cls x.catchType) rfl
  have hal : Z.vm.Alike (Z.vm.noted f.method.cls x.catchType (.cls ct)) := (Vm.Alike.refl Z.vm).noted _ _ _
  obtain ⟨k1, hk1⟩ := hk
  obtain ⟨k2, hk2⟩ := hc
  obtain ⟨k1', hk1', -⟩ := hal.2.2 _ _ hk1
  obtain ⟨k2', hk2', -⟩ := hal.2.2 _ _ hk2
  have has : (Z.vm.noted f.method.cls x.catchType (.cls ct)).assignable cell.cls ct = Z.vm.assignable cell.cls ct := by rw [hal.assignable]
  cases hq : Z.vm.assignable cell.cls ct <;> rw [hq] at has <;> simp [findHandler.go, hx, h0, ha, ht, hcell, hobj, hk1', hk2', has, VmOp.dirties, VmOp.acts]
def gF (e : Env) (Z : State) (f : JFrame) (a : Addr) (hp : Nat) (vm' : Vm) : Prop := ∀ (Q : Handler → Pre) (E : CtlPost) (d : Bool) (acts : List Action), wp (findHandler f a) Q E e d acts Z ↔ Q (.found hp) d acts (Z.setVm vm')
theorem gF.steps {tb : Tables} {e : Env} {T target : State} {g : JFrame} {c : Code} {below : List Frame} {a : Addr} (h : At T g.method c below) {hp : Nat} {vm' : Vm} (hf : gF e ((T.setTop g).pushFrame (.throwing a)) g a hp vm')
    (hrest : Steps tb e below ((T.setVm vm').setTop { g with pc := hp, stack := [.ref a] }) target) : Steps tb e below ((T.setTop g).pushFrame (.throwing a)) target := by
  obtain ⟨hgo, hw⟩ := h.throwing a
  refine Steps.head hgo hw ?_
  have hst : ∀ r : List Frame, (stepThrowing e ((T.setTop g).pushFrame (.throwing a)) a (.java g :: r)).Is ((((T.setTop g).pushFrame (.throwing a)).setVm vm').setFrames (.java { g with pc := hp, stack := [.ref a] } :: r)) [] := by
    intro r
    simp only [stepThrowing, searchFrame, vmDo]
    generalize hr : Sem.go _ e false [] ((T.setTop g).pushFrame (.throwing a)) = res
    obtain ⟨as, rfl, ha⟩ := Sem.eq_ok_of hr (a := Handler.found hp) (s' := ((T.setTop g).pushFrame (.throwing a)).setVm vm') (acts' := []) (by simp [hf _ _ _ _])
    exact ⟨rfl, ha⟩
  rw [stepThread_throwing (frames_entered h.top _), (hst _).1]
  obtain ⟨g₀, hg⟩ := Option.isSome_iff_exists.mp h.top
  obtain ⟨r, hr⟩ := State.topJava?_eq_some.mp hg
  have hr' : (T.setVm vm').frames = .java g₀ :: r := hr
  rw [State.setTop_of_frames _ hr'] at hrest
  have e1 : ∀ F G : List Frame, ((T.setFrames F).setVm vm').setFrames G = (T.setVm vm').setFrames G := fun F G => by
    show ((T.setVm vm').setFrames F).setFrames G = _
    rw [State.setFrames_setFrames]
  rw [hr, List.tail_cons, State.pushFrame, State.setTop_of_frames _ hr, State.setFrames_setFrames, e1]
  exact hrest
def gTab (c : Code) (x1 x2 : ExceptionTableEntry) (lo hi p1 p2 : Nat) : Prop := c.exceptionTable.toList = [x1, x2] ∧ (x1.startPc = lo ∧ x1.endPc = hi ∧ x1.handlerPc = p1 ∧ x1.catchType = 13) ∧ (x2.startPc = lo ∧ x2.endPc = hi ∧ x2.handlerPc = p2 ∧ x2.catchType = 15)
theorem gTab.of {c : Code} {lo hi p1 p2 : Nat} (h : c.exceptionTable.toList.map (fun h => (h.startPc, h.endPc, h.handlerPc, h.catchType)) = [(lo, hi, p1, 13), (lo, hi, p2, 15)]) : ∃ x1 x2, gTab c x1 x2 lo hi p1 p2 := by
  cases ht : c.exceptionTable.toList with
  | nil => rw [ht] at h; cases h
  | cons x1 r =>
    cases r with
    | nil => rw [ht] at h; simp at h
    | cons x2 r2 =>
      cases r2 with
      | nil =>
        rw [ht] at h
        simp only [List.map_cons, List.map_nil, List.cons.injEq, Prod.mk.injEq, and_true] at h
        exact ⟨x1, x2, ht, ⟨h.1.1, h.1.2.1, h.1.2.2.1, h.1.2.2.2⟩, ⟨h.2.1, h.2.2.1, h.2.2.2.1, h.2.2.2.2⟩⟩
      | cons x3 r3 => rw [ht] at h; simp at h
theorem gF.two {p : Program} {l : Launch} {e : Env} {R : Room} {s : State} {m : MethodId} {args : Array Value} {below : List Frame} {meth : Method} {c : Code} {T : State} {locs : List Loc} {cells slots : Nat} (X : Stand p l e R s m args below meth c T locs cells slots)
    {x1 x2 : ExceptionTableEntry} {lo hi p1 p2 : Nat} (ht : gTab c x1 x2 lo hi p1 p2) {g : JFrame} (hg : g.method = m) (hpc : lo ≤ g.pc ∧ g.pc < hi) (hown : s.vm.findClass "StandInMillLaw" = some m.cls)
    (hl1 : (Cond.classLink "StandInMillLaw" 13 xI).before args s = true) (hl2 : (Cond.classLink "StandInMillLaw" 15 xA).before args s = true) {a : Nat} {cell : Cell} (hcell : T.heap[a]? = some cell) (hvm : cell.vm = .none) {k0 : Class} (hk0 : s.vm.classes[cell.cls]? = some k0)
    {c1 c2 : ClassId} (hc1 : s.vm.findClass xI = some c1) (hc2 : s.vm.findClass xA = some c2) {hp : Nat} (hcase : (s.vm.assignable cell.cls c1 = true ∧ hp = p1) ∨ (s.vm.assignable cell.cls c1 = false ∧ s.vm.assignable cell.cls c2 = true ∧ hp = p2)) :
    ∃ vm', s.WarmedH vm' ∧ gF e ((T.setTop g).pushFrame (.throwing a)) g a hp vm' := by
  have hpl : e.platform.magicAccessors = ({} : Platform).magicAccessors := by rw [X.admits.platform]
  obtain ⟨t1, ht1, hcl1⟩ := Cond.classLink_spec hown hl1 e.platform hpl
  cases hc1.symm.trans ht1
  obtain ⟨t2, ht2, hcl2⟩ := Cond.classLink_spec hown hl2 e.platform hpl
  cases hc2.symm.trans ht2
  obtain ⟨htab, ⟨a1, a2, a3, a4⟩, ⟨b1, b2, b3, b4⟩⟩ := ht
  subst hg
  have cov1 : covers x1 g.pc = true := by simp [covers, a1, a2, hpc]
  have cov2 : covers x2 g.pc = true := by simp [covers, b1, b2, hpc]
  have hobj : ∀ k, cell.vm ≠ .statics k := fun k h => by rw [hvm] at h; cases h
  have hW0 : s.WarmedH ((T.setTop g).pushFrame (.throwing a)).vm := X.warmed
  have hm0 : ((T.setTop g).pushFrame (.throwing a)).vm.method? g.method = some meth := X.method'
  have hh0 : ((T.setTop g).pushFrame (.throwing a)).heap[a]? = some cell := hcell
  generalize (T.setTop g).pushFrame (.throwing a) = Z at hW0 hm0 hh0
  rw [← a4] at hcl1
  rw [← b4] at hcl2
  have hcs : ∀ (V : Vm), s.WarmedH V → ∀ {z : ClassId} {kz : Class}, s.vm.classes[z]? = some kz → ∃ k, V.classes[z]? = some k := fun V hV z kz hz => by
    obtain ⟨k', hk', -⟩ := hV.alike.2.2 _ _ hz
    exact ⟨k', hk'⟩
  obtain ⟨kt1, hkt1, -⟩ := Vm.findClass_spec hc1
  obtain ⟨kt2, hkt2, -⟩ := Vm.findClass_spec hc2
  obtain ⟨-, hW1, -⟩ := State.classEntry (e := e) hW0 hcl1
  rcases hcase with ⟨hy, rfl⟩ | ⟨hno, hy, rfl⟩
  · refine ⟨Z.vm.noted g.method.cls x1.catchType (.cls c1), hW1, fun Q E d acts => ?_⟩
    rw [W.findHandler_eq hm0 X.code, htab, gf_row cov1 (by rw [a4]; decide) (hW0.classLinks hcl1) hh0 hobj (hcs _ hW0 hk0) (hcs _ hW0 hkt1), if_pos (by rw [hW0.alike.assignable]; exact hy), a3]
  · obtain ⟨-, hW2, -⟩ := State.classEntry (e := e) hW1 hcl2
    refine ⟨(Z.vm.noted g.method.cls x1.catchType (.cls c1)).noted g.method.cls x2.catchType (.cls c2), hW2, fun Q E d acts => ?_⟩
    rw [W.findHandler_eq hm0 X.code, htab, gf_row cov1 (by rw [a4]; decide) (hW0.classLinks hcl1) hh0 hobj (hcs _ hW0 hk0) (hcs _ hW0 hkt1), if_neg (by rw [hW0.alike.assignable, hno]; decide)]
    rw [gf_row (Z := Z.setVm (Z.vm.noted g.method.cls x1.catchType (.cls c1))) cov2 (by rw [b4]; decide) (hW1.classLinks hcl2) hh0 hobj (hcs _ hW1 hk0) (hcs _ hW1 hkt2), if_pos (by show (Z.vm.noted g.method.cls x1.catchType (.cls c1)).assignable _ _ = true; rw [hW1.alike.assignable]; exact hy), b3]
    rfl
