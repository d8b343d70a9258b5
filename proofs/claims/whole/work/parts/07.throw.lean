def xI : String := "java/lang/IndexOutOfBoundsException"
def xA : String := "java/lang/IllegalArgumentException"
def xUp : List String := ["java/lang/RuntimeException", "java/lang/Exception"]
def xT : String := "java/lang/Throwable"
def xSte : String := "[Ljava/lang/StackTraceElement;"
def xLs : String := "Ljava/util/List;"
def tok (w : Cond) : Bool := w.onTables && w.keepsFace
def XW : List Cond := (Bundle.ownAtoms "StandInMill" 204 xI xUp ++ Bundle.ownAtoms "StandInMill" 225 xA xUp).filter tok
def XS : List (Nat × String) := [(202, "no such loader, or no list of interfaces"), (223, "a fault"), (287, "no such class or method"), (293, "a parameter is no such object")]
def gLS (C n d : String) (A : Nat → Prop) (U : State) (H : Heap) : Prop := ∃ (c : ClassId) (k : Class) (i : Nat) (f : Field) (a : Nat) (cell : Cell), U.vm.findClass C = some c ∧ U.fieldFound? C n d = some (c, k, i, f) ∧ f.isStatic = true ∧ k.statics = some a ∧ H[a]? = some cell ∧ cell.vm.isStatics = true ∧ cell.cls = c ∧ f.slot < cell.slots.size ∧ k.staticTypes[f.slot]? = some f.type ∧ ¬ A a
theorem gLS.moved {C n d : String} {A : Nat → Prop} {u U : State} {H : Heap} (hvm : u.vm.Alike U.vm) (h : gLS C n d A u H) : gLS C n d A U H := by
  obtain ⟨c, k, i, f, a, cell, h0, h1, h2, h3, h4, h5, h6, h7, h8, h9⟩ := h
  obtain ⟨k', hi', he⟩ := State.fieldFound?_setVm hvm h1
  exact ⟨c, k', i, f, a, cell, by rw [hvm.findClass]; exact h0, hi', h2, by rw [he]; exact h3, h4, h5, h6, h7, by rw [he]; exact h8, h9⟩
theorem gLS.kept {C n d : String} {A : Nat → Prop} {U : State} {H H1 : Heap} (h : gLS C n d A U H) (hq : ∀ a : Nat, a < H.size → ¬ A a → H1[a]? = H[a]?) : gLS C n d A U H1 := by
  obtain ⟨c, k, i, f, a, cell, h0, h1, h2, h3, h4, h5, h6, h7, h8, h9⟩ := h
  exact ⟨c, k, i, f, a, cell, h0, h1, h2, h3, by rw [hq a (Array.getElem?_eq_some_iff.mp h4).1 h9]; exact h4, h5, h6, h7, h8, h9⟩
theorem gLS.of {C n d : String} {A : Nat → Prop} {args : Array Value} {s : State} (h : (Cond.laysStatic C n d).before args s = true) (hA : ∀ a : Nat, a < s.heap.size → ¬ A a) : gLS C n d A s s.heap := by
  obtain ⟨c, k, i, f, a, cell, h0, h1, h2, h3, h4, h5, h6, h7, h8⟩ := Cond.laysStatic_spec h
  exact ⟨c, k, i, f, a, cell, h0, h1, h2, h3, h4, h5, h6, h7, h8, hA a (Array.getElem?_eq_some_iff.mp h4).1⟩
theorem gLS.use {C n d : String} {A : Nat → Prop} {args : Array Value} {U : State} (h : gLS C n d A U U.heap) : (Cond.laysStatic C n d).before args U = true := by
  obtain ⟨c, k, i, f, a, cell, h0, h1, h2, h3, h4, h5, h6, h7, h8, h9⟩ := h
  simp [Cond.before, Cond.holds, Cond.value, h0, h1, h2, h3, h4, h5, h6, h7, h8]
theorem gNc {C T : String} {u U : State} (hvm : u.vm.Alike U.vm) (h : va_Nc C T u) : va_Nc C T U := by
  obtain ⟨c, t, h1, h2, h3⟩ := h
  exact ⟨c, t, by rw [hvm.findClass]; exact h1, by rw [hvm.findClass]; exact h2, by rw [hvm.assignable]; exact h3⟩
def gX (G : gG) (U : State) : Prop := (∀ w ∈ XW, va_Nw w U) ∧ va_Zq xT "UNASSIGNED_STACK" xSte (gA G) U U.heap ∧ va_Zq xT "SUPPRESSED_SENTINEL" xLs (gA G) U U.heap ∧ (∀ q ∈ XS, ∃ a, vk_R "StandInMill" q.1 q.2 a U) ∧ gLS xT "UNASSIGNED_STACK" xSte (gA G) U U.heap ∧ gLS xT "SUPPRESSED_SENTINEL" xLs (gA G) U U.heap ∧ va_Nc xA xI U
theorem tok_warm {w : Cond} (hw : tok w = true) {s U : State} (hW : s.WarmedH U.vm) (h : va_Nw w s) : va_Nw w U := by
  simp only [tok, Bool.and_eq_true] at hw
  exact va_tabs hw.1 (rfl : (s.setVm U.vm).vm = U.vm) (Cond.before_shiftedFace (args := #[]) (State.Shifted.of_warmed hW) w hw.2 h)
theorem gX.moved {G : gG} {s U : State} (hW : s.WarmedH U.vm) (hh : ∀ q : Nat, q < s.heap.size → ¬ gA G q → U.heap[q]? = s.heap[q]?) (h : gX G s) : gX G U := by
  obtain ⟨h1, h2, h3, h4, h5, h6, h7⟩ := h
  refine ⟨fun w hw => tok_warm (List.mem_filter.mp hw).2 hW (h1 w hw), va_Zq.moved hW.alike (h2.kept hh), va_Zq.moved hW.alike (h3.kept hh), fun q hq => ?_, gLS.moved hW.alike (h5.kept hh), gLS.moved hW.alike (h6.kept hh), gNc hW.alike h7⟩
  obtain ⟨a, ha⟩ := h4 q hq
  exact ⟨a, vk_R.warm hW ha⟩
theorem gX.same {G : gG} {s U : State} (e : s.vm = U.vm) (eh : U.heap = s.heap) (h : gX G s) : gX G U := by
  obtain ⟨h1, h2, h3, h4, h5, h6, h7⟩ := h
  have hal : s.vm.Alike U.vm := by rw [← e]; exact Vm.Alike.refl _
  refine ⟨fun w hw => ?_, va_Zq.moved hal (by rw [eh]; exact h2), va_Zq.moved hal (by rw [eh]; exact h3), fun q hq => ?_, gLS.moved hal (by rw [eh]; exact h5), gLS.moved hal (by rw [eh]; exact h6), gNc hal h7⟩
  · have ht := (List.mem_filter.mp hw).2
    simp only [tok, Bool.and_eq_true] at ht
    exact va_Nw.same ht.1 e (h1 w hw)
  · obtain ⟨a, ha⟩ := h4 q hq
    exact ⟨a, vk_R.same e.symm ha⟩
def FET (first : State) (o : Outcome) (t : State) (L : List Loc) (k n : Nat) : Prop := (∃ x, o = .threw x) ∧ first.WarmedH t.vm ∧ first.sameButNew ({ t with vm := first.vm } : State) L k n
def MetT (l : Launch) (y : MethodName) (ws : List Cond) (rm : Room) (Pc : Array Value → State → Prop) (Qc : Array Value → State → Outcome → State → Prop) (mc ms : Nat) (free : Addr → Prop) : Prop :=
  MetFree l y (headSpec ws rm) Pc (fun _ _ _ _ _ => True) (fun a st o t => Qc a st o t ∧ ∃ L, FET st o t L mc ms ∧ ∀ q ∈ L, free q.base)
def MQT (below : List Frame) (Qc : Array Value → State → Outcome → State → Prop) (a : Array Value) (s : State) (mc ms : Nat) (free : Addr → Prop) : State → Prop := fun t =>
  ∃ o, t.status = .running ∧ Ended t below o ∧ Qc a s o t ∧ ∃ L, FET s o t L mc ms ∧ ∀ q ∈ L, free q.base
theorem MetT.ofW {l : Launch} {y : MethodName} {ws ws' : List Cond} {rm : Room} {Pc : Array Value → State → Prop} {Qc : Array Value → State → Outcome → State → Prop} {mc ms : Nat} {free : Addr → Prop} {cc : ByteArray} {maxL : Nat} {ret : Option FieldType}
    (hy : plainName y.cls = true) (hw : ws = Cond.code y cc maxL ret :: ws')
    (body : ∀ p e s m args below meth c s₁, BodyLoose p l y (headSpec ws rm) cc maxL ret e s m args below meth c s₁ → c.maxLocals = maxL → c.exceptionTable.isEmpty = true → Pc args s →
      W p l e (headSpec ws rm).room s m args below meth c s.heap [] 0 0 (MQT below Qc args s mc ms free) (entryFrame m args maxL)) : MetT l y ws rm Pc Qc mc ms free := by
  refine MetFree.of_bodyS (code := cc) (maxLocals := maxL) (ret := ret) hy ?_ ?_
  · intro args s m h hn
    obtain ⟨meth, c, h1, h2, h3, h4, h5, h6, -, -⟩ := Cond.code_spec hn (atoms_spec (ws := ws) h _ (by rw [hw]; exact List.mem_cons_self))
    exact ⟨meth, c, h1, h2, h3, h4, h5, h6⟩
  · intro p e s m args below meth c s₁ B hml hP _
    have hh0 : s₁.heap = s.heap := by rw [B.state]; rfl
    have hco := atoms_spec (ws := ws) B.pre _ (by rw [hw]; exact List.mem_cons_self)
    obtain ⟨t, a1, o, b1, b2, b3⟩ := body p e s m args below meth c s₁ B hml (B.noHandlers hco) hP s₁ hh0 (Stand.of_body B)
    exact ⟨t, o, a1, b1, b2, ⟨b3.1, b3.2⟩⟩
def gQcT (G : gG) (cls : String) (S' : gS) (d' : gD) : Array Value → State → Outcome → State → Prop := fun _ st oc t => ∃ a, oc = .threw a ∧ gH G S' d' t.heap ∧ va_F (gA G) st t ∧ ∃ cell, t.heap[a]? = some cell ∧ cell.vm = .none ∧ st.vm.findClass cls = some cell.cls
def gQT (X : GX) (cls : String) (S' : gS) (d' : gD) (mc ms : Nat) : State → Prop := MQT (xb X) (gQcT (xG X) cls S' d') (xa X) (xs X) mc ms (gA (xG X))
def gPx (G : gG) (av : List gT) (S : gS) (d : gD) : Array Value → State → Prop := fun v U => gPc G av S d v U ∧ gX G U
def GT (l : Launch) (G : gG) (y : MethodName) (cc : ByteArray) (nL : Nat) (rt : Option FieldType) (nf nw mc ms : Nat) (av : List gT) (S : gS) (d : gD) (cls : String) (S' : gS) (d' : gD) : Prop :=
  MetT l y (Cond.code y cc nL rt :: WG) { frames := nf, locals := nw, cells := mc, slots := ms } (gPx G av S d) (gQcT G cls S' d') mc ms (gA G)
theorem gPx.blind {G : gG} {av : List gT} {S : gS} {d : gD} : FrameBlind (gPx G av S d) := fun a U g mk h => ⟨gPc.blind a U g mk h.1, gX.same (s := U) rfl rfl h.2⟩
theorem GT.of {l : Launch} {G : gG} {y : MethodName} {cc : ByteArray} {nL : Nat} {rt : Option FieldType} {nf nw mc ms : Nat} {av : List gT} {S : gS} {d : gD} {cls : String} {S' : gS} {d' : gD}
    (hy : plainName y.cls = true) (hlen : (tl av).length ≤ nL)
    (h : ∀ X : GX, xl X = l → xG X = G → xR X = { frames := nf, locals := nw, cells := mc, slots := ms } → gE X cc nL y.cls rt y.name nf nw → (xc X).exceptionTable.isEmpty = true → gX (xG X) (xs X) → gw X 0 0 (gQT X cls S' d' mc ms) S d 0 (tl av) []) : GT l G y cc nL rt nf nw mc ms av S d cls S' d' := by
  refine MetT.ofW (cc := cc) (maxL := nL) (ret := rt) hy rfl ?_
  intro p e s m args below meth c s₁ B hml het hv
  obtain ⟨⟨rfl, hH, hK, hz⟩, hX⟩ := hv
  have hx := B.exec
  have hb := B.bytes
  have hr := B.returns
  have hts := atoms_spec (ws := Cond.code y cc nL rt :: WG) B.pre
  have hown : s.vm.findClass y.cls = some m.cls := findClass_of_methodNamed B.named
  have hlocks := B.notSynchronized
  have hin : meth.name = y.name := (name_of_methodNamed B.named B.method).1
  rw [lg_entry_eq]
  have hl := lv_entry (av.map tv) (n := nL) (by rw [tl_len]; exact hlen)
  refine h (p, l, e, { frames := nf, locals := nw, cells := mc, slots := ms }, s, m, (av.map tv).toArray, below, meth, c, G) rfl rfl rfl ⟨hx, hb, hml, hown, fun w hw => hts w (List.mem_cons_of_mem _ hw), hK, hz, hlocks, hr, hin, rfl, rfl⟩ het hX _ s.heap [] ?_ hH va_S.rf
  refine ⟨hl.1.trans hml.symm, hl.2.1, fun i v hi => ?_⟩
  have h9 := tl_args av 0 i v hi
  rw [Nat.zero_add] at h9
  exact hl.2.2 (i, v) h9
theorem stand_rebase {p : Program} {l : Launch} {e : Env} {R : Room} {s : State} {m : MethodId} {args : Array Value} {below : List Frame} {meth : Method} {c : Code} {T : State} {locs : List Loc} {cells slots : Nat}
    (X : Stand p l e R s m args below meth c T locs cells slots) {H : Heap} {cell : Cell} (hH : T.heap = H.push cell) (hc : cells ≤ R.cells) (hs : slots ≤ R.slots) :
    Stand p l e { R with cells := 0, slots := 0 } { s with heap := H, slotsUsed := T.slotsUsed - cell.slots.size } m args below meth c T [] 1 cell.slots.size := by
  have hb := X.book
  have hr := X.room
  have hz := X.heapSize
  have hu := X.used
  have hsm := X.same
  have hfold : T.slotsUsed = H.foldl (fun n c => n + c.slots.size) 0 + cell.slots.size := by
    have h1 : T.slotsUsed = T.heap.foldl (fun n c => n + c.slots.size) 0 := by simpa [State.slotsTrue] using hb
    rw [h1, hH, Array.foldl_push]
  have hsz : T.heap.size = H.size + 1 := by rw [hH, Array.size_push]
  refine ⟨X.admits, X.cas, X.clock, X.frames, ?_, X.hears, X.method, X.code, X.here, X.tail, X.warmed, X.limits, X.bytes, ?_⟩
  · simp only [State.hasRoom, Bool.and_eq_true, decide_eq_true_eq] at hr ⊢
    refine ⟨⟨⟨hr.1.1.1, ?_⟩, ?_⟩, ?_⟩
    · show H.size + 0 ≤ _
      have := hr.1.1.2
      omega
    · show T.slotsUsed - cell.slots.size + 0 ≤ _
      have := hr.1.2
      omega
    · simp only [State.slotsTrue, beq_iff_eq]
      omega
  · obtain ⟨g1, g2, g3, g4, g5, g6⟩ := hsm
    refine ⟨?_, ?_, ?_, ?_, ?_, ?_⟩
    · have e1 : T.setVm s.vm = { s.setFrames (T.setVm s.vm).frames with heap := T.heap, slotsUsed := T.slotsUsed } := g1
      exact e1
    · show H.size ≤ T.heap.size; omega
    · show T.heap.size ≤ H.size + 1; omega
    · show T.slotsUsed = T.slotsUsed - cell.slots.size + ((T.heap.toList.drop H.size).map (·.slots.size)).sum
      have : (T.heap.toList.drop H.size) = [cell] := by rw [hH, Array.toList_push, ← Array.length_toList, List.drop_left]
      rw [this]
      simp only [List.map_cons, List.map_nil, List.sum_cons, List.sum_nil]
      omega
    · show ((T.heap.toList.drop H.size).map (·.slots.size)).sum ≤ cell.slots.size
      have : (T.heap.toList.drop H.size) = [cell] := by rw [hH, Array.toList_push, ← Array.length_toList, List.drop_left]
      rw [this]
      simp
    · intro a c0 h0
      have hlt : a < H.size := (Array.getElem?_eq_some_iff.mp h0).1
      refine ⟨c0, ?_, rfl, rfl, fun i _ => rfl⟩
      show T.heap[a]? = some c0
      rw [hH, Array.getElem?_push, if_neg (Nat.ne_of_lt hlt)]
      exact h0
