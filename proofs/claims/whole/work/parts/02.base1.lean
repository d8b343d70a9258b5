abbrev gS : Type := (Nat → Nat) × (Nat → Nat) × (Nat → Nat → Option Nat) × Nat
abbrev gD : Type := (Nat → Nat → Int32) × (Nat → Nat → Int64)
def sK (S : gS) (a : Nat) : Nat := S.1 a
def sN (S : gS) (a : Nat) : Nat := S.2.1 a
def sP (S : gS) (a k : Nat) : Option Nat := S.2.2.1 a k
def sZ (S : gS) : Nat := S.2.2.2
def dI (d : gD) (a k : Nat) : Int32 := d.1 a k
def dL (d : gD) (a k : Nat) : Int64 := d.2 a k
def up2 {α : Type} (f : Nat → Nat → α) (a k : Nat) (v : α) : Nat → Nat → α := fun b j => if b = a ∧ j = k then v else f b j
def wI (d : gD) (a k : Nat) (v : Int32) : gD := (up2 d.1 a k v, d.2)
def wL (d : gD) (a k : Nat) (v : Int64) : gD := (d.1, up2 d.2 a k v)
def wP (S : gS) (a k : Nat) (v : Option Nat) : gS := (S.1, S.2.1, up2 S.2.2.1 a k v, S.2.2.2)
def nS (S : gS) (κ n : Nat) : gS := (va_up S.1 S.2.2.2 κ, va_up S.2.1 S.2.2.2 n, va_up S.2.2.1 S.2.2.2 (fun _ => none), S.2.2.2 + 1)
def nD (S : gS) (d : gD) : gD := (va_up d.1 S.2.2.2 (fun _ => 0), va_up d.2 S.2.2.2 (fun _ => 0))
def gV (S : gS) (d : gD) (a k : Nat) : Value := match srt (sK S a) k with
  | 0 => .int (dI d a k)
  | 1 => .long (dL d a k)
  | _ => va_rf (sP S a k)
abbrev gG : Type := va_G × (Nat → ClassId) × Nat
def gAt (G : gG) (S : gS) (d : gD) (a : Nat) (H : Heap) : Prop :=
  (sK S a < 50 → ∃ r : vw_C, classes[sK S a - 1]? = some r ∧ t_OB a (G.1.1 (sK S a - 1)) r.2.2 (G.1.2 (sK S a - 1)) H (gV S d a)) ∧ (50 ≤ sK S a → H[a]? = some (arrV (G.2.1 (sK S a)) (sN S a) (gV S d a)))
def gH (G : gG) (S : gS) (d : gD) (H : Heap) : Prop := H.size = sZ S ∧ ∀ a, sK S a ≠ 0 → G.2.2 ≤ a ∧ gAt G S d a H
def gK (G : gG) (U : State) : Prop := va_K G.1 classes (aks.map fun κ => (G.2.1 κ, aty κ)) U ∧ (∀ w ∈ NW, va_Nw w U) ∧ ∀ C ∈ AOs, va_AO C U
def dc (cc : ByteArray) (pc : Nat) (i : Instr) (n q : Nat) : Prop := decode cc pc = .ok (i, n) ∧ pc + n = q
def db (cc : ByteArray) (pc : Nat) (i : Instr) (off : Int) (tgt q : Nat) : Prop := decode cc pc = .ok (i, 3) ∧ (pc : Int) + off = (tgt : Int) ∧ pc + 3 = q
def gi {α : Type} (i : Int32) (n : Nat) (x : Option α) : Option α := if i < 0 ∨ n ≤ i.toNatClampNeg then none else x
def kd {α : Type} (S : gS) (a κ : Nat) (x : Option α) : Option α := if sK S a = κ then x else none
def nn {α : Type} (r : Option Nat) (f : Nat → Option α) : Option α := match r with
  | none => none
  | some a => f a
def lt_ {α β : Type} (v : α) (k : α → Option β) : Option β := k v
def bd {α β : Type} (x : Option α) (k : α → Option β) : Option β := match x with
  | none => none
  | some a => k a
def bdD {α β : Type} (x : Option (α × gD)) (k : α → gD → Option β) : Option β := match x with
  | none => none
  | some (a, d) => k a d
def bdP {α β : Type} (x : Option (α × gS × gD)) (k : α → gS → gD → Option β) : Option β := match x with
  | none => none
  | some (a, S, d) => k a S d
def ac {α : Type} (c s : Nat) (x : Option (α × Nat × Nat)) : Option (α × Nat × Nat) := match x with
  | none => none
  | some (a, n, m) => some (a, n + c, m + s)
def bdA {α β : Type} (x : Option ((α × gS × gD) × Nat × Nat)) (k : α → gS → gD → Option (β × Nat × Nat)) : Option (β × Nat × Nat) := match x with
  | none => none
  | some ((a, S, d), n, m) => ac n m (k a S d)
def nz {α : Type} (y : Int32) (x : Option α) : Option α := if y = 0 then none else x
def nb {α : Type} (y : Int32) (x : Option α) : Option α := if y = 0 ∨ y = 1 then x else none
def nl {α : Type} (n : Int32) (x : Option α) : Option α := if n < 0 ∨ 67108864 < n.toNatClampNeg then none else x
def itr {α : Type} (B : α → α) (z : α) : Nat → α
  | 0 => z
  | n + 1 => B (itr B z n)
theorem gi_s {α : Type} {i : Int32} {n : Nat} {x : Option α} {r : α} (h : gi i n x = some r) : vp_in i n ∧ x = some r := by
  unfold gi at h
  by_cases c : i < 0 ∨ n ≤ i.toNatClampNeg
  · rw [if_pos c] at h; cases h
  · rw [if_neg c] at h; exact ⟨c, h⟩
theorem kd_s {α : Type} {S : gS} {a κ : Nat} {x : Option α} {r : α} (h : kd S a κ x = some r) : sK S a = κ ∧ x = some r := by
  unfold kd at h
  by_cases c : sK S a = κ
  · rw [if_pos c] at h; exact ⟨c, h⟩
  · rw [if_neg c] at h; cases h
theorem nn_s {α : Type} {x : Option Nat} {f : Nat → Option α} {r : α} (h : nn x f = some r) : ∃ a, x = some a ∧ f a = some r := by
  cases x with
  | none => cases h
  | some a => exact ⟨a, rfl, h⟩
theorem bd_s {α β : Type} {x : Option α} {f : α → Option β} {r : β} (h : bd x f = some r) : ∃ a, x = some a ∧ f a = some r := by
  cases x with
  | none => cases h
  | some a => exact ⟨a, rfl, h⟩
theorem bdD_s {α β : Type} {x : Option (α × gD)} {k : α → gD → Option β} {r : β} (h : bdD x k = some r) : ∃ a d, x = some (a, d) ∧ k a d = some r := by
  cases x with
  | none => cases h
  | some p => exact ⟨p.1, p.2, rfl, h⟩
theorem bdP_s {α β : Type} {x : Option (α × gS × gD)} {k : α → gS → gD → Option β} {r : β} (h : bdP x k = some r) : ∃ a S d, x = some (a, S, d) ∧ k a S d = some r := by
  cases x with
  | none => cases h
  | some p => exact ⟨p.1, p.2.1, p.2.2, rfl, h⟩
theorem ac_s {α : Type} {c s : Nat} {x : Option (α × Nat × Nat)} {r : α} {dc ds : Nat} (h : ac c s x = some (r, dc, ds)) : ∃ n m, x = some (r, n, m) ∧ dc = n + c ∧ ds = m + s := by
  cases x with
  | none => cases h
  | some p =>
    obtain ⟨a, n, m⟩ := p
    have h := Option.some.inj h
    simp only [Prod.mk.injEq] at h
    obtain ⟨rfl, rfl, rfl⟩ := h
    exact ⟨n, m, rfl, rfl, rfl⟩
theorem bdA_s {α β : Type} {x : Option ((α × gS × gD) × Nat × Nat)} {k : α → gS → gD → Option (β × Nat × Nat)} {r : β} {dc ds : Nat} (h : bdA x k = some (r, dc, ds)) : ∃ a S d n m n2 m2, x = some ((a, S, d), n, m) ∧ k a S d = some (r, n2, m2) ∧ dc = n2 + n ∧ ds = m2 + m := by
  cases x with
  | none => cases h
  | some p =>
    obtain ⟨⟨a, S, d⟩, n, m⟩ := p
    obtain ⟨n2, m2, h1, h2, h3⟩ := ac_s h
    exact ⟨a, S, d, n, m, n2, m2, rfl, h1, h2, h3⟩
theorem lt_i {α β : Type} {v x : α} {k : α → Option β} {r : β} (e : v = x) (h : lt_ v k = some r) : k x = some r := e ▸ h
theorem nz_s {α : Type} {y : Int32} {x : Option α} {r : α} (h : nz y x = some r) : ¬ y = 0 ∧ x = some r := by
  unfold nz at h
  by_cases c : y = 0
  · rw [if_pos c] at h; cases h
  · rw [if_neg c] at h; exact ⟨c, h⟩
theorem nb_s {α : Type} {y : Int32} {x : Option α} {r : α} (h : nb y x = some r) : (y = 0 ∨ y = 1) ∧ x = some r := by
  unfold nb at h
  by_cases c : y = 0 ∨ y = 1
  · rw [if_pos c] at h; exact ⟨c, h⟩
  · rw [if_neg c] at h; cases h
theorem nl_s {α : Type} {n : Int32} {x : Option α} {r : α} (h : nl n x = some r) : ¬ (n < 0 ∨ 67108864 < n.toNatClampNeg) ∧ x = some r := by
  unfold nl at h
  by_cases c : n < 0 ∨ 67108864 < n.toNatClampNeg
  · rw [if_pos c] at h; cases h
  · rw [if_neg c] at h; exact ⟨c, h⟩
theorem if_t {α : Type} {c : Prop} {dec : Decidable c} {x y : Option α} {r : α} (p : c) (h : (@ite _ c dec x y) = some r) : x = some r := by
  rw [if_pos p] at h; exact h
theorem if_f {α : Type} {c : Prop} {dec : Decidable c} {x y : Option α} {r : α} (p : ¬ c) (h : (@ite _ c dec x y) = some r) : y = some r := by
  rw [if_neg p] at h; exact h
abbrev GX : Type := Program × Launch × Env × Room × State × MethodId × Array Value × List Frame × Method × Code × gG
abbrev xp (X : GX) : Program := X.1
abbrev xl (X : GX) : Launch := X.2.1
abbrev xe (X : GX) : Env := X.2.2.1
abbrev xR (X : GX) : Room := X.2.2.2.1
abbrev xs (X : GX) : State := X.2.2.2.2.1
abbrev xm (X : GX) : MethodId := X.2.2.2.2.2.1
abbrev xa (X : GX) : Array Value := X.2.2.2.2.2.2.1
abbrev xb (X : GX) : List Frame := X.2.2.2.2.2.2.2.1
abbrev xM (X : GX) : Method := X.2.2.2.2.2.2.2.2.1
abbrev xc (X : GX) : Code := X.2.2.2.2.2.2.2.2.2.1
abbrev xG (X : GX) : gG := X.2.2.2.2.2.2.2.2.2.2
def gA (G : gG) : Nat → Prop := fun q => G.2.2 ≤ q
def gE (X : GX) (cc : ByteArray) (nL : Nat) (own : String) (rt : Option FieldType) (nm : String) (nf nw : Nat) : Prop :=
  (xp X).tables.exec = Jvm.exec ∧ (xc X).code = cc ∧ (xc X).maxLocals = nL ∧ (xs X).vm.findClass own = some (xm X).cls ∧ (∀ w ∈ WG, w.before (xa X) (xs X) = true) ∧ gK (xG X) (xs X) ∧ (xG X).2.2 ≤ (xs X).heap.size ∧ (xM X).locks = false ∧ (xM X).sig.returnType = rt ∧ (xM X).name = nm ∧ (xR X).frames = nf ∧ (xR X).locals = nw
def lvh (ls : Array Slot) (n : Nat) (lv : List (Option Value)) : Prop := ls.size = n ∧ lv_wf ls ∧ ∀ (i : Nat) (v : Value), lv[i]? = some (some v) → ls[i]? = some (.val v)
def gw (X : GX) (cells slots : Nat) (Q : State → Prop) (S : gS) (d : gD) (pc : Nat) (lv : List (Option Value)) (st : List Value) : Prop :=
  ∀ (ls : Array Slot) (H : Heap) (locs : List Loc), lvh ls (xc X).maxLocals lv → gH (xG X) S d H → va_S (gA (xG X)) (xs X).heap H locs → W (xp X) (xl X) (xe X) (xR X) (xs X) (xm X) (xa X) (xb X) (xM X) (xc X) H locs cells slots Q (F0 (xm X) pc ls st)
def gQc (G : gG) (rv : Option Value) (S' : gS) (d' : gD) : Array Value → State → Outcome → State → Prop := fun _ st oc t => oc = .returned rv ∧ gH G S' d' t.heap ∧ va_F (gA G) st t
def gQ (X : GX) (rv : Option Value) (S' : gS) (d' : gD) (mc ms : Nat) : State → Prop := MQ (xb X) (gQc (xG X) rv S' d') (xa X) (xs X) mc ms (gA (xG X))
abbrev gT : Type := Int32 ⊕ (Int64 ⊕ Option Nat)
def tv : gT → Value
  | .inl i => .int i
  | .inr (.inl x) => .long x
  | .inr (.inr r) => va_rf r
def tl : List gT → List (Option Value)
  | [] => []
  | .inl i :: r => some (.int i) :: tl r
  | .inr (.inl x) :: r => some (.long x) :: none :: tl r
  | .inr (.inr x) :: r => some (va_rf x) :: tl r
def gPc (G : gG) (av : List gT) (S : gS) (d : gD) : Array Value → State → Prop := fun v U => v = (av.map tv).toArray ∧ gH G S d U.heap ∧ gK G U ∧ G.2.2 ≤ U.heap.size
def GM (l : Launch) (G : gG) (y : MethodName) (cc : ByteArray) (nL : Nat) (rt : Option FieldType) (nf nw mc ms : Nat) (av : List gT) (S : gS) (d : gD) (rv : Option Value) (S' : gS) (d' : gD) : Prop :=
  Met l y (Cond.code y cc nL rt :: WG) { frames := nf, locals := nw, cells := mc, slots := ms } (gPc G av S d) (gQc G rv S' d') mc ms (gA G)
theorem rf_cat (x : Option Nat) : (va_rf x).category = 1 := by cases x <;> rfl
theorem rf_rf (x : Option Nat) : va_rf x = .null ∨ ∃ a, va_rf x = .ref a := by
  cases x with
  | none => exact Or.inl rfl
  | some a => exact Or.inr ⟨a, rfl⟩
theorem gK.moved {G : gG} {s U : State} (hW : s.WarmedH U.vm) (h : gK G s) : gK G U := by
  refine ⟨va_K.moved hW.alike h.1, fun w hw => ?_, fun C hC => va_AO.moved hW.alike (h.2.2 C hC)⟩
  obtain hf | hm := NW_form w hw
  · obtain ⟨a, i, b, n, dd, q, rfl⟩ := hf
    exact va_Nw.warmF hW (h.2.1 _ hw)
  · obtain ⟨a, i, x, q, rfl⟩ := hm
    exact va_Nw.warmM hW (h.2.1 _ hw)
theorem gK.same {G : gG} {s U : State} (e : s.vm = U.vm) (h : gK G s) : gK G U := by
  refine ⟨va_K.moved (by rw [← e]; exact Vm.Alike.refl _) h.1, fun w hw => ?_, fun C hC => va_AO.moved (by rw [← e]; exact Vm.Alike.refl _) (h.2.2 C hC)⟩
  obtain hf | hm := NW_form w hw
  · obtain ⟨a, i, b, n, dd, q, rfl⟩ := hf
    exact va_Nw.same rfl e (h.2.1 _ hw)
  · obtain ⟨a, i, x, q, rfl⟩ := hm
    exact va_Nw.same rfl e (h.2.1 _ hw)
theorem gPc.blind {G : gG} {av : List gT} {S : gS} {d : gD} : FrameBlind (gPc G av S d) := fun a U g mk h => ⟨h.1, h.2.1, gK.same (s := U) rfl h.2.2.1, h.2.2.2⟩
theorem gH.at {G : gG} {S : gS} {d : gD} {H : Heap} (h : gH G S d H) {a κ : Nat} (hk : sK S a = κ) (h0 : κ ≠ 0) : G.2.2 ≤ a ∧ gAt G S d a H := h.2 a (by rw [hk]; exact h0)
theorem tl_args : ∀ (av : List gT) (k i : Nat) (v : Value), (tl av)[i]? = some (some v) → (k + i, v) ∈ lv_args k (av.map tv)
  | [], _, _, _, h => by simp [tl] at h
  | .inl x :: r, k, i, v, h => by
    cases i with
    | zero =>
      simp only [tl, List.getElem?_cons_zero, Option.some.injEq] at h
      subst h
      exact List.mem_cons_self
    | succ i =>
      simp only [tl, List.getElem?_cons_succ] at h
      have := tl_args r (k + 1) i v h
      refine List.mem_cons_of_mem _ ?_
      show (k + (i + 1), v) ∈ lv_args (if (Value.int x).category = 2 then k + 2 else k + 1) (r.map tv)
      rw [if_neg (show ¬ (Value.int x).category = 2 from (by decide : ¬ (1 : Nat) = 2)), show k + (i + 1) = k + 1 + i by omega]
      exact this
  | .inr (.inl x) :: r, k, i, v, h => by
    cases i with
    | zero =>
      simp only [tl, List.getElem?_cons_zero, Option.some.injEq] at h
      subst h
      exact List.mem_cons_self
    | succ i =>
      cases i with
      | zero => simp [tl] at h
      | succ i =>
        simp only [tl, List.getElem?_cons_succ] at h
        have := tl_args r (k + 2) i v h
        refine List.mem_cons_of_mem _ ?_
        show (k + (i + 1 + 1), v) ∈ lv_args (if (Value.long x).category = 2 then k + 2 else k + 1) (r.map tv)
        rw [if_pos (show (Value.long x).category = 2 from rfl), show k + (i + 1 + 1) = k + 2 + i by omega]
        exact this
  | .inr (.inr x) :: r, k, i, v, h => by
    cases i with
    | zero =>
      simp only [tl, List.getElem?_cons_zero, Option.some.injEq] at h
      subst h
      exact List.mem_cons_self
    | succ i =>
      simp only [tl, List.getElem?_cons_succ] at h
      have := tl_args r (k + 1) i v h
      refine List.mem_cons_of_mem _ ?_
      show (k + (i + 1), v) ∈ lv_args (if (va_rf x).category = 2 then k + 2 else k + 1) (r.map tv)
      rw [if_neg (by rw [rf_cat]; decide), show k + (i + 1) = k + 1 + i by omega]
      exact this
theorem lg_sl_cons (v : Value) (r : List Value) : lg_sl (v :: r) = (if v.category = 2 then [.val v, .second] else [.val v]) ++ lg_sl r := by
  simp only [lg_sl, List.flatMap_cons]
theorem tl_len : ∀ av : List gT, (lg_sl (av.map tv)).length = (tl av).length
  | [] => rfl
  | .inl x :: r => by
    rw [List.map_cons, lg_sl_cons, if_neg (show ¬ (tv (Sum.inl x)).category = 2 from (by decide : ¬ (1 : Nat) = 2)), List.length_append, tl_len r]
    simp only [tl, List.length_cons, List.length_nil]; omega
  | .inr (.inl x) :: r => by
    rw [List.map_cons, lg_sl_cons, if_pos (show (tv (Sum.inr (Sum.inl x))).category = 2 from rfl), List.length_append, tl_len r]
    simp only [tl, List.length_cons, List.length_nil]; omega
  | .inr (.inr x) :: r => by
    rw [List.map_cons, lg_sl_cons, if_neg (show ¬ (tv (Sum.inr (Sum.inr x))).category = 2 by show ¬ (va_rf x).category = 2; rw [rf_cat]; decide), List.length_append, tl_len r]
    simp only [tl, List.length_cons, List.length_nil]; omega
theorem GM.of {l : Launch} {G : gG} {y : MethodName} {cc : ByteArray} {nL : Nat} {rt : Option FieldType} {nf nw mc ms : Nat} {av : List gT} {S : gS} {d : gD} {rv : Option Value} {S' : gS} {d' : gD}
    (hy : plainName y.cls = true) (hlen : (tl av).length ≤ nL)
    (h : ∀ X : GX, xl X = l → xG X = G → xR X = { frames := nf, locals := nw, cells := mc, slots := ms } → gE X cc nL y.cls rt y.name nf nw → gw X 0 0 (gQ X rv S' d' mc ms) S d 0 (tl av) []) : GM l G y cc nL rt nf nw mc ms av S d rv S' d' := by
  refine Met.ofW (cc := cc) (maxL := nL) (ret := rt) hy rfl ?_
  intro p e s m args below meth c s₁ B hml hv
  obtain ⟨rfl, hH, hK, hz⟩ := hv
  have hx := B.exec
  have hb := B.bytes
  have hr := B.returns
  have hts := atoms_spec (ws := Cond.code y cc nL rt :: WG) B.pre
  have hown : s.vm.findClass y.cls = some m.cls := findClass_of_methodNamed B.named
  have hlocks := B.notSynchronized
  have hin : meth.name = y.name := (name_of_methodNamed B.named B.method).1
  rw [lg_entry_eq]
  have hl := lv_entry (av.map tv) (n := nL) (by rw [tl_len]; exact hlen)
  refine h (p, l, e, { frames := nf, locals := nw, cells := mc, slots := ms }, s, m, (av.map tv).toArray, below, meth, c, G) rfl rfl rfl ⟨hx, hb, hml, hown, fun w hw => hts w (List.mem_cons_of_mem _ hw), hK, hz, hlocks, hr, hin, rfl, rfl⟩ _ s.heap [] ?_ hH va_S.rf
  refine ⟨hl.1.trans hml.symm, hl.2.1, fun i v hi => ?_⟩
  have h9 := tl_args av 0 i v hi
  rw [Nat.zero_add] at h9
  exact hl.2.2 (i, v) h9
def lvle : List (Option Value) → List (Option Value) → Prop
  | [], _ => True
  | none :: a, b => lvle a b.tail
  | some v :: a, b => b.head? = some (some v) ∧ lvle a b.tail
theorem lvle.get : ∀ {a b : List (Option Value)}, lvle a b → ∀ (i : Nat) (v : Value), a[i]? = some (some v) → b[i]? = some (some v)
  | [], _, _, i, v, h => by simp at h
  | none :: a, [], hl, i, v, h => by
    cases i with
    | zero => simp at h
    | succ i =>
      have := lvle.get (a := a) (b := []) hl i v (by simpa using h)
      simp at this
  | none :: a, c :: b, hl, i, v, h => by
    cases i with
    | zero => simp at h
    | succ i =>
      have := lvle.get (a := a) (b := b) hl i v (by simpa using h)
      simpa using this
  | some w :: a, [], hl, i, v, h => by simp [lvle] at hl
  | some w :: a, c :: b, hl, i, v, h => by
    have h1 : c = some w := by simpa [lvle] using hl.1
    cases i with
    | zero => simp at h; simp [h1, h]
    | succ i =>
      have := lvle.get (a := a) (b := b) hl.2 i v (by simpa using h)
      simpa using this
section GB
variable {X : GX} {cells slots : Nat} {Q : State → Prop} {S : gS} {d : gD} {pc q : Nat} {lv : List (Option Value)} {st : List Value} {cc : ByteArray} {nL nf nw : Nat} {own nm : String} {rt : Option FieldType}
theorem gw.less {lv' : List (Option Value)} (hl : lvle lv' lv) (k : gw X cells slots Q S d pc lv' st) : gw X cells slots Q S d pc lv st :=
  fun ls H locs hv hH hS => k ls H locs ⟨hv.1, hv.2.1, fun i v h => hv.2.2 i v (hl.get i v h)⟩ hH hS
theorem gE.ex (h : gE X cc nL own rt nm nf nw) : (xp X).tables.exec = Jvm.exec := h.1
theorem gE.bt (h : gE X cc nL own rt nm nf nw) : (xc X).code = cc := h.2.1
theorem gE.ml (h : gE X cc nL own rt nm nf nw) : (xc X).maxLocals = nL := h.2.2.1
theorem gE.ow (h : gE X cc nL own rt nm nf nw) : (xs X).vm.findClass own = some (xm X).cls := h.2.2.2.1
theorem gE.wd (h : gE X cc nL own rt nm nf nw) : ∀ w ∈ WG, w.before (xa X) (xs X) = true := h.2.2.2.2.1
theorem gE.kn (h : gE X cc nL own rt nm nf nw) : gK (xG X) (xs X) := h.2.2.2.2.2.1
theorem gE.sz (h : gE X cc nL own rt nm nf nw) : (xG X).2.2 ≤ (xs X).heap.size := h.2.2.2.2.2.2.1
theorem gE.lk (h : gE X cc nL own rt nm nf nw) : (xM X).locks = false := h.2.2.2.2.2.2.2.1
theorem gE.ret (h : gE X cc nL own rt nm nf nw) : (xM X).sig.returnType = rt := h.2.2.2.2.2.2.2.2.1
theorem gE.nam (h : gE X cc nL own rt nm nf nw) : (xM X).name = nm := h.2.2.2.2.2.2.2.2.2.1
theorem gE.fr (h : gE X cc nL own rt nm nf nw) : (xR X).frames = nf := h.2.2.2.2.2.2.2.2.2.2.1
theorem gE.lw (h : gE X cc nL own rt nm nf nw) : (xR X).locals = nw := h.2.2.2.2.2.2.2.2.2.2.2
theorem gE.nest (h : gE X cc nL own rt nm nf nw) {w : Cond} (hw : w ∈ NW) : va_Nw w (xs X) := h.kn.2.1 w hw

theorem g_iadd {x y : Int32} (hE : gE X cc nL own rt nm nf nw) (dg : dc cc pc (.iadd) 1 q) (k : gw X cells slots Q S d q lv (.int (x + y) :: st)) : gw X cells slots Q S d pc lv (.int y :: .int x :: st) := by
  obtain ⟨dg, rfl⟩ := dg
  exact fun ls H locs hl hH hS => lv_iadd hE.ex hE.bt dg (k ls H locs hl hH hS)
theorem g_isub {x y : Int32} (hE : gE X cc nL own rt nm nf nw) (dg : dc cc pc (.isub) 1 q) (k : gw X cells slots Q S d q lv (.int (x - y) :: st)) : gw X cells slots Q S d pc lv (.int y :: .int x :: st) := by
  obtain ⟨dg, rfl⟩ := dg
  exact fun ls H locs hl hH hS => lv_isub hE.ex hE.bt dg (k ls H locs hl hH hS)
theorem g_imul {x y : Int32} (hE : gE X cc nL own rt nm nf nw) (dg : dc cc pc (.imul) 1 q) (k : gw X cells slots Q S d q lv (.int (x * y) :: st)) : gw X cells slots Q S d pc lv (.int y :: .int x :: st) := by
  obtain ⟨dg, rfl⟩ := dg
  exact fun ls H locs hl hH hS => lv_imul hE.ex hE.bt dg (k ls H locs hl hH hS)
theorem g_iand {x y : Int32} (hE : gE X cc nL own rt nm nf nw) (dg : dc cc pc (.iand) 1 q) (k : gw X cells slots Q S d q lv (.int (x &&& y) :: st)) : gw X cells slots Q S d pc lv (.int y :: .int x :: st) := by
  obtain ⟨dg, rfl⟩ := dg
  exact fun ls H locs hl hH hS => lv_iand hE.ex hE.bt dg (k ls H locs hl hH hS)
theorem g_ior {x y : Int32} (hE : gE X cc nL own rt nm nf nw) (dg : dc cc pc (.ior) 1 q) (k : gw X cells slots Q S d q lv (.int (x ||| y) :: st)) : gw X cells slots Q S d pc lv (.int y :: .int x :: st) := by
  obtain ⟨dg, rfl⟩ := dg
  exact fun ls H locs hl hH hS => lv_ior hE.ex hE.bt dg (k ls H locs hl hH hS)
theorem g_land {x y : Int64} (hE : gE X cc nL own rt nm nf nw) (dg : dc cc pc (.land) 1 q) (k : gw X cells slots Q S d q lv (.long (x &&& y) :: st)) : gw X cells slots Q S d pc lv (.long y :: .long x :: st) := by
  obtain ⟨dg, rfl⟩ := dg
  exact fun ls H locs hl hH hS => lv_land hE.ex hE.bt dg (k ls H locs hl hH hS)
theorem g_lor {x y : Int64} (hE : gE X cc nL own rt nm nf nw) (dg : dc cc pc (.lor) 1 q) (k : gw X cells slots Q S d q lv (.long (x ||| y) :: st)) : gw X cells slots Q S d pc lv (.long y :: .long x :: st) := by
  obtain ⟨dg, rfl⟩ := dg
  exact fun ls H locs hl hH hS => lv_lor hE.ex hE.bt dg (k ls H locs hl hH hS)
theorem g_ishl {x y : Int32} (hE : gE X cc nL own rt nm nf nw) (dg : dc cc pc (.ishl) 1 q) (k : gw X cells slots Q S d q lv (.int (x <<< (y &&& 31)) :: st)) : gw X cells slots Q S d pc lv (.int y :: .int x :: st) := by
  obtain ⟨dg, rfl⟩ := dg
  exact fun ls H locs hl hH hS => lv_ishl hE.ex hE.bt dg (k ls H locs hl hH hS)
theorem g_ishr {x y : Int32} (hE : gE X cc nL own rt nm nf nw) (dg : dc cc pc (.ishr) 1 q) (k : gw X cells slots Q S d q lv (.int (x >>> (y &&& 31)) :: st)) : gw X cells slots Q S d pc lv (.int y :: .int x :: st) := by
  obtain ⟨dg, rfl⟩ := dg
  exact fun ls H locs hl hH hS => lv_ishr hE.ex hE.bt dg (k ls H locs hl hH hS)
theorem g_iushr {x y : Int32} (hE : gE X cc nL own rt nm nf nw) (dg : dc cc pc (.iushr) 1 q) (k : gw X cells slots Q S d q lv (.int ((x.toUInt32 >>> (y.toUInt32 &&& Int32.toUInt32 31)).toInt32) :: st)) : gw X cells slots Q S d pc lv (.int y :: .int x :: st) := by
  obtain ⟨dg, rfl⟩ := dg
  exact fun ls H locs hl hH hS => lv_iushr hE.ex hE.bt dg rfl (k ls H locs hl hH hS)
theorem g_idiv {x y : Int32} (hE : gE X cc nL own rt nm nf nw) (dg : dc cc pc (.idiv) 1 q) (hn : ¬ y = 0) (k : gw X cells slots Q S d q lv (.int (x / y) :: st)) : gw X cells slots Q S d pc lv (.int y :: .int x :: st) := by
  obtain ⟨dg, rfl⟩ := dg
  exact fun ls H locs hl hH hS => lv_idiv hE.ex hE.bt dg hn (k ls H locs hl hH hS)
theorem g_irem {x y : Int32} (hE : gE X cc nL own rt nm nf nw) (dg : dc cc pc (.irem) 1 q) (hn : ¬ y = 0) (k : gw X cells slots Q S d q lv (.int (x - x / y * y) :: st)) : gw X cells slots Q S d pc lv (.int y :: .int x :: st) := by
  obtain ⟨dg, rfl⟩ := dg
  exact fun ls H locs hl hH hS => lv_irem hE.ex hE.bt dg hn (k ls H locs hl hH hS)
theorem g_lshl {x : Int64} {y : Int32} (hE : gE X cc nL own rt nm nf nw) (dg : dc cc pc (.lshl) 1 q) (k : gw X cells slots Q S d q lv (.long (x <<< (y.toInt64 &&& 63)) :: st)) : gw X cells slots Q S d pc lv (.int y :: .long x :: st) := by
  obtain ⟨dg, rfl⟩ := dg
  exact fun ls H locs hl hH hS => lv_lshl hE.ex hE.bt dg rfl (k ls H locs hl hH hS)
theorem g_i2l {x : Int32} (hE : gE X cc nL own rt nm nf nw) (dg : dc cc pc (.i2l) 1 q) (k : gw X cells slots Q S d q lv (.long x.toInt64 :: st)) : gw X cells slots Q S d pc lv (.int x :: st) := by
  obtain ⟨dg, rfl⟩ := dg
  exact fun ls H locs hl hH hS => lv_i2l hE.ex hE.bt dg rfl (k ls H locs hl hH hS)
theorem g_l2i {x : Int64} (hE : gE X cc nL own rt nm nf nw) (dg : dc cc pc (.l2i) 1 q) (k : gw X cells slots Q S d q lv (.int x.toInt32 :: st)) : gw X cells slots Q S d pc lv (.long x :: st) := by
  obtain ⟨dg, rfl⟩ := dg
  exact fun ls H locs hl hH hS => lv_l2i hE.ex hE.bt dg rfl (k ls H locs hl hH hS)
theorem g_i2b {x : Int32} (hE : gE X cc nL own rt nm nf nw) (dg : dc cc pc (.i2b) 1 q) (k : gw X cells slots Q S d q lv (.int x.toInt8.toInt32 :: st)) : gw X cells slots Q S d pc lv (.int x :: st) := by
  obtain ⟨dg, rfl⟩ := dg
  exact fun ls H locs hl hH hS => lv_i2b hE.ex hE.bt dg rfl (k ls H locs hl hH hS)
theorem g_i2s {x : Int32} (hE : gE X cc nL own rt nm nf nw) (dg : dc cc pc (.i2s) 1 q) (k : gw X cells slots Q S d q lv (.int x.toInt16.toInt32 :: st)) : gw X cells slots Q S d pc lv (.int x :: st) := by
  obtain ⟨dg, rfl⟩ := dg
  exact fun ls H locs hl hH hS => lv_i2s hE.ex hE.bt dg rfl (k ls H locs hl hH hS)
theorem g_i2c {x : Int32} (hE : gE X cc nL own rt nm nf nw) (dg : dc cc pc (.i2c) 1 q) (k : gw X cells slots Q S d q lv (.int (x.toUInt32 % 65536).toInt32 :: st)) : gw X cells slots Q S d pc lv (.int x :: st) := by
  obtain ⟨dg, rfl⟩ := dg
  exact fun ls H locs hl hH hS => lv_i2c hE.ex hE.bt dg rfl (k ls H locs hl hH hS)
theorem g_lcmp {x y : Int64} (hE : gE X cc nL own rt nm nf nw) (dg : dc cc pc (.lcmp) 1 q) (k : gw X cells slots Q S d q lv (.int (lg_cmp x y) :: st)) : gw X cells slots Q S d pc lv (.long y :: .long x :: st) := by
  obtain ⟨dg, rfl⟩ := dg
  exact fun ls H locs hl hH hS => W.lcmp hE.ex hE.bt dg (k ls H locs hl hH hS)
theorem g_iconst {n : Int} {v : Int32} (hE : gE X cc nL own rt nm nf nw) (dg : dc cc pc (.iconst n) 1 q) (hv : Int32.ofInt n = v) (k : gw X cells slots Q S d q lv (.int v :: st)) : gw X cells slots Q S d pc lv (st) := by
  obtain ⟨dg, rfl⟩ := dg
  exact fun ls H locs hl hH hS => lv_iconst hE.ex hE.bt dg hv (k ls H locs hl hH hS)
theorem g_bipush {n : Int} {v : Int32} (hE : gE X cc nL own rt nm nf nw) (dg : dc cc pc (.bipush n) 2 q) (hv : (Int8.ofInt n).toInt32 = v) (k : gw X cells slots Q S d q lv (.int v :: st)) : gw X cells slots Q S d pc lv (st) := by
  obtain ⟨dg, rfl⟩ := dg
  exact fun ls H locs hl hH hS => lv_bipush hE.ex hE.bt dg hv (k ls H locs hl hH hS)
theorem g_sipush {n : Int} {v : Int32} (hE : gE X cc nL own rt nm nf nw) (dg : dc cc pc (.sipush n) 3 q) (hv : (Int16.ofInt n).toInt32 = v) (k : gw X cells slots Q S d q lv (.int v :: st)) : gw X cells slots Q S d pc lv (st) := by
  obtain ⟨dg, rfl⟩ := dg
  exact fun ls H locs hl hH hS => lv_sipush hE.ex hE.bt dg hv (k ls H locs hl hH hS)
theorem g_lconst {n : Fin 2} {v : Int64} (hE : gE X cc nL own rt nm nf nw) (dg : dc cc pc (.lconst n) 1 q) (hv : Int64.ofNat (n : Nat) = v) (k : gw X cells slots Q S d q lv (.long v :: st)) : gw X cells slots Q S d pc lv (st) := by
  obtain ⟨dg, rfl⟩ := dg
  exact fun ls H locs hl hH hS => lv_lconst hE.ex hE.bt dg hv (k ls H locs hl hH hS)
theorem g_popi {x : Int32} (hE : gE X cc nL own rt nm nf nw) (dg : dc cc pc (.pop) 1 q) (k : gw X cells slots Q S d q lv (st)) : gw X cells slots Q S d pc lv (.int x :: st) := by
  obtain ⟨dg, rfl⟩ := dg
  exact fun ls H locs hl hH hS => lv_pop hE.ex hE.bt dg rfl (k ls H locs hl hH hS)
theorem g_popr {x : Option Nat} (hE : gE X cc nL own rt nm nf nw) (dg : dc cc pc (.pop) 1 q) (k : gw X cells slots Q S d q lv (st)) : gw X cells slots Q S d pc lv (va_rf x :: st) := by
  obtain ⟨dg, rfl⟩ := dg
  exact fun ls H locs hl hH hS => lv_pop hE.ex hE.bt dg (rf_cat x) (k ls H locs hl hH hS)
theorem g_dupi {x : Int32} (hE : gE X cc nL own rt nm nf nw) (dg : dc cc pc (.dup) 1 q) (k : gw X cells slots Q S d q lv (.int x :: .int x :: st)) : gw X cells slots Q S d pc lv (.int x :: st) := by
  obtain ⟨dg, rfl⟩ := dg
  exact fun ls H locs hl hH hS => lv_dup hE.ex hE.bt dg rfl (k ls H locs hl hH hS)
theorem g_dupr {x : Option Nat} (hE : gE X cc nL own rt nm nf nw) (dg : dc cc pc (.dup) 1 q) (k : gw X cells slots Q S d q lv (va_rf x :: va_rf x :: st)) : gw X cells slots Q S d pc lv (va_rf x :: st) := by
  obtain ⟨dg, rfl⟩ := dg
  exact fun ls H locs hl hH hS => lv_dup hE.ex hE.bt dg (rf_cat x) (k ls H locs hl hH hS)
theorem g_dup2ir {x : Int32} {y : Option Nat} (hE : gE X cc nL own rt nm nf nw) (dg : dc cc pc (.dup2) 1 q) (k : gw X cells slots Q S d q lv (.int x :: va_rf y :: .int x :: va_rf y :: st)) : gw X cells slots Q S d pc lv (.int x :: va_rf y :: st) := by
  obtain ⟨dg, rfl⟩ := dg
  exact fun ls H locs hl hH hS => lv_dup2_11 hE.ex hE.bt dg rfl (rf_cat y) (k ls H locs hl hH hS)
theorem g_null  (hE : gE X cc nL own rt nm nf nw) (dg : dc cc pc (.aconst_null) 1 q) (k : gw X cells slots Q S d q lv (va_rf none :: st)) : gw X cells slots Q S d pc lv (st) := by
  obtain ⟨dg, rfl⟩ := dg
  exact fun ls H locs hl hH hS => lv_null hE.ex hE.bt dg (k ls H locs hl hH hS)
theorem g_ldc2 {idx : Nat} {v : Int64} (hE : gE X cc nL own rt nm nf nw) (dg : dc cc pc (.ldc2_w idx) 3 q) (hw : Jvm.Cond.constantLong own idx v ∈ WG) (k : gw X cells slots Q S d q lv (.long v :: st)) : gw X cells slots Q S d pc lv st := by
  obtain ⟨dg, rfl⟩ := dg
  exact fun ls H locs hl hH hS => lv_ldc2 hE.ex hE.bt hE.ow (hE.wd _ hw) dg (k ls H locs hl hH hS)
theorem g_ldc {idx : Nat} {v : Int32} (hE : gE X cc nL own rt nm nf nw) (dg : dc cc pc (.ldc idx) 2 q) (hw : Jvm.Cond.constant own idx v ∈ WG) (k : gw X cells slots Q S d q lv (.int v :: st)) : gw X cells slots Q S d pc lv st := by
  obtain ⟨dg, rfl⟩ := dg
  exact fun ls H locs hl hH hS => lv_ldc hE.ex hE.bt hE.ow (hE.wd _ hw) dg (k ls H locs hl hH hS)
theorem g_iload_n {k0 : Fin 4} {i : Nat} {x : Int32} (hE : gE X cc nL own rt nm nf nw) (dg : dc cc pc (.iload_n k0) 1 q) (hi : (k0 : Nat) = i) (hv : lv[i]? = some (some (.int x))) (k : gw X cells slots Q S d q lv (.int x :: st)) : gw X cells slots Q S d pc lv st := by
  obtain ⟨dg, rfl⟩ := dg
  exact fun ls H locs hl hH hS => lv_iload_n hE.ex hE.bt dg hi (hl.2.2 i _ hv) (k ls H locs hl hH hS)
theorem g_iload {i : Nat} {x : Int32} (hE : gE X cc nL own rt nm nf nw) (dg : dc cc pc (.iload i) 2 q) (hv : lv[i]? = some (some (.int x))) (k : gw X cells slots Q S d q lv (.int x :: st)) : gw X cells slots Q S d pc lv st := by
  obtain ⟨dg, rfl⟩ := dg
  exact fun ls H locs hl hH hS => lv_iload hE.ex hE.bt dg (hl.2.2 i _ hv) (k ls H locs hl hH hS)
theorem g_lload_n {k0 : Fin 4} {i : Nat} {x : Int64} (hE : gE X cc nL own rt nm nf nw) (dg : dc cc pc (.lload_n k0) 1 q) (hi : (k0 : Nat) = i) (hv : lv[i]? = some (some (.long x))) (k : gw X cells slots Q S d q lv (.long x :: st)) : gw X cells slots Q S d pc lv st := by
  obtain ⟨dg, rfl⟩ := dg
  exact fun ls H locs hl hH hS => lv_lload_n hE.ex hE.bt dg hi (hl.2.2 i _ hv) (k ls H locs hl hH hS)
theorem g_lload {i : Nat} {x : Int64} (hE : gE X cc nL own rt nm nf nw) (dg : dc cc pc (.lload i) 2 q) (hv : lv[i]? = some (some (.long x))) (k : gw X cells slots Q S d q lv (.long x :: st)) : gw X cells slots Q S d pc lv st := by
  obtain ⟨dg, rfl⟩ := dg
  exact fun ls H locs hl hH hS => lv_lload hE.ex hE.bt dg (hl.2.2 i _ hv) (k ls H locs hl hH hS)
theorem g_aload_n {k0 : Fin 4} {i : Nat} {x : Option Nat} (hE : gE X cc nL own rt nm nf nw) (dg : dc cc pc (.aload_n k0) 1 q) (hi : (k0 : Nat) = i) (hv : lv[i]? = some (some (va_rf x))) (k : gw X cells slots Q S d q lv (va_rf x :: st)) : gw X cells slots Q S d pc lv st := by
  obtain ⟨dg, rfl⟩ := dg
  cases x with
  | none => exact fun ls H locs hl hH hS => lv_aload_nN hE.ex hE.bt dg hi (hl.2.2 i _ hv) (k ls H locs hl hH hS)
  | some a => exact fun ls H locs hl hH hS => lv_aload_n hE.ex hE.bt dg hi (hl.2.2 i _ hv) (k ls H locs hl hH hS)
theorem g_aload {i : Nat} {x : Option Nat} (hE : gE X cc nL own rt nm nf nw) (dg : dc cc pc (.aload i) 2 q) (hv : lv[i]? = some (some (va_rf x))) (k : gw X cells slots Q S d q lv (va_rf x :: st)) : gw X cells slots Q S d pc lv st := by
  obtain ⟨dg, rfl⟩ := dg
  cases x with
  | none => exact fun ls H locs hl hH hS => lv_aloadN hE.ex hE.bt dg (hl.2.2 i _ hv) (k ls H locs hl hH hS)
  | some a => exact fun ls H locs hl hH hS => lv_aload hE.ex hE.bt dg (hl.2.2 i _ hv) (k ls H locs hl hH hS)
def lvp (lv : List (Option Value)) (i : Nat) : Prop := ∀ (j : Nat) (v : Value), j + 1 = i → lv[j]? = some (some v) → v.category = 1
theorem lvp_0 : lvp lv 0 := fun j v h _ => absurd h (Nat.succ_ne_zero j)
theorem lvp_n {i : Nat} (h : lv[i]? = some none) : lvp lv (i + 1) := fun j v e g => by
  cases (Nat.succ.inj e); rw [h] at g; cases g
theorem lvp_e {i : Nat} (h : lv[i]? = none) : lvp lv (i + 1) := fun j v e g => by
  cases (Nat.succ.inj e); rw [h] at g; cases g
theorem lvp_i {i : Nat} {x : Int32} (h : lv[i]? = some (some (.int x))) : lvp lv (i + 1) := fun j v e g => by
  cases (Nat.succ.inj e); rw [h] at g; cases g; rfl
theorem lvp_r {i : Nat} {x : Option Nat} (h : lv[i]? = some (some (va_rf x))) : lvp lv (i + 1) := fun j v e g => by
  cases (Nat.succ.inj e); rw [h] at g; cases g; exact rf_cat x
def lvl (lv : List (Option Value)) : List (Nat × Value) := (List.range lv.length).filterMap fun i => (lv[i]?).join.map fun v => (i, v)
theorem lvl_mem {i : Nat} {v : Value} : (i, v) ∈ lvl lv ↔ lv[i]? = some (some v) := by
  constructor
  · intro h
    obtain ⟨j, -, hj⟩ := List.mem_filterMap.mp h
    cases hg : lv[j]? with
    | none => rw [hg] at hj; simp at hj
    | some o =>
      rw [hg] at hj
      cases o with
      | none => simp at hj
      | some w => simp at hj; obtain ⟨rfl, rfl⟩ := hj; exact hg
  · intro h
    refine List.mem_filterMap.mpr ⟨i, List.mem_range.mpr ?_, by rw [h]; rfl⟩
    exact (List.getElem?_eq_some_iff.mp h).1
theorem lvh.has {ls : Array Slot} {n : Nat} (h : lvh ls n lv) : lv_has ls n (lvl lv) := ⟨h.1, h.2.1, fun p hp => h.2.2 p.1 p.2 (lvl_mem.mp hp)⟩
theorem lvh.put {ls' : Array Slot} {n i : Nat} {v : Value} {lv' : List (Option Value)} {g : Nat × Value → Bool} (h : lv_has ls' n ((i, v) :: (lvl lv).filter g)) (hg : ∀ (j : Nat) (w : Value), lv'[j]? = some (some w) → (j = i ∧ w = v) ∨ (lv[j]? = some (some w) ∧ g (j, w) = true)) : lvh ls' n lv' :=
  ⟨h.1, h.2.1, fun j w hj => by
    rcases hg j w hj with ⟨rfl, rfl⟩ | ⟨h1, h2⟩
    · exact h.2.2 (j, w) List.mem_cons_self
    · exact h.2.2 (j, w) (List.mem_cons_of_mem _ (List.mem_filter.mpr ⟨lvl_mem.mpr h1, h2⟩))⟩
def lvs (lv : List (Option Value)) (i : Nat) (v : Value) (lv' : List (Option Value)) : Prop := lv.set i (some v) = lv' ∧ i < lv.length
theorem lvs.one {i : Nat} {v : Value} {lv' : List (Option Value)} (hs : lvs lv i v lv') (hp : lvp lv i) : ∀ (j : Nat) (w : Value), lv'[j]? = some (some w) → (j = i ∧ w = v) ∨ (lv[j]? = some (some w) ∧ (!((j, w).1 == i) && !((j, w).1 + 1 == i && (j, w).2.category == 2)) = true) := by
  intro j w hj
  obtain ⟨rfl, hi⟩ := hs
  by_cases e : j = i
  · subst e
    rw [List.getElem?_set_self hi] at hj
    exact Or.inl ⟨rfl, (Option.some.inj (Option.some.inj hj)).symm⟩
  · rw [List.getElem?_set_ne (Ne.symm e)] at hj
    refine Or.inr ⟨hj, ?_⟩
    by_cases e2 : j + 1 = i
    · have := hp j w e2 hj
      simp [e, e2, this]
    · simp [e, e2]
theorem g_istore_n {k0 : Fin 4} {i : Nat} {x : Int32} {lv' : List (Option Value)} (hE : gE X cc nL own rt nm nf nw) (dg : dc cc pc (.istore_n k0) 1 q) (hi : (k0 : Nat) = i) (hn : i < nL) (hs : lvs lv i (.int x) lv') (hp : lvp lv i) (k : gw X cells slots Q S d q lv' st) : gw X cells slots Q S d pc lv (.int x :: st) := by
  obtain ⟨dg, rfl⟩ := dg
  exact fun ls H locs hl hH hS => lv_istore_n hE.ex hE.bt dg hi hl.has (by rw [hE.ml]; exact hn) rfl (fun ls' h' => k ls' H locs (lvh.put h' (hs.one hp)) hH hS)
theorem g_istore {i : Nat} {x : Int32} {lv' : List (Option Value)} (hE : gE X cc nL own rt nm nf nw) (dg : dc cc pc (.istore i) 2 q) (hn : i < nL) (hs : lvs lv i (.int x) lv') (hp : lvp lv i) (k : gw X cells slots Q S d q lv' st) : gw X cells slots Q S d pc lv (.int x :: st) := by
  obtain ⟨dg, rfl⟩ := dg
  exact fun ls H locs hl hH hS => lv_istore hE.ex hE.bt dg hl.has (by rw [hE.ml]; exact hn) rfl (fun ls' h' => k ls' H locs (lvh.put h' (hs.one hp)) hH hS)
theorem g_astore_n {k0 : Fin 4} {i : Nat} {x : Option Nat} {lv' : List (Option Value)} (hE : gE X cc nL own rt nm nf nw) (dg : dc cc pc (.astore_n k0) 1 q) (hi : (k0 : Nat) = i) (hn : i < nL) (hs : lvs lv i (va_rf x) lv') (hp : lvp lv i) (k : gw X cells slots Q S d q lv' st) : gw X cells slots Q S d pc lv (va_rf x :: st) := by
  obtain ⟨dg, rfl⟩ := dg
  cases x with
  | none => exact fun ls H locs hl hH hS => lv_astore_nN hE.ex hE.bt dg hi hl.has (by rw [hE.ml]; exact hn) rfl (fun ls' h' => k ls' H locs (lvh.put h' (hs.one hp)) hH hS)
  | some a => exact fun ls H locs hl hH hS => lv_astore_n hE.ex hE.bt dg hi hl.has (by rw [hE.ml]; exact hn) rfl (fun ls' h' => k ls' H locs (lvh.put h' (hs.one hp)) hH hS)
theorem g_astore {i : Nat} {x : Option Nat} {lv' : List (Option Value)} (hE : gE X cc nL own rt nm nf nw) (dg : dc cc pc (.astore i) 2 q) (hn : i < nL) (hs : lvs lv i (va_rf x) lv') (hp : lvp lv i) (k : gw X cells slots Q S d q lv' st) : gw X cells slots Q S d pc lv (va_rf x :: st) := by
  obtain ⟨dg, rfl⟩ := dg
  cases x with
  | none => exact fun ls H locs hl hH hS => lv_astoreN hE.ex hE.bt dg hl.has (by rw [hE.ml]; exact hn) rfl (fun ls' h' => k ls' H locs (lvh.put h' (hs.one hp)) hH hS)
  | some a => exact fun ls H locs hl hH hS => lv_astore hE.ex hE.bt dg hl.has (by rw [hE.ml]; exact hn) rfl (fun ls' h' => k ls' H locs (lvh.put h' (hs.one hp)) hH hS)
theorem g_iinc {i : Nat} {n : Int} {x v : Int32} {lv' : List (Option Value)} (hE : gE X cc nL own rt nm nf nw) (dg : dc cc pc (.iinc i n) 3 q) (hv : Int32.ofInt n = v) (hk : lv[i]? = some (some (.int x))) (hn : i < nL) (hs : lvs lv i (.int (x + v)) lv') (hp : lvp lv i) (k : gw X cells slots Q S d q lv' st) : gw X cells slots Q S d pc lv st := by
  obtain ⟨dg, rfl⟩ := dg
  intro ls H locs hl hH hS
  obtain ⟨j, hj⟩ := List.getElem?_of_mem (lvl_mem.mpr hk)
  exact lv_iinc hE.ex hE.bt dg hl.has hj (by rw [hv]) (by rw [hE.ml]; exact hn) rfl (fun ls' h' => k ls' H locs (lvh.put h' (hs.one hp)) hH hS)
theorem g_icmp_eq {x y : Int32} {off : Int} {tgt : Nat} (hE : gE X cc nL own rt nm nf nw) (dg : db cc pc (.if_icmp .eq off) off tgt q) (kt : x = y → gw X cells slots Q S d tgt lv st) (kf : ¬ x = y → gw X cells slots Q S d q lv st) : gw X cells slots Q S d pc lv (.int y :: .int x :: st) := by
  obtain ⟨dg, ht, rfl⟩ := dg
  exact fun ls H locs hl hH hS => lv_icmp_eq hE.ex hE.bt dg ht (fun c => kt c ls H locs hl hH hS) (fun c => kf c ls H locs hl hH hS)
theorem g_icmp_ne {x y : Int32} {off : Int} {tgt : Nat} (hE : gE X cc nL own rt nm nf nw) (dg : db cc pc (.if_icmp .ne off) off tgt q) (kt : ¬ x = y → gw X cells slots Q S d tgt lv st) (kf : x = y → gw X cells slots Q S d q lv st) : gw X cells slots Q S d pc lv (.int y :: .int x :: st) := by
  obtain ⟨dg, ht, rfl⟩ := dg
  exact fun ls H locs hl hH hS => lv_icmp_ne hE.ex hE.bt dg ht (fun c => kt c ls H locs hl hH hS) (fun c => kf c ls H locs hl hH hS)
theorem g_icmp_lt {x y : Int32} {off : Int} {tgt : Nat} (hE : gE X cc nL own rt nm nf nw) (dg : db cc pc (.if_icmp .lt off) off tgt q) (kt : x < y → gw X cells slots Q S d tgt lv st) (kf : ¬ x < y → gw X cells slots Q S d q lv st) : gw X cells slots Q S d pc lv (.int y :: .int x :: st) := by
  obtain ⟨dg, ht, rfl⟩ := dg
  exact fun ls H locs hl hH hS => lv_icmp_lt hE.ex hE.bt dg ht (fun c => kt c ls H locs hl hH hS) (fun c => kf c ls H locs hl hH hS)
theorem g_icmp_ge {x y : Int32} {off : Int} {tgt : Nat} (hE : gE X cc nL own rt nm nf nw) (dg : db cc pc (.if_icmp .ge off) off tgt q) (kt : y ≤ x → gw X cells slots Q S d tgt lv st) (kf : ¬ y ≤ x → gw X cells slots Q S d q lv st) : gw X cells slots Q S d pc lv (.int y :: .int x :: st) := by
  obtain ⟨dg, ht, rfl⟩ := dg
  exact fun ls H locs hl hH hS => lv_icmp_ge hE.ex hE.bt dg ht (fun c => kt c ls H locs hl hH hS) (fun c => kf c ls H locs hl hH hS)
theorem g_icmp_gt {x y : Int32} {off : Int} {tgt : Nat} (hE : gE X cc nL own rt nm nf nw) (dg : db cc pc (.if_icmp .gt off) off tgt q) (kt : y < x → gw X cells slots Q S d tgt lv st) (kf : ¬ y < x → gw X cells slots Q S d q lv st) : gw X cells slots Q S d pc lv (.int y :: .int x :: st) := by
  obtain ⟨dg, ht, rfl⟩ := dg
  exact fun ls H locs hl hH hS => lv_icmp_gt hE.ex hE.bt dg ht (fun c => kt c ls H locs hl hH hS) (fun c => kf c ls H locs hl hH hS)
theorem g_icmp_le {x y : Int32} {off : Int} {tgt : Nat} (hE : gE X cc nL own rt nm nf nw) (dg : db cc pc (.if_icmp .le off) off tgt q) (kt : x ≤ y → gw X cells slots Q S d tgt lv st) (kf : ¬ x ≤ y → gw X cells slots Q S d q lv st) : gw X cells slots Q S d pc lv (.int y :: .int x :: st) := by
  obtain ⟨dg, ht, rfl⟩ := dg
  exact fun ls H locs hl hH hS => lv_icmp_le hE.ex hE.bt dg ht (fun c => kt c ls H locs hl hH hS) (fun c => kf c ls H locs hl hH hS)
theorem g_if_eq {x : Int32} {off : Int} {tgt : Nat} (hE : gE X cc nL own rt nm nf nw) (dg : db cc pc (.ifCond .eq off) off tgt q) (kt : x = 0 → gw X cells slots Q S d tgt lv st) (kf : ¬ x = 0 → gw X cells slots Q S d q lv st) : gw X cells slots Q S d pc lv (.int x :: st) := by
  obtain ⟨dg, ht, rfl⟩ := dg
  exact fun ls H locs hl hH hS => lv_if_eq hE.ex hE.bt dg ht (fun c => kt c ls H locs hl hH hS) (fun c => kf c ls H locs hl hH hS)
theorem g_if_ne {x : Int32} {off : Int} {tgt : Nat} (hE : gE X cc nL own rt nm nf nw) (dg : db cc pc (.ifCond .ne off) off tgt q) (kt : ¬ x = 0 → gw X cells slots Q S d tgt lv st) (kf : x = 0 → gw X cells slots Q S d q lv st) : gw X cells slots Q S d pc lv (.int x :: st) := by
  obtain ⟨dg, ht, rfl⟩ := dg
  exact fun ls H locs hl hH hS => lv_if_ne hE.ex hE.bt dg ht (fun c => kt c ls H locs hl hH hS) (fun c => kf c ls H locs hl hH hS)
theorem g_if_lt {x : Int32} {off : Int} {tgt : Nat} (hE : gE X cc nL own rt nm nf nw) (dg : db cc pc (.ifCond .lt off) off tgt q) (kt : x < 0 → gw X cells slots Q S d tgt lv st) (kf : ¬ x < 0 → gw X cells slots Q S d q lv st) : gw X cells slots Q S d pc lv (.int x :: st) := by
  obtain ⟨dg, ht, rfl⟩ := dg
  exact fun ls H locs hl hH hS => lv_if_lt hE.ex hE.bt dg ht (fun c => kt c ls H locs hl hH hS) (fun c => kf c ls H locs hl hH hS)
theorem g_if_ge {x : Int32} {off : Int} {tgt : Nat} (hE : gE X cc nL own rt nm nf nw) (dg : db cc pc (.ifCond .ge off) off tgt q) (kt : 0 ≤ x → gw X cells slots Q S d tgt lv st) (kf : ¬ 0 ≤ x → gw X cells slots Q S d q lv st) : gw X cells slots Q S d pc lv (.int x :: st) := by
  obtain ⟨dg, ht, rfl⟩ := dg
  exact fun ls H locs hl hH hS => lv_if_ge hE.ex hE.bt dg ht (fun c => kt c ls H locs hl hH hS) (fun c => kf c ls H locs hl hH hS)
theorem g_if_gt {x : Int32} {off : Int} {tgt : Nat} (hE : gE X cc nL own rt nm nf nw) (dg : db cc pc (.ifCond .gt off) off tgt q) (kt : 0 < x → gw X cells slots Q S d tgt lv st) (kf : ¬ 0 < x → gw X cells slots Q S d q lv st) : gw X cells slots Q S d pc lv (.int x :: st) := by
  obtain ⟨dg, ht, rfl⟩ := dg
  exact fun ls H locs hl hH hS => lv_if_gt hE.ex hE.bt dg ht (fun c => kt c ls H locs hl hH hS) (fun c => kf c ls H locs hl hH hS)
theorem g_if_le {x : Int32} {off : Int} {tgt : Nat} (hE : gE X cc nL own rt nm nf nw) (dg : db cc pc (.ifCond .le off) off tgt q) (kt : x ≤ 0 → gw X cells slots Q S d tgt lv st) (kf : ¬ x ≤ 0 → gw X cells slots Q S d q lv st) : gw X cells slots Q S d pc lv (.int x :: st) := by
  obtain ⟨dg, ht, rfl⟩ := dg
  exact fun ls H locs hl hH hS => lv_if_le hE.ex hE.bt dg ht (fun c => kt c ls H locs hl hH hS) (fun c => kf c ls H locs hl hH hS)
theorem g_ifnull {x : Option Nat} {off : Int} {tgt : Nat} (hE : gE X cc nL own rt nm nf nw) (dg : db cc pc (.ifnull off) off tgt q) (kt : x = none → gw X cells slots Q S d tgt lv st) (kf : ¬ x = none → gw X cells slots Q S d q lv st) : gw X cells slots Q S d pc lv (va_rf x :: st) := by
  obtain ⟨dg, ht, rfl⟩ := dg
  cases x with
  | none => exact fun ls H locs hl hH hS => lv_ifnullN hE.ex hE.bt dg ht (kt rfl ls H locs hl hH hS)
  | some a => exact fun ls H locs hl hH hS => lv_ifnull hE.ex hE.bt dg (kf (fun h => by cases h) ls H locs hl hH hS)
theorem g_goto {off : Int} {tgt : Nat} (hE : gE X cc nL own rt nm nf nw) (dg : db cc pc (.goto off) off tgt q) (k : gw X cells slots Q S d tgt lv st) : gw X cells slots Q S d pc lv st := by
  obtain ⟨dg, ht, rfl⟩ := dg
  exact fun ls H locs hl hH hS => lv_goto hE.ex hE.bt dg ht (k ls H locs hl hH hS)
end GB
