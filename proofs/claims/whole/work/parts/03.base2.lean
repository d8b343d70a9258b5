theorem nar_rf {fty : FieldType} (h : fty.isReference = true) (x : Option Nat) : narrow fty (va_rf x) = va_rf x := by
  cases x <;> cases fty <;> first | rfl | cases h
theorem fit_rf {fty : FieldType} (h : fty.isReference = true) (x : Option Nat) : fits fty (va_rf x) = true := by
  cases x <;> cases fty <;> first | rfl | cases h
theorem nar_z {x : Int32} (h : x = 0 ∨ x = 1) : narrow .boolean (.int x) = .int x := by
  rcases h with rfl | rfl <;> rfl
theorem fit_z {x : Int32} (h : x = 0 ∨ x = 1) : fits .boolean (.int x) = true := by
  rcases h with rfl | rfl <;> rfl
def gCl (κ : Nat) (C : String) (T : u_T) (N : Nat) (ty : Nat → FieldType) : Prop := κ ≠ 0 ∧ κ < 50 ∧ classes[κ - 1]? = some (C, T, N) ∧ (∀ w ∈ u_ws C T N, w ∈ WG) ∧ (∀ k, k < N → parseFieldDescriptor (T k).2.2.1 = some (ty k)) ∧ ∀ a, a < N → ∀ b, b < N → a ≠ b → (T a).2.1 ≠ (T b).2.1
def gY (y : MethodName) (b : ByteArray) (nL : Nat) (rt : Option FieldType) (n : Nat) : Prop := Cond.code y b nL rt ∈ WG ∧ Cond.initialized y.cls ∈ WG ∧ y.cls ≠ "java/lang/invoke/MethodHandle" ∧ y.cls ≠ "java/lang/invoke/VarHandle" ∧ (parseMethodDescriptor y.desc).map (fun d => d.parameters.length) = some n
theorem gV_i {S : gS} {d : gD} {a k : Nat} (h : srt (sK S a) k = 0) : gV S d a k = .int (dI d a k) := by unfold gV; rw [h]; rfl
theorem gV_l {S : gS} {d : gD} {a k : Nat} (h : srt (sK S a) k = 1) : gV S d a k = .long (dL d a k) := by unfold gV; rw [h]; rfl
theorem gV_r {S : gS} {d : gD} {a k : Nat} (h : srt (sK S a) k = 2) : gV S d a k = va_rf (sP S a k) := by unfold gV; rw [h]; rfl
theorem gV_congr {S S' : gS} {d d' : gD} {b : Nat} (hk : sK S' b = sK S b) (hp : ∀ j, sP S' b j = sP S b j) (hi : ∀ j, dI d' b j = dI d b j) (hl : ∀ j, dL d' b j = dL d b j) : gV S' d' b = gV S d b := by
  funext j
  unfold gV
  rw [hk, hp, hi, hl]
theorem up2_ne {α : Type} {f : Nat → Nat → α} {a k b : Nat} {v : α} (h : b ≠ a) (j : Nat) : up2 f a k v b j = f b j := if_neg (fun e => h e.1)
theorem up2_nk {α : Type} {f : Nat → Nat → α} {a k b j : Nat} {v : α} (h : j ≠ k) : up2 f a k v b j = f b j := if_neg (fun e => h e.2)
theorem up2_eq {α : Type} {f : Nat → Nat → α} {a k : Nat} {v : α} : up2 f a k v a k = v := if_pos ⟨rfl, rfl⟩
theorem gV_wI {S : gS} {d : gD} {a k : Nat} {x : Int32} (h : srt (sK S a) k = 0) : gV S (wI d a k x) a = updV (gV S d a) k (.int x) := by
  funext j
  by_cases e : j = k
  · subst e
    rw [gV_i h]
    simp [updV, dI, wI, up2_eq]
  · simp only [updV, if_neg e]
    unfold gV
    rw [show dI (wI d a k x) a j = dI d a j from up2_nk e]
    rfl
theorem gV_wL {S : gS} {d : gD} {a k : Nat} {x : Int64} (h : srt (sK S a) k = 1) : gV S (wL d a k x) a = updV (gV S d a) k (.long x) := by
  funext j
  by_cases e : j = k
  · subst e
    rw [gV_l h]
    simp [updV, dL, wL, up2_eq]
  · simp only [updV, if_neg e]
    unfold gV
    rw [show dL (wL d a k x) a j = dL d a j from up2_nk e]
    rfl
theorem gV_wP {S : gS} {d : gD} {a k : Nat} {x : Option Nat} (h : srt (sK S a) k = 2) : gV (wP S a k x) d a = updV (gV S d a) k (va_rf x) := by
  funext j
  by_cases e : j = k
  · subst e
    rw [gV_r (S := wP S a j x) h]
    simp [updV, sP, wP, up2_eq]
  · simp only [updV, if_neg e]
    unfold gV
    rw [show sP (wP S a k x) a j = sP S a j from up2_nk e]
    rfl
theorem gV_wI_ne {S : gS} {d : gD} {a k b : Nat} {x : Int32} (h : b ≠ a) : gV S (wI d a k x) b = gV S d b := gV_congr rfl (fun _ => rfl) (fun j => up2_ne h j) (fun _ => rfl)
theorem gV_wL_ne {S : gS} {d : gD} {a k b : Nat} {x : Int64} (h : b ≠ a) : gV S (wL d a k x) b = gV S d b := gV_congr rfl (fun _ => rfl) (fun _ => rfl) (fun j => up2_ne h j)
theorem gV_wP_ne {S : gS} {d : gD} {a k b : Nat} {x : Option Nat} (h : b ≠ a) : gV (wP S a k x) d b = gV S d b := gV_congr rfl (fun j => up2_ne h j) (fun _ => rfl) (fun _ => rfl)
theorem gAt.kept {G : gG} {S S' : gS} {d d' : gD} {b : Nat} {H H' : Heap} (h : gAt G S d b H) (hq : H'[b]? = H[b]?) (hk : sK S' b = sK S b) (hn : sN S' b = sN S b) (hv : gV S' d' b = gV S d b) : gAt G S' d' b H' := by
  unfold gAt at h ⊢
  rw [hk, hn, hv]
  exact ⟨fun c => by obtain ⟨r, h1, h2⟩ := h.1 c; exact ⟨r, h1, h2.kept hq⟩, fun c => hq.trans (h.2 c)⟩
theorem gH.upd {G : gG} {S S' : gS} {d d' : gD} {a : Nat} {H H' : Heap} (hH : gH G S d H) (hz : H'.size = H.size) (ho : ∀ q, q ≠ a → H'[q]? = H[q]?) (hk : ∀ b, sK S' b = sK S b) (hn : ∀ b, sN S' b = sN S b) (hs : sZ S' = sZ S) (hv : ∀ b, b ≠ a → gV S' d' b = gV S d b) (ha : gAt G S' d' a H') : gH G S' d' H' := by
  refine ⟨by rw [hz, hs]; exact hH.1, fun b hb => ?_⟩
  rw [hk] at hb
  obtain ⟨h1, h2⟩ := hH.2 b hb
  refine ⟨h1, ?_⟩
  by_cases e : b = a
  · rw [e]; exact ha
  · exact h2.kept (ho b e) (hk b) (hn b) (hv b e)
theorem gH.lt {G : gG} {S : gS} {d : gD} {H : Heap} (hH : gH G S d H) {a : Nat} (h : sK S a ≠ 0) : a < sZ S := by
  rw [← hH.1]
  obtain ⟨-, h1, h2⟩ := hH.2 a h
  by_cases c : sK S a < 50
  · obtain ⟨r, -, cell, q1, -⟩ := h1 c
    exact (Array.getElem?_eq_some_iff.mp q1).1
  · exact (Array.getElem?_eq_some_iff.mp (h2 (Nat.le_of_not_lt c))).1
section GC
variable {X : GX} {cells slots : Nat} {Q : State → Prop} {S : gS} {d : gD} {pc q : Nat} {lv : List (Option Value)} {st : List Value} {cc : ByteArray} {nL nf nw : Nat} {own nm : String} {rt : Option FieldType}
theorem g_get {a k idx κ N : Nat} {C : String} {T : u_T} {ty : Nat → FieldType} {v : Value} (hE : gE X cc nL own rt nm nf nw) (hC : gCl κ C T N ty) (hk : sK S a = κ) (hkN : k < N) (hw : Cond.fieldLink own idx (T k).1 (T k).2.1 (T k).2.2.1 ∈ WG) (dg : dc cc pc (.getfield idx) 3 q) (hv : gV S d a k = v) (kk : gw X cells slots Q S d q lv (v :: st)) : gw X cells slots Q S d pc lv (va_rf (some a) :: st) := by
  obtain ⟨dg, rfl⟩ := dg
  subst hk
  intro ls H locs hl hH hS
  obtain ⟨h0, h50, hc, hin, -⟩ := hC
  obtain ⟨-, hat⟩ := hH.2 a h0
  obtain ⟨r, h1, cell, q1, q2, q3, q4⟩ := hat.1 h50
  have hr : r = (C, T, N) := Option.some.inj (h1.symm.trans hc)
  subst hr
  obtain ⟨hSl, hfc, kC, hkC, hkind⟩ := hE.kn.1.1 _ _ hc
  obtain ⟨cf, kf, fi, f, hi, hsl⟩ := hSl k hkN
  refine W.getf hE.ex hE.bt hE.ow (hE.wd _ hw) hi (u_facts hfc hkC (u_lays hE.wd hin hkN) hi).1 q1 (by rw [q3]; exact fun h => by cases h) (v := v) ?_ rfl rfl dg (kk ls H locs hl hH hS)
  rw [hsl, q4 k hkN, hv]
theorem g_getN {a k idx κ N : Nat} {C host : String} {T : u_T} {ty : Nat → FieldType} {v : Value} (hE : gE X cc nL own rt nm nf nw) (hC : gCl κ C T N ty) (hk : sK S a = κ) (hkN : k < N) (hw : Cond.fieldLinkNest own idx (T k).1 (T k).2.1 (T k).2.2.1 host ∈ NW) (dg : dc cc pc (.getfield idx) 3 q) (hv : gV S d a k = v) (kk : gw X cells slots Q S d q lv (v :: st)) : gw X cells slots Q S d pc lv (va_rf (some a) :: st) := by
  obtain ⟨dg, rfl⟩ := dg
  subst hk
  intro ls H locs hl hH hS
  obtain ⟨h0, h50, hc, hin, -⟩ := hC
  obtain ⟨-, hat⟩ := hH.2 a h0
  obtain ⟨r, h1, cell, q1, q2, q3, q4⟩ := hat.1 h50
  have hr : r = (C, T, N) := Option.some.inj (h1.symm.trans hc)
  subst hr
  obtain ⟨hSl, hfc, kC, hkC, hkind⟩ := hE.kn.1.1 _ _ hc
  obtain ⟨cf, kf, fi, f, hi, hsl⟩ := hSl k hkN
  refine va_Wgetf hE.ex hE.bt hE.ow (va_Nw.use rfl (hE.nest hw)) hi (u_facts hfc hkC (u_lays hE.wd hin hkN) hi).1 q1 (by rw [q3]; exact fun h => by cases h) (v := v) ?_ rfl rfl dg (kk ls H locs hl hH hS)
  rw [hsl, q4 k hkN, hv]
theorem g_getI {a idx κ N : Nat} {C : String} {T : u_T} {ty : Nat → FieldType} (k : Nat) (hE : gE X cc nL own rt nm nf nw) (hC : gCl κ C T N ty) (hk : sK S a = κ) (hkN : k < N) (hs : srt κ k = 0) (hw : Cond.fieldLink own idx (T k).1 (T k).2.1 (T k).2.2.1 ∈ WG) (dg : dc cc pc (.getfield idx) 3 q) (kk : ∀ x : Int32, dI d a k = x → gw X cells slots Q S d q lv (.int x :: st)) : gw X cells slots Q S d pc lv (va_rf (some a) :: st) :=
  g_get hE hC hk hkN hw dg (gV_i (by rw [hk]; exact hs)) (kk _ rfl)
theorem g_getL {a idx κ N : Nat} {C : String} {T : u_T} {ty : Nat → FieldType} (k : Nat) (hE : gE X cc nL own rt nm nf nw) (hC : gCl κ C T N ty) (hk : sK S a = κ) (hkN : k < N) (hs : srt κ k = 1) (hw : Cond.fieldLink own idx (T k).1 (T k).2.1 (T k).2.2.1 ∈ WG) (dg : dc cc pc (.getfield idx) 3 q) (kk : ∀ x : Int64, dL d a k = x → gw X cells slots Q S d q lv (.long x :: st)) : gw X cells slots Q S d pc lv (va_rf (some a) :: st) :=
  g_get hE hC hk hkN hw dg (gV_l (by rw [hk]; exact hs)) (kk _ rfl)
theorem g_getR {a idx κ N : Nat} {C : String} {T : u_T} {ty : Nat → FieldType} (k : Nat) (hE : gE X cc nL own rt nm nf nw) (hC : gCl κ C T N ty) (hk : sK S a = κ) (hkN : k < N) (hs : srt κ k = 2) (hw : Cond.fieldLink own idx (T k).1 (T k).2.1 (T k).2.2.1 ∈ WG) (dg : dc cc pc (.getfield idx) 3 q) (kk : ∀ x : Option Nat, sP S a k = x → gw X cells slots Q S d q lv (va_rf x :: st)) : gw X cells slots Q S d pc lv (va_rf (some a) :: st) :=
  g_get hE hC hk hkN hw dg (gV_r (by rw [hk]; exact hs)) (kk _ rfl)
theorem g_getIN {a idx κ N : Nat} {C host : String} {T : u_T} {ty : Nat → FieldType} (k : Nat) (hE : gE X cc nL own rt nm nf nw) (hC : gCl κ C T N ty) (hk : sK S a = κ) (hkN : k < N) (hs : srt κ k = 0) (hw : Cond.fieldLinkNest own idx (T k).1 (T k).2.1 (T k).2.2.1 host ∈ NW) (dg : dc cc pc (.getfield idx) 3 q) (kk : ∀ x : Int32, dI d a k = x → gw X cells slots Q S d q lv (.int x :: st)) : gw X cells slots Q S d pc lv (va_rf (some a) :: st) :=
  g_getN hE hC hk hkN hw dg (gV_i (by rw [hk]; exact hs)) (kk _ rfl)
theorem g_getLN {a idx κ N : Nat} {C host : String} {T : u_T} {ty : Nat → FieldType} (k : Nat) (hE : gE X cc nL own rt nm nf nw) (hC : gCl κ C T N ty) (hk : sK S a = κ) (hkN : k < N) (hs : srt κ k = 1) (hw : Cond.fieldLinkNest own idx (T k).1 (T k).2.1 (T k).2.2.1 host ∈ NW) (dg : dc cc pc (.getfield idx) 3 q) (kk : ∀ x : Int64, dL d a k = x → gw X cells slots Q S d q lv (.long x :: st)) : gw X cells slots Q S d pc lv (va_rf (some a) :: st) :=
  g_getN hE hC hk hkN hw dg (gV_l (by rw [hk]; exact hs)) (kk _ rfl)
theorem g_getRN {a idx κ N : Nat} {C host : String} {T : u_T} {ty : Nat → FieldType} (k : Nat) (hE : gE X cc nL own rt nm nf nw) (hC : gCl κ C T N ty) (hk : sK S a = κ) (hkN : k < N) (hs : srt κ k = 2) (hw : Cond.fieldLinkNest own idx (T k).1 (T k).2.1 (T k).2.2.1 host ∈ NW) (dg : dc cc pc (.getfield idx) 3 q) (kk : ∀ x : Option Nat, sP S a k = x → gw X cells slots Q S d q lv (va_rf x :: st)) : gw X cells slots Q S d pc lv (va_rf (some a) :: st) :=
  g_getN hE hC hk hkN hw dg (gV_r (by rw [hk]; exact hs)) (kk _ rfl)
theorem g_apart {κ N : Nat} {C : String} {T : u_T} {ty : Nat → FieldType} (hE : gE X cc nL own rt nm nf nw) (hC : gCl κ C T N ty) : ∀ x y, x < N → y < N → x ≠ y → ((xG X).1.2 (κ - 1)) x ≠ ((xG X).1.2 (κ - 1)) y := va_apart (own := own) hE.wd hC.2.2.2.1 ty hC.2.2.2.2.1 hC.2.2.2.2.2 hE.kn.1 hC.2.2.1
theorem gAt.mkO {G : gG} {S : gS} {d : gD} {a : Nat} {H : Heap} {r : vw_C} (h50 : sK S a < 50) (hc : classes[sK S a - 1]? = some r) (h : t_OB a (G.1.1 (sK S a - 1)) r.2.2 (G.1.2 (sK S a - 1)) H (gV S d a)) : gAt G S d a H := ⟨fun _ => ⟨r, hc, h⟩, fun c => absurd h50 (Nat.not_lt.mpr c)⟩
theorem gAt.mkA {G : gG} {S : gS} {d : gD} {a : Nat} {H : Heap} (h50 : 50 ≤ sK S a) (h : H[a]? = some (arrV (G.2.1 (sK S a)) (sN S a) (gV S d a))) : gAt G S d a H := ⟨fun c => absurd c (Nat.not_lt.mpr h50), fun _ => h⟩
theorem g_put {a k idx κ N : Nat} {C : String} {T : u_T} {ty : Nat → FieldType} {fty : FieldType} {v : Value} {S' : gS} {d' : gD} (hE : gE X cc nL own rt nm nf nw) (hC : gCl κ C T N ty) (hk : sK S a = κ) (hkN : k < N) (hw : Cond.fieldLink own idx (T k).1 (T k).2.1 (T k).2.2.1 ∈ WG) (hfin : (T k).2.2.2 = false) (hd : parseFieldDescriptor (T k).2.2.1 = some fty) (hn : narrow fty v = v) (hfit : fits fty v = true) (dg : dc cc pc (.putfield idx) 3 q) (hSk : ∀ b, sK S' b = sK S b) (hSn : ∀ b, sN S' b = sN S b) (hSz : sZ S' = sZ S) (hvo : ∀ b, b ≠ a → gV S' d' b = gV S d b) (hva : gV S' d' a = updV (gV S d a) k v) (kk : gw X cells slots Q S' d' q lv st) : gw X cells slots Q S d pc lv (v :: va_rf (some a) :: st) := by
  obtain ⟨dg, rfl⟩ := dg
  have hap := g_apart hE hC
  subst hk
  intro ls H locs hl hH hS
  obtain ⟨h0, h50, hc, hin, hty, hnm⟩ := hC
  obtain ⟨hza, hat⟩ := hH.2 a h0
  obtain ⟨r, h1, cell, q1, q2, q3, q4⟩ := hat.1 h50
  have hr : r = (C, T, N) := Option.some.inj (h1.symm.trans hc)
  subst hr
  obtain ⟨hSl, hfc, kC, hkC, hkind⟩ := hE.kn.1.1 _ _ hc
  obtain ⟨cf, kf, fi, f, hi, hsl⟩ := hSl k hkN
  have hlay := hE.wd _ (hin _ (u_in_lay hkN))
  unfold u_lay at hlay
  rw [if_neg (by rw [hfin]; decide)] at hlay
  have hst := (u_facts hfc hkC (u_lays hE.wd hin hkN) hi).1
  have h6 := u_store hfc hkC hkind hlay hi hd hn hfit
  refine W.putK hE.ex hE.bt (f := f) ⟨hE.ow, hE.wd _ hw, ⟨_, _, _, hi⟩, hst⟩ (by rw [q2]; exact h6) q1 q3 (by rw [hsl]; exact k2_hasslot (q4 k hkN)) rfl rfl dg fun H' e1 e2 e3 => ?_
  rw [hsl] at e1 ⊢
  refine kk ls H' _ hl ?_ (hS.put e2 e3 hza)
  refine hH.upd e2 e3 hSk hSn hSz hvo (gAt.mkO (by rw [hSk]; exact h50) (by rw [hSk]; exact hc) ?_)
  rw [hSk, hva]
  exact ⟨_, e1, q2, q3, t_set q4 hap hkN v⟩

theorem g_putN {a k idx κ N : Nat} {C host : String} {T : u_T} {ty : Nat → FieldType} {fty : FieldType} {v : Value} {S' : gS} {d' : gD} (hE : gE X cc nL own rt nm nf nw) (hC : gCl κ C T N ty) (hk : sK S a = κ) (hkN : k < N) (hw : Cond.fieldLinkNest own idx (T k).1 (T k).2.1 (T k).2.2.1 host ∈ NW) (hfin : (T k).2.2.2 = false) (hd : parseFieldDescriptor (T k).2.2.1 = some fty) (hn : narrow fty v = v) (hfit : fits fty v = true) (dg : dc cc pc (.putfield idx) 3 q) (hSk : ∀ b, sK S' b = sK S b) (hSn : ∀ b, sN S' b = sN S b) (hSz : sZ S' = sZ S) (hvo : ∀ b, b ≠ a → gV S' d' b = gV S d b) (hva : gV S' d' a = updV (gV S d a) k v) (kk : gw X cells slots Q S' d' q lv st) : gw X cells slots Q S d pc lv (v :: va_rf (some a) :: st) := by
  obtain ⟨dg, rfl⟩ := dg
  have hap := g_apart hE hC
  subst hk
  intro ls H locs hl hH hS
  obtain ⟨h0, h50, hc, hin, hty, hnm⟩ := hC
  obtain ⟨hza, hat⟩ := hH.2 a h0
  obtain ⟨r, h1, cell, q1, q2, q3, q4⟩ := hat.1 h50
  have hr : r = (C, T, N) := Option.some.inj (h1.symm.trans hc)
  subst hr
  obtain ⟨hSl, hfc, kC, hkC, hkind⟩ := hE.kn.1.1 _ _ hc
  obtain ⟨cf, kf, fi, f, hi, hsl⟩ := hSl k hkN
  have hlay := hE.wd _ (hin _ (u_in_lay hkN))
  unfold u_lay at hlay
  rw [if_neg (by rw [hfin]; decide)] at hlay
  have hst := (u_facts hfc hkC (u_lays hE.wd hin hkN) hi).1
  have h6 := u_store hfc hkC hkind hlay hi hd hn hfit
  refine va_WputK hE.ex hE.bt hE.ow (va_Nw.use rfl (hE.nest hw)) hi hst (by rw [q2]; exact h6) q1 q3 (by rw [hsl]; exact k2_hasslot (q4 k hkN)) rfl rfl dg fun H' e1 e2 e3 => ?_
  rw [hsl] at e1 ⊢
  refine kk ls H' _ hl ?_ (hS.put e2 e3 hza)
  refine hH.upd e2 e3 hSk hSn hSz hvo (gAt.mkO (by rw [hSk]; exact h50) (by rw [hSk]; exact hc) ?_)
  rw [hSk, hva]
  exact ⟨_, e1, q2, q3, t_set q4 hap hkN v⟩

theorem g_putF {a k idx κ N : Nat} {C : String} {T : u_T} {ty : Nat → FieldType} {fty : FieldType} {v : Value} {S' : gS} {d' : gD} (hE : gE X cc nL own rt nm nf nw) (hC : gCl κ C T N ty) (hk : sK S a = κ) (hkN : k < N) (hw : Cond.fieldLink own idx (T k).1 (T k).2.1 (T k).2.2.1 ∈ WG) (hfin : (T k).2.2.2 = true) (hd : parseFieldDescriptor (T k).2.2.1 = some fty) (hn : narrow fty v = v) (hfit : fits fty v = true) (dg : dc cc pc (.putfield idx) 3 q) (hSk : ∀ b, sK S' b = sK S b) (hSn : ∀ b, sN S' b = sN S b) (hSz : sZ S' = sZ S) (hvo : ∀ b, b ≠ a → gV S' d' b = gV S d b) (hva : gV S' d' a = updV (gV S d a) k v) (hin2 : nm = "<init>") (hdecl : (T k).1 = own) (kk : gw X cells slots Q S' d' q lv st) : gw X cells slots Q S d pc lv (v :: va_rf (some a) :: st) := by
  obtain ⟨dg, rfl⟩ := dg
  have hap := g_apart hE hC
  subst hk
  intro ls H locs hl hH hS
  obtain ⟨h0, h50, hc, hin, hty, hnm⟩ := hC
  obtain ⟨hza, hat⟩ := hH.2 a h0
  obtain ⟨r, h1, cell, q1, q2, q3, q4⟩ := hat.1 h50
  have hr : r = (C, T, N) := Option.some.inj (h1.symm.trans hc)
  subst hr
  obtain ⟨hSl, hfc, kC, hkC, hkind⟩ := hE.kn.1.1 _ _ hc
  obtain ⟨cf, kf, fi, f, hi, hsl⟩ := hSl k hkN
  have hlay := hE.wd _ (hin _ (u_in_lay hkN))
  unfold u_lay at hlay
  rw [if_pos hfin] at hlay
  have hst := (u_facts hfc hkC (u_lays hE.wd hin hkN) hi).1
  have hcf : (xm X).cls = cf := by
    obtain ⟨_, _, c', _, _, _, -, -, hf', -, -, -, hown2, -⟩ := Cond.laysFinal_spec hlay
    have e1 : c' = cf := by have := hi.symm.trans hf'; simp at this; exact this.1.symm
    rw [hdecl] at hown2
    rw [← e1]; exact Option.some.inj (hE.ow.symm.trans hown2)
  have h6 := u_fits hfc hkC hkind (Or.inr hlay) hi hd hn hfit
  refine W.putFinK hE.ex hE.bt hE.ow (hE.wd _ hw) hi hst hcf (hE.nam.trans hin2) (by rw [q2]; exact h6) q1 q3 (by rw [hsl]; exact k2_hasslot (q4 k hkN)) rfl rfl dg fun H' e1 e2 e3 => ?_
  rw [hsl] at e1 ⊢
  refine kk ls H' _ hl ?_ (hS.put e2 e3 hza)
  refine hH.upd e2 e3 hSk hSn hSz hvo (gAt.mkO (by rw [hSk]; exact h50) (by rw [hSk]; exact hc) ?_)
  rw [hSk, hva]
  exact ⟨_, e1, q2, q3, t_set q4 hap hkN v⟩

theorem g_putI {a idx κ N : Nat} {C : String} {T : u_T} {ty : Nat → FieldType} {x : Int32} (k : Nat) (hE : gE X cc nL own rt nm nf nw) (hC : gCl κ C T N ty) (hk : sK S a = κ) (hkN : k < N) (hs : srt κ k = 0) (hw : Cond.fieldLink own idx (T k).1 (T k).2.1 (T k).2.2.1 ∈ WG) (hfin : (T k).2.2.2 = false) (hd : parseFieldDescriptor (T k).2.2.1 = some (.int)) (dg : dc cc pc (.putfield idx) 3 q) (kk : ∀ d1, wI d a k x = d1 → gw X cells slots Q S d1 q lv st) : gw X cells slots Q S d pc lv (.int x :: va_rf (some a) :: st) :=
  g_put (S' := S) (d' := (wI d a k x)) hE hC hk hkN hw hfin hd rfl rfl dg (fun _ => rfl) (fun _ => rfl) rfl (fun b hb => gV_wI_ne hb) (gV_wI (by rw [hk]; exact hs)) (kk _ rfl)
theorem g_putZ {a idx κ N : Nat} {C : String} {T : u_T} {ty : Nat → FieldType} {x : Int32} (k : Nat) (hE : gE X cc nL own rt nm nf nw) (hC : gCl κ C T N ty) (hk : sK S a = κ) (hkN : k < N) (hs : srt κ k = 0) (hw : Cond.fieldLink own idx (T k).1 (T k).2.1 (T k).2.2.1 ∈ WG) (hfin : (T k).2.2.2 = false) (hd : parseFieldDescriptor (T k).2.2.1 = some (.boolean)) (hn : x = 0 ∨ x = 1) (dg : dc cc pc (.putfield idx) 3 q) (kk : ∀ d1, wI d a k x = d1 → gw X cells slots Q S d1 q lv st) : gw X cells slots Q S d pc lv (.int x :: va_rf (some a) :: st) :=
  g_put (S' := S) (d' := (wI d a k x)) hE hC hk hkN hw hfin hd (nar_z hn) (fit_z hn) dg (fun _ => rfl) (fun _ => rfl) rfl (fun b hb => gV_wI_ne hb) (gV_wI (by rw [hk]; exact hs)) (kk _ rfl)
theorem g_putL {a idx κ N : Nat} {C : String} {T : u_T} {ty : Nat → FieldType} {x : Int64} (k : Nat) (hE : gE X cc nL own rt nm nf nw) (hC : gCl κ C T N ty) (hk : sK S a = κ) (hkN : k < N) (hs : srt κ k = 1) (hw : Cond.fieldLink own idx (T k).1 (T k).2.1 (T k).2.2.1 ∈ WG) (hfin : (T k).2.2.2 = false) (hd : parseFieldDescriptor (T k).2.2.1 = some (.long)) (dg : dc cc pc (.putfield idx) 3 q) (kk : ∀ d1, wL d a k x = d1 → gw X cells slots Q S d1 q lv st) : gw X cells slots Q S d pc lv (.long x :: va_rf (some a) :: st) :=
  g_put (S' := S) (d' := (wL d a k x)) hE hC hk hkN hw hfin hd rfl rfl dg (fun _ => rfl) (fun _ => rfl) rfl (fun b hb => gV_wL_ne hb) (gV_wL (by rw [hk]; exact hs)) (kk _ rfl)
theorem g_putR {a idx κ N : Nat} {C : String} {T : u_T} {ty : Nat → FieldType} {fty : FieldType} {x : Option Nat} (k : Nat) (hE : gE X cc nL own rt nm nf nw) (hC : gCl κ C T N ty) (hk : sK S a = κ) (hkN : k < N) (hs : srt κ k = 2) (hw : Cond.fieldLink own idx (T k).1 (T k).2.1 (T k).2.2.1 ∈ WG) (hfin : (T k).2.2.2 = false) (hd : parseFieldDescriptor (T k).2.2.1 = some (fty)) (hty : fty.isReference = true) (dg : dc cc pc (.putfield idx) 3 q) (kk : ∀ S1, wP S a k x = S1 → gw X cells slots Q S1 d q lv st) : gw X cells slots Q S d pc lv (va_rf x :: va_rf (some a) :: st) :=
  g_put (S' := (wP S a k x)) (d' := d) hE hC hk hkN hw hfin hd (nar_rf hty x) (fit_rf hty x) dg (fun _ => rfl) (fun _ => rfl) rfl (fun b hb => gV_wP_ne hb) (gV_wP (by rw [hk]; exact hs)) (kk _ rfl)
theorem g_putIN {a idx κ N : Nat} {C host : String} {T : u_T} {ty : Nat → FieldType} {x : Int32} (k : Nat) (hE : gE X cc nL own rt nm nf nw) (hC : gCl κ C T N ty) (hk : sK S a = κ) (hkN : k < N) (hs : srt κ k = 0) (hw : Cond.fieldLinkNest own idx (T k).1 (T k).2.1 (T k).2.2.1 host ∈ NW) (hfin : (T k).2.2.2 = false) (hd : parseFieldDescriptor (T k).2.2.1 = some (.int)) (dg : dc cc pc (.putfield idx) 3 q) (kk : ∀ d1, wI d a k x = d1 → gw X cells slots Q S d1 q lv st) : gw X cells slots Q S d pc lv (.int x :: va_rf (some a) :: st) :=
  g_putN (S' := S) (d' := (wI d a k x)) hE hC hk hkN hw hfin hd rfl rfl dg (fun _ => rfl) (fun _ => rfl) rfl (fun b hb => gV_wI_ne hb) (gV_wI (by rw [hk]; exact hs)) (kk _ rfl)
theorem g_putZN {a idx κ N : Nat} {C host : String} {T : u_T} {ty : Nat → FieldType} {x : Int32} (k : Nat) (hE : gE X cc nL own rt nm nf nw) (hC : gCl κ C T N ty) (hk : sK S a = κ) (hkN : k < N) (hs : srt κ k = 0) (hw : Cond.fieldLinkNest own idx (T k).1 (T k).2.1 (T k).2.2.1 host ∈ NW) (hfin : (T k).2.2.2 = false) (hd : parseFieldDescriptor (T k).2.2.1 = some (.boolean)) (hn : x = 0 ∨ x = 1) (dg : dc cc pc (.putfield idx) 3 q) (kk : ∀ d1, wI d a k x = d1 → gw X cells slots Q S d1 q lv st) : gw X cells slots Q S d pc lv (.int x :: va_rf (some a) :: st) :=
  g_putN (S' := S) (d' := (wI d a k x)) hE hC hk hkN hw hfin hd (nar_z hn) (fit_z hn) dg (fun _ => rfl) (fun _ => rfl) rfl (fun b hb => gV_wI_ne hb) (gV_wI (by rw [hk]; exact hs)) (kk _ rfl)
theorem g_putLN {a idx κ N : Nat} {C host : String} {T : u_T} {ty : Nat → FieldType} {x : Int64} (k : Nat) (hE : gE X cc nL own rt nm nf nw) (hC : gCl κ C T N ty) (hk : sK S a = κ) (hkN : k < N) (hs : srt κ k = 1) (hw : Cond.fieldLinkNest own idx (T k).1 (T k).2.1 (T k).2.2.1 host ∈ NW) (hfin : (T k).2.2.2 = false) (hd : parseFieldDescriptor (T k).2.2.1 = some (.long)) (dg : dc cc pc (.putfield idx) 3 q) (kk : ∀ d1, wL d a k x = d1 → gw X cells slots Q S d1 q lv st) : gw X cells slots Q S d pc lv (.long x :: va_rf (some a) :: st) :=
  g_putN (S' := S) (d' := (wL d a k x)) hE hC hk hkN hw hfin hd rfl rfl dg (fun _ => rfl) (fun _ => rfl) rfl (fun b hb => gV_wL_ne hb) (gV_wL (by rw [hk]; exact hs)) (kk _ rfl)
theorem g_putRN {a idx κ N : Nat} {C host : String} {T : u_T} {ty : Nat → FieldType} {fty : FieldType} {x : Option Nat} (k : Nat) (hE : gE X cc nL own rt nm nf nw) (hC : gCl κ C T N ty) (hk : sK S a = κ) (hkN : k < N) (hs : srt κ k = 2) (hw : Cond.fieldLinkNest own idx (T k).1 (T k).2.1 (T k).2.2.1 host ∈ NW) (hfin : (T k).2.2.2 = false) (hd : parseFieldDescriptor (T k).2.2.1 = some (fty)) (hty : fty.isReference = true) (dg : dc cc pc (.putfield idx) 3 q) (kk : ∀ S1, wP S a k x = S1 → gw X cells slots Q S1 d q lv st) : gw X cells slots Q S d pc lv (va_rf x :: va_rf (some a) :: st) :=
  g_putN (S' := (wP S a k x)) (d' := d) hE hC hk hkN hw hfin hd (nar_rf hty x) (fit_rf hty x) dg (fun _ => rfl) (fun _ => rfl) rfl (fun b hb => gV_wP_ne hb) (gV_wP (by rw [hk]; exact hs)) (kk _ rfl)
theorem g_putIF {a idx κ N : Nat} {C : String} {T : u_T} {ty : Nat → FieldType} {x : Int32} (k : Nat) (hE : gE X cc nL own rt nm nf nw) (hC : gCl κ C T N ty) (hk : sK S a = κ) (hkN : k < N) (hs : srt κ k = 0) (hw : Cond.fieldLink own idx (T k).1 (T k).2.1 (T k).2.2.1 ∈ WG) (hfin : (T k).2.2.2 = true) (hd : parseFieldDescriptor (T k).2.2.1 = some (.int)) (dg : dc cc pc (.putfield idx) 3 q) (hin2 : nm = "<init>") (hdecl : (T k).1 = own) (kk : ∀ d1, wI d a k x = d1 → gw X cells slots Q S d1 q lv st) : gw X cells slots Q S d pc lv (.int x :: va_rf (some a) :: st) :=
  g_putF (S' := S) (d' := (wI d a k x)) hE hC hk hkN hw hfin hd rfl rfl dg (fun _ => rfl) (fun _ => rfl) rfl (fun b hb => gV_wI_ne hb) (gV_wI (by rw [hk]; exact hs)) hin2 hdecl (kk _ rfl)
theorem g_putZF {a idx κ N : Nat} {C : String} {T : u_T} {ty : Nat → FieldType} {x : Int32} (k : Nat) (hE : gE X cc nL own rt nm nf nw) (hC : gCl κ C T N ty) (hk : sK S a = κ) (hkN : k < N) (hs : srt κ k = 0) (hw : Cond.fieldLink own idx (T k).1 (T k).2.1 (T k).2.2.1 ∈ WG) (hfin : (T k).2.2.2 = true) (hd : parseFieldDescriptor (T k).2.2.1 = some (.boolean)) (hn : x = 0 ∨ x = 1) (dg : dc cc pc (.putfield idx) 3 q) (hin2 : nm = "<init>") (hdecl : (T k).1 = own) (kk : ∀ d1, wI d a k x = d1 → gw X cells slots Q S d1 q lv st) : gw X cells slots Q S d pc lv (.int x :: va_rf (some a) :: st) :=
  g_putF (S' := S) (d' := (wI d a k x)) hE hC hk hkN hw hfin hd (nar_z hn) (fit_z hn) dg (fun _ => rfl) (fun _ => rfl) rfl (fun b hb => gV_wI_ne hb) (gV_wI (by rw [hk]; exact hs)) hin2 hdecl (kk _ rfl)
theorem g_putLF {a idx κ N : Nat} {C : String} {T : u_T} {ty : Nat → FieldType} {x : Int64} (k : Nat) (hE : gE X cc nL own rt nm nf nw) (hC : gCl κ C T N ty) (hk : sK S a = κ) (hkN : k < N) (hs : srt κ k = 1) (hw : Cond.fieldLink own idx (T k).1 (T k).2.1 (T k).2.2.1 ∈ WG) (hfin : (T k).2.2.2 = true) (hd : parseFieldDescriptor (T k).2.2.1 = some (.long)) (dg : dc cc pc (.putfield idx) 3 q) (hin2 : nm = "<init>") (hdecl : (T k).1 = own) (kk : ∀ d1, wL d a k x = d1 → gw X cells slots Q S d1 q lv st) : gw X cells slots Q S d pc lv (.long x :: va_rf (some a) :: st) :=
  g_putF (S' := S) (d' := (wL d a k x)) hE hC hk hkN hw hfin hd rfl rfl dg (fun _ => rfl) (fun _ => rfl) rfl (fun b hb => gV_wL_ne hb) (gV_wL (by rw [hk]; exact hs)) hin2 hdecl (kk _ rfl)
theorem g_putRF {a idx κ N : Nat} {C : String} {T : u_T} {ty : Nat → FieldType} {fty : FieldType} {x : Option Nat} (k : Nat) (hE : gE X cc nL own rt nm nf nw) (hC : gCl κ C T N ty) (hk : sK S a = κ) (hkN : k < N) (hs : srt κ k = 2) (hw : Cond.fieldLink own idx (T k).1 (T k).2.1 (T k).2.2.1 ∈ WG) (hfin : (T k).2.2.2 = true) (hd : parseFieldDescriptor (T k).2.2.1 = some (fty)) (hty : fty.isReference = true) (dg : dc cc pc (.putfield idx) 3 q) (hin2 : nm = "<init>") (hdecl : (T k).1 = own) (kk : ∀ S1, wP S a k x = S1 → gw X cells slots Q S1 d q lv st) : gw X cells slots Q S d pc lv (va_rf x :: va_rf (some a) :: st) :=
  g_putF (S' := (wP S a k x)) (d' := d) hE hC hk hkN hw hfin hd (nar_rf hty x) (fit_rf hty x) dg (fun _ => rfl) (fun _ => rfl) rfl (fun b hb => gV_wP_ne hb) (gV_wP (by rw [hk]; exact hs)) hin2 hdecl (kk _ rfl)
end GC
