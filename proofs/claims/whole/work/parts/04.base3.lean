theorem cnt_step {c c' n n0 k m : Nat} (h : c + n = m) (e : n = n0 + k) (e' : c + k = c') : c' + n0 = m := by omega
theorem cnt_room {R c n n0 k m : Nat} (hm : R = m) (h : c + n = m) (e : n = n0 + k) : c + k ≤ R := by omega
theorem cnt_room0 {R c n m : Nat} (hm : R = m) (h : c + n = m) : c + 0 ≤ R := by omega
section GD
variable {X : GX} {cells slots : Nat} {Q : State → Prop} {S : gS} {d : gD} {pc q : Nat} {lv : List (Option Value)} {st : List Value} {cc : ByteArray} {nL nf nw : Nat} {own nm : String} {rt : Option FieldType}
theorem gH.arr {a κ : Nat} {H : Heap} (hH : gH (xG X) S d H) (hk : sK S a = κ) (h50 : 50 ≤ κ) : H[a]? = some (arrV ((xG X).2.1 κ) (sN S a) (gV S d a)) := by
  subst hk
  exact (hH.2 a (by omega)).2.2 h50
theorem gK.arr {G : gG} {U : State} (h : gK G U) {κ : Nat} (hm : κ ∈ aks) : ArrOfT U (G.2.1 κ) (aty κ) ∧ va_RA U (G.2.1 κ) (aty κ) := by
  obtain ⟨i, hi⟩ := List.getElem?_of_mem (List.mem_map.mpr ⟨κ, hm, rfl⟩ : (G.2.1 κ, aty κ) ∈ aks.map fun κ => (G.2.1 κ, aty κ))
  exact h.1.2 i _ hi
theorem aks_50 : ∀ κ ∈ aks, 50 ≤ κ := by decide

theorem g_iald {a : Nat} {i : Int32} (hE : gE X cc nL own rt nm nf nw) (hk : sK S a = 50) (hin : vp_in i (sN S a)) (dg : dc cc pc (.iaload) 1 q) (kk : ∀ x : Int32, dI d a i.toNatClampNeg = x → gw X cells slots Q S d q lv (.int x :: st)) : gw X cells slots Q S d pc lv (.int i :: va_rf (some a) :: st) := by
  obtain ⟨dg, rfl⟩ := dg
  intro ls H locs hl hH hS
  have hlt : i.toNatClampNeg < sN S a := Nat.not_le.mp fun q => hin (Or.inr q)
  exact W.iald (v := gV S d a i.toNatClampNeg) hE.ex hE.bt (hH.arr hk (by decide)) ((hE.kn.arr (κ := 50) (by decide)).1 (sN S a) (gV S d a)) (fun q => by cases q) (by rw [arrV_size]; exact hin) (by rw [arrV_read _ _ hlt]) rfl rfl dg (by rw [gV_i (by rw [hk]; rfl)]; exact kk _ rfl ls H locs hl hH hS)
theorem g_lald {a : Nat} {i : Int32} (hE : gE X cc nL own rt nm nf nw) (hk : sK S a = 51) (hin : vp_in i (sN S a)) (dg : dc cc pc (.laload) 1 q) (kk : ∀ x : Int64, dL d a i.toNatClampNeg = x → gw X cells slots Q S d q lv (.long x :: st)) : gw X cells slots Q S d pc lv (.int i :: va_rf (some a) :: st) := by
  obtain ⟨dg, rfl⟩ := dg
  intro ls H locs hl hH hS
  have hlt : i.toNatClampNeg < sN S a := Nat.not_le.mp fun q => hin (Or.inr q)
  exact W.lald (v := gV S d a i.toNatClampNeg) hE.ex hE.bt (hH.arr hk (by decide)) ((hE.kn.arr (κ := 51) (by decide)).1 (sN S a) (gV S d a)) (fun q => by cases q) (by rw [arrV_size]; exact hin) (by rw [arrV_read _ _ hlt]) rfl rfl dg (by rw [gV_l (by rw [hk]; rfl)]; exact kk _ rfl ls H locs hl hH hS)
theorem g_bald {a : Nat} {i : Int32} (hE : gE X cc nL own rt nm nf nw) (hk : sK S a = 52) (hin : vp_in i (sN S a)) (dg : dc cc pc (.baload) 1 q) (kk : ∀ x : Int32, dI d a i.toNatClampNeg = x → gw X cells slots Q S d q lv (.int x :: st)) : gw X cells slots Q S d pc lv (.int i :: va_rf (some a) :: st) := by
  obtain ⟨dg, rfl⟩ := dg
  intro ls H locs hl hH hS
  have hlt : i.toNatClampNeg < sN S a := Nat.not_le.mp fun q => hin (Or.inr q)
  exact W.bald (v := gV S d a i.toNatClampNeg) hE.ex hE.bt (hH.arr hk (by decide)) ((hE.kn.arr (κ := 52) (by decide)).1 (sN S a) (gV S d a)) (fun q => by cases q) (by rw [arrV_size]; exact hin) (by rw [arrV_read _ _ hlt]) rfl rfl dg (by rw [gV_i (by rw [hk]; rfl)]; exact kk _ rfl ls H locs hl hH hS)
theorem g_zald {a : Nat} {i : Int32} (hE : gE X cc nL own rt nm nf nw) (hk : sK S a = 53) (hin : vp_in i (sN S a)) (dg : dc cc pc (.baload) 1 q) (kk : ∀ x : Int32, dI d a i.toNatClampNeg = x → gw X cells slots Q S d q lv (.int x :: st)) : gw X cells slots Q S d pc lv (.int i :: va_rf (some a) :: st) := by
  obtain ⟨dg, rfl⟩ := dg
  intro ls H locs hl hH hS
  have hlt : i.toNatClampNeg < sN S a := Nat.not_le.mp fun q => hin (Or.inr q)
  exact W.zald (v := gV S d a i.toNatClampNeg) hE.ex hE.bt (hH.arr hk (by decide)) ((hE.kn.arr (κ := 53) (by decide)).1 (sN S a) (gV S d a)) (fun q => by cases q) (by rw [arrV_size]; exact hin) (by rw [arrV_read _ _ hlt]) rfl rfl dg (by rw [gV_i (by rw [hk]; rfl)]; exact kk _ rfl ls H locs hl hH hS)
theorem g_aald {a κ : Nat} {i : Int32} (hE : gE X cc nL own rt nm nf nw) (hk : sK S a = κ) (hm : κ ∈ aks) (hr : (aty κ).isReference = true) (hs : ∀ j, srt κ j = 2) (hin : vp_in i (sN S a)) (dg : dc cc pc .aaload 1 q) (kk : ∀ x : Option Nat, sP S a i.toNatClampNeg = x → gw X cells slots Q S d q lv (va_rf x :: st)) : gw X cells slots Q S d pc lv (.int i :: va_rf (some a) :: st) := by
  obtain ⟨dg, rfl⟩ := dg
  intro ls H locs hl hH hS
  have hlt : i.toNatClampNeg < sN S a := Nat.not_le.mp fun q => hin (Or.inr q)
  exact W.aald (v := gV S d a i.toNatClampNeg) (ty := aty κ) hE.ex hE.bt (hH.arr hk (aks_50 κ hm)) ((hE.kn.arr hm).1 (sN S a) (gV S d a)) hr (fun q => by cases q) (by rw [arrV_size]; exact hin) (by rw [arrV_read _ _ hlt]) rfl rfl dg (by rw [gV_r (by rw [hk]; exact hs _)]; exact kk _ rfl ls H locs hl hH hS)
theorem g_alen {a κ : Nat} (hE : gE X cc nL own rt nm nf nw) (hk : sK S a = κ) (hm : κ ∈ aks) (dg : dc cc pc .arraylength 1 q) (kk : gw X cells slots Q S d q lv (.int (Int32.ofNat (sN S a)) :: st)) : gw X cells slots Q S d pc lv (va_rf (some a) :: st) := by
  obtain ⟨dg, rfl⟩ := dg
  intro ls H locs hl hH hS
  exact W.alen (n := Int32.ofNat (sN S a)) hE.ex hE.bt (hH.arr hk (aks_50 κ hm)) ((hE.kn.arr hm).1 (sN S a) (gV S d a)) (by rw [arrV_size] <;> rfl) rfl rfl dg (kk ls H locs hl hH hS)
theorem gH.ast {a κ k : Nat} {v : Value} {S' : gS} {d' : gD} {H H' : Heap} (hH : gH (xG X) S d H) (hk : sK S a = κ) (h50 : 50 ≤ κ) (e : H'[a]? = some ((arrV ((xG X).2.1 κ) (sN S a) (gV S d a)).setSlot k v)) (z : H'.size = H.size) (oq : ∀ q, q ≠ a → H'[q]? = H[q]?) (hSk : ∀ b, sK S' b = sK S b) (hSn : ∀ b, sN S' b = sN S b) (hSz : sZ S' = sZ S) (hvo : ∀ b, b ≠ a → gV S' d' b = gV S d b) (hva : gV S' d' a = updV (gV S d a) k v) : gH (xG X) S' d' H' := by
  refine hH.upd z oq hSk hSn hSz hvo (gAt.mkA (by rw [hSk, hk]; exact h50) ?_)
  rw [hSk, hSn, hva, hk, e, arrV_store]

theorem g_iast {a : Nat} {i : Int32} {x : Int32} (hE : gE X cc nL own rt nm nf nw) (hk : sK S a = 50) (hin : vp_in i (sN S a)) (dg : dc cc pc (.iastore) 1 q) (kk : ∀ d1, wI d a i.toNatClampNeg x = d1 → gw X cells slots Q S d1 q lv st) : gw X cells slots Q S d pc lv (.int x :: .int i :: va_rf (some a) :: st) := by
  obtain ⟨dg, rfl⟩ := dg
  intro ls H locs hl hH hS
  refine W.iast hE.ex hE.bt (hH.arr hk (by decide)) ((hE.kn.arr (κ := 50) (by decide)).1 (sN S a) (gV S d a)) (fun q => by cases q) (by rw [arrV_size]; exact hin) rfl rfl dg fun H1 e z oq => ?_
  exact kk _ rfl ls H1 _ hl (hH.ast hk (by decide) e z oq (fun _ => rfl) (fun _ => rfl) rfl (fun b hb => gV_wI_ne hb) (gV_wI (by rw [hk]; rfl))) (hS.put z oq (hH.2 a (by rw [hk]; decide)).1)
theorem g_last {a : Nat} {i : Int32} {x : Int64} (hE : gE X cc nL own rt nm nf nw) (hk : sK S a = 51) (hin : vp_in i (sN S a)) (dg : dc cc pc (.lastore) 1 q) (kk : ∀ d1, wL d a i.toNatClampNeg x = d1 → gw X cells slots Q S d1 q lv st) : gw X cells slots Q S d pc lv (.long x :: .int i :: va_rf (some a) :: st) := by
  obtain ⟨dg, rfl⟩ := dg
  intro ls H locs hl hH hS
  refine W.last hE.ex hE.bt (hH.arr hk (by decide)) ((hE.kn.arr (κ := 51) (by decide)).1 (sN S a) (gV S d a)) (fun q => by cases q) (by rw [arrV_size]; exact hin) rfl rfl dg fun H1 e z oq => ?_
  exact kk _ rfl ls H1 _ hl (hH.ast hk (by decide) e z oq (fun _ => rfl) (fun _ => rfl) rfl (fun b hb => gV_wL_ne hb) (gV_wL (by rw [hk]; rfl))) (hS.put z oq (hH.2 a (by rw [hk]; decide)).1)
theorem g_bast {a : Nat} {i : Int32} {x : Int32} (hE : gE X cc nL own rt nm nf nw) (hk : sK S a = 52) (hin : vp_in i (sN S a)) (dg : dc cc pc (.bastore) 1 q) (kk : ∀ d1, wI d a i.toNatClampNeg (vp_nar .byte x) = d1 → gw X cells slots Q S d1 q lv st) : gw X cells slots Q S d pc lv (.int x :: .int i :: va_rf (some a) :: st) := by
  obtain ⟨dg, rfl⟩ := dg
  intro ls H locs hl hH hS
  refine W.bast hE.ex hE.bt (hH.arr hk (by decide)) ((hE.kn.arr (κ := 52) (by decide)).1 (sN S a) (gV S d a)) (fun q => by cases q) (by rw [arrV_size]; exact hin) rfl rfl dg fun H1 e z oq => ?_
  exact kk _ rfl ls H1 _ hl (hH.ast hk (by decide) e z oq (fun _ => rfl) (fun _ => rfl) rfl (fun b hb => gV_wI_ne hb) (gV_wI (by rw [hk]; rfl))) (hS.put z oq (hH.2 a (by rw [hk]; decide)).1)
theorem g_zast {a : Nat} {i : Int32} {x : Int32} (hE : gE X cc nL own rt nm nf nw) (hk : sK S a = 53) (hin : vp_in i (sN S a)) (dg : dc cc pc (.bastore) 1 q) (kk : ∀ d1, wI d a i.toNatClampNeg (vp_nar .boolean x) = d1 → gw X cells slots Q S d1 q lv st) : gw X cells slots Q S d pc lv (.int x :: .int i :: va_rf (some a) :: st) := by
  obtain ⟨dg, rfl⟩ := dg
  intro ls H locs hl hH hS
  refine W.zast hE.ex hE.bt (hH.arr hk (by decide)) ((hE.kn.arr (κ := 53) (by decide)).1 (sN S a) (gV S d a)) (fun q => by cases q) (by rw [arrV_size]; exact hin) rfl rfl dg fun H1 e z oq => ?_
  exact kk _ rfl ls H1 _ hl (hH.ast hk (by decide) e z oq (fun _ => rfl) (fun _ => rfl) rfl (fun b hb => gV_wI_ne hb) (gV_wI (by rw [hk]; rfl))) (hS.put z oq (hH.2 a (by rw [hk]; decide)).1)
theorem g_aast {a κ v κv N : Nat} {i : Int32} {C : String} {T : u_T} {ty : Nat → FieldType} (hE : gE X cc nL own rt nm nf nw) (hk : sK S a = κ) (hm : κ ∈ aks) (hs : ∀ j, srt κ j = 2) (hat : aty κ = .object C) (hC : gCl κv C T N ty) (hkv : sK S v = κv) (hin : vp_in i (sN S a)) (dg : dc cc pc .aastore 1 q) (kk : ∀ S1, wP S a i.toNatClampNeg (some v) = S1 → gw X cells slots Q S1 d q lv st) : gw X cells slots Q S d pc lv (va_rf (some v) :: .int i :: va_rf (some a) :: st) := by
  obtain ⟨dg, rfl⟩ := dg
  intro ls H locs hl hH hS
  have hlt : i.toNatClampNeg < sN S a := Nat.not_le.mp fun q => hin (Or.inr q)
  have h0 : ¬ i < 0 := fun q => hin (Or.inl q)
  have h50 := aks_50 κ hm
  subst hkv
  obtain ⟨v0, v50, hc, hwi, -⟩ := hC
  obtain ⟨-, hav⟩ := hH.2 v v0
  obtain ⟨r, h1, cell, q1, q2, q3, q4⟩ := hav.1 v50
  obtain ⟨hSl, hcls⟩ := hE.kn.1.1 _ _ hc
  have hra := (hE.kn.arr hm).2
  rw [hat] at hra
  obtain ⟨kA, comp, k1, k2, k3, -⟩ := hra
  have hcomp : comp = (xG X).1.1 (sK S v - 1) := Option.some.inj (k3.symm.trans hcls.1)
  subst hcomp
  have hcls0 := hcls
  obtain ⟨kC, hkC, -⟩ := hcls.2
  refine W.aast hE.ex hE.bt (hH.arr hk h50) (fun q h => by cases h) (fun h => by cases h) k1 k2 rfl hkC ⟨h0, by rw [arrV_size]; exact hlt⟩ q1 (fun q h => by rw [q3] at h; cases h) (by rw [q2]; exact hkC) (by rw [q2]; exact va_assign hcls0) rfl rfl dg fun H1 e z oq => ?_
  exact kk _ rfl ls H1 _ hl (hH.ast hk h50 e z oq (fun _ => rfl) (fun _ => rfl) rfl (fun b hb => gV_wP_ne hb) (gV_wP (x := some v) (by rw [hk]; exact hs _))) (hS.put z oq (hH.2 a (by rw [hk]; omega)).1)
theorem g_aastN {a κ : Nat} {i : Int32} {C : String} (hE : gE X cc nL own rt nm nf nw) (hk : sK S a = κ) (hm : κ ∈ aks) (hs : ∀ j, srt κ j = 2) (hat : aty κ = .object C) (hin : vp_in i (sN S a)) (dg : dc cc pc .aastore 1 q) (kk : ∀ S1, wP S a i.toNatClampNeg none = S1 → gw X cells slots Q S1 d q lv st) : gw X cells slots Q S d pc lv (va_rf none :: .int i :: va_rf (some a) :: st) := by
  obtain ⟨dg, rfl⟩ := dg
  intro ls H locs hl hH hS
  have h50 := aks_50 κ hm
  refine va_WaastN (C := C) hE.ex hE.bt (hH.arr hk h50) (by rw [← hat]; exact (hE.kn.arr hm).1 (sN S a) (gV S d a)) (fun q => by cases q) (by rw [arrV_size]; exact hin) rfl rfl dg fun H1 e z oq => ?_
  exact kk _ rfl ls H1 _ hl (hH.ast hk h50 e z oq (fun _ => rfl) (fun _ => rfl) rfl (fun b hb => gV_wP_ne hb) (gV_wP (x := none) (by rw [hk]; exact hs _))) (hS.put z oq (hH.2 a (by rw [hk]; omega)).1)

theorem nS_K {κ n b : Nat} : sK (nS S κ n) b = if b = sZ S then κ else sK S b := rfl
theorem nS_new {κ n : Nat} : sK (nS S κ n) (sZ S) = κ := by rw [nS_K, if_pos rfl]
theorem gH.new {κ n : Nat} {H H' : Heap} (hH : gH (xG X) S d H) (hz0 : (xG X).2.2 ≤ sZ S) (hz : H'.size = sZ S + 1) (ho : ∀ q, q < sZ S → H'[q]? = H[q]?) (ha : gAt (xG X) (nS S κ n) (nD S d) (sZ S) H') : gH (xG X) (nS S κ n) (nD S d) H' := by
  refine ⟨hz, fun b hb => ?_⟩
  by_cases e : b = sZ S
  · rw [e]; exact ⟨hz0, ha⟩
  · rw [nS_K, if_neg e] at hb
    obtain ⟨h1, h2⟩ := hH.2 b hb
    have hlt := hH.lt hb
    refine ⟨h1, h2.kept (ho b hlt) (by rw [nS_K, if_neg e]) (if_neg e) (gV_congr (by rw [nS_K, if_neg e]) (fun j => ?_) (fun j => ?_) (fun j => ?_))⟩
    · show va_up S.2.2.1 S.2.2.2 (fun _ => none) b j = _
      rw [va_up_ne _ _ (show b ≠ S.2.2.2 from e)]; rfl
    · show va_up d.1 S.2.2.2 (fun _ => 0) b j = _
      rw [va_up_ne _ _ (show b ≠ S.2.2.2 from e)]; rfl
    · show va_up d.2 S.2.2.2 (fun _ => 0) b j = _
      rw [va_up_ne _ _ (show b ≠ S.2.2.2 from e)]; rfl
def gO (κ k : Nat) : Value := match srt κ k with
  | 0 => .int 0
  | 1 => .long 0
  | _ => .null
theorem gV_new {κ n : Nat} : gV (nS S κ n) (nD S d) (sZ S) = gO κ := by
  funext j
  have h1 : sK (nS S κ n) (sZ S) = κ := by rw [nS_K, if_pos rfl]
  have h2 : dI (nD S d) (sZ S) j = 0 := by show va_up d.1 S.2.2.2 (fun _ => 0) S.2.2.2 j = 0; rw [va_up_self]
  have h3 : dL (nD S d) (sZ S) j = 0 := by show va_up d.2 S.2.2.2 (fun _ => 0) S.2.2.2 j = 0; rw [va_up_self]
  have h4 : sP (nS S κ n) (sZ S) j = none := by show va_up S.2.2.1 S.2.2.2 (fun _ => none) S.2.2.2 j = none; rw [va_up_self]
  unfold gV gO
  rw [h1, h2, h3, h4]
  rfl
theorem g_new {κ N idx : Nat} {C : String} {T : u_T} {ty : Nat → FieldType} (hE : gE X cc nL own rt nm nf nw) (hC : gCl κ C T N ty) (hdf : ∀ k, k < N → defaultValue (ty k) = gO κ k) (hw1 : Cond.classLink own idx C ∈ WG) (hw2 : Cond.instantiable C N ∈ WG) (hw3 : Cond.initialized C ∈ WG) (hc1 : cells + 1 ≤ (xR X).cells) (hs1 : slots + N ≤ (xR X).slots) (dg : dc cc pc (.new idx) 3 q) (kk : ∀ S1 d1 a, nS S κ 0 = S1 → nD S d = d1 → sZ S = a → gw X (cells + 1) (slots + N) Q S1 d1 q lv (va_rf (some a) :: st)) : gw X cells slots Q S d pc lv st := by
  obtain ⟨dg, rfl⟩ := dg
  intro ls H locs hl hH hS
  obtain ⟨h0, h50, hc, hin, hty, -⟩ := hC
  have hKn := hE.kn.1.1 _ _ hc
  have hz0 : (xG X).2.2 ≤ sZ S := by rw [← hH.1]; exact Nat.le_trans hE.sz hS.1
  refine W.newcK hE.ex hE.bt hE.ow (hE.wd _ hw1) (hE.wd _ hw2) (hE.wd _ hw3) rfl dg hc1 hs1 hKn.2.1 hH.1 fun H1 kC hkC e1 z1 o1 => ?_
  refine kk _ _ _ rfl rfl rfl ls H1 locs hl (hH.new hz0 z1 o1 (gAt.mkO (by rw [nS_K, if_pos rfl]; exact h50) (by rw [nS_K, if_pos rfl]; exact hc) ?_)) ⟨Nat.le_trans hS.1 (by rw [hH.1, z1]; omega), fun x h1 h2 => (o1 x (by rw [← hH.1]; exact Nat.lt_of_lt_of_le h1 hS.1)).trans (hS.2.1 x h1 h2), hS.2.2⟩
  rw [nS_K, if_pos rfl, gV_new]
  exact (u_born ty hE.wd hin hKn hkC e1 hty).to hdf
theorem g_newa {κ : Nat} {atype : ArrayType} {n : Int32} (hE : gE X cc nL own rt nm nf nw) (hty : newarray.typeOf atype = aty κ) (hm : κ ∈ aks) (hdf : ∀ k, defaultValue (aty κ) = gO κ k) (hnm : ∀ U : State, ∀ cA, va_RA U cA (aty κ) → U.vm.findClass ("[" ++ (aty κ).toString) = some cA) (hb : componentBytes (aty κ) ≤ 8) (hw : Cond.arrayClass (aty κ) ∈ WG) (hn : ¬ (n < 0 ∨ 67108864 < n.toNatClampNeg)) (hc1 : cells + 1 ≤ (xR X).cells) (hs1 : slots + n.toNatClampNeg ≤ (xR X).slots) (dg : dc cc pc (.newarray atype) 2 q) (kk : ∀ S1 d1 a, nS S κ n.toNatClampNeg = S1 → nD S d = d1 → sZ S = a → gw X (cells + 1) (slots + n.toNatClampNeg) Q S1 d1 q lv (va_rf (some a) :: st)) : gw X cells slots Q S d pc lv (.int n :: st) := by
  obtain ⟨dg, rfl⟩ := dg
  intro ls H locs hl hH hS
  have h50 := aks_50 κ hm
  have hz0 : (xG X).2.2 ≤ sZ S := by rw [← hH.1]; exact Nat.le_trans hE.sz hS.1
  have hbb : n.toNatClampNeg * componentBytes (aty κ) ≤ 536870912 := Nat.le_trans (Nat.mul_le_mul (Nat.le_of_not_lt (fun h => hn (Or.inr h))) hb) (by decide)
  refine va_newaK hE.ex hE.bt (by rw [hty]; exact hE.wd _ hw) rfl dg rfl (fun h => hn (Or.inl h)) rfl (by rw [hty]; exact hbb) hc1 hs1 hH.1 fun H1 cA e1 z1 o1 hAr hNm => ?_
  rw [hty] at e1 hNm
  have hcA : cA = (xG X).2.1 κ := Option.some.inj (hNm.symm.trans (hnm _ _ (hE.kn.arr hm).2))
  subst hcA
  refine kk _ _ _ rfl rfl rfl ls H1 locs hl (hH.new hz0 z1 o1 (gAt.mkA (by rw [nS_K, if_pos rfl]; exact h50) ?_)) ⟨Nat.le_trans hS.1 (by rw [hH.1, z1]; omega), fun x h1 h2 => (o1 x (by rw [← hH.1]; exact Nat.lt_of_lt_of_le h1 hS.1)).trans (hS.2.1 x h1 h2), hS.2.2⟩
  rw [e1, nS_K, if_pos rfl, gV_new, show sN (nS S κ n.toNatClampNeg) (sZ S) = n.toNatClampNeg from va_up_self _ _ _, show (fun _ => defaultValue (aty κ)) = gO κ from funext hdf]
theorem g_newq {κ idx : Nat} {n : Int32} {C : String} (hE : gE X cc nL own rt nm nf nw) (hat : aty κ = .object C) (hm : κ ∈ aks) (hs : ∀ j, srt κ j = 2) (hA : C ∈ AOs) (hw : Cond.classLink own idx C ∈ WG) (hn : ¬ (n < 0 ∨ 67108864 < n.toNatClampNeg)) (hc1 : cells + 1 ≤ (xR X).cells) (hs1 : slots + n.toNatClampNeg ≤ (xR X).slots) (dg : dc cc pc (.anewarray idx) 3 q) (kk : ∀ S1 d1 a, nS S κ n.toNatClampNeg = S1 → nD S d = d1 → sZ S = a → gw X (cells + 1) (slots + n.toNatClampNeg) Q S1 d1 q lv (va_rf (some a) :: st)) : gw X cells slots Q S d pc lv (.int n :: st) := by
  obtain ⟨dg, rfl⟩ := dg
  intro ls H locs hl hH hS
  have h50 := aks_50 κ hm
  have hz0 : (xG X).2.2 ≤ sZ S := by rw [← hH.1]; exact Nat.le_trans hE.sz hS.1
  have hbb : n.toNatClampNeg * 4 ≤ 536870912 := Nat.le_trans (Nat.mul_le_mul_right 4 (Nat.le_of_not_lt (fun h => hn (Or.inr h)))) (by decide)
  refine W.anew hE.ex hE.bt hE.ow (hE.wd _ hw) (va_AO.use (hE.kn.2.2 C hA)) rfl dg rfl (fun h => hn (Or.inl h)) hbb hc1 hs1 fun cA kA comp f1 f2 f3 f4 => ?_
  generalize hH1 : H.push ({ cls := cA, slots := Array.replicate n.toNatClampNeg .null, vm := .none } : Cell) = H1
  have z1 : H1.size = H.size + 1 := by rw [← hH1, Array.size_push]
  have e1 : H1[H.size]? = some (arrV cA n.toNatClampNeg (fun _ => .null)) := by rw [← hH1, Array.getElem?_push_size, ← arrV_new]
  have o1 : ∀ q : Nat, q < H.size → H1[q]? = H[q]? := fun q hq => by rw [← hH1, Array.getElem?_push, if_neg (Nat.ne_of_lt hq)]
  have hra := (hE.kn.arr hm).2
  rw [hat] at hra
  obtain ⟨_, _, -, -, -, r4⟩ := hra
  have hcA : cA = (xG X).2.1 κ := Option.some.inj (f1.symm.trans r4)
  subst hcA
  rw [hH.1] at z1 e1 o1
  have hO : gO κ = fun _ => Value.null := by funext j; unfold gO; rw [hs]; rfl
  have := kk _ _ _ rfl rfl rfl ls H1 locs hl (hH.new hz0 z1 o1 (gAt.mkA (by rw [nS_K, if_pos rfl]; exact h50) (by rw [e1, nS_K, if_pos rfl, gV_new, hO, show sN (nS S κ n.toNatClampNeg) (sZ S) = n.toNatClampNeg from va_up_self _ _ _]))) ⟨Nat.le_trans hS.1 (by rw [hH.1, z1]; omega), fun x h1 h2 => (o1 x (by rw [← hH.1]; exact Nat.lt_of_lt_of_le h1 hS.1)).trans (hS.2.1 x h1 h2), hS.2.2⟩
  rw [hH.1]
  exact this

theorem g_iret {v : Int32} {mc ms : Nat} (hE : gE X cc nL own (some .int) nm nf nw) (dg : dc cc pc .ireturn 1 q) (hm : cells = mc) (hs : slots = ms) : gw X cells slots (gQ X (some (.int v)) S d mc ms) S d pc lv [.int v] := by
  subst hm; subst hs
  exact fun ls H locs hl hH hS => W.iret hE.ex hE.bt hE.ret (fun t ht hW => ⟨rfl, by rw [ht]; exact hH, hS.F ht⟩) hS.2.2 dg.1 hE.lk
theorem g_zret {v : Int32} {mc ms : Nat} (hE : gE X cc nL own (some .boolean) nm nf nw) (hv : v = 0 ∨ v = 1) (dg : dc cc pc .ireturn 1 q) (hm : cells = mc) (hs : slots = ms) : gw X cells slots (gQ X (some (.int v)) S d mc ms) S d pc lv [.int v] := by
  subst hm; subst hs
  exact fun ls H locs hl hH hS => W.zret hE.ex hE.bt hE.ret (nar_z hv) (fun t ht hW => ⟨rfl, by rw [ht]; exact hH, hS.F ht⟩) hS.2.2 dg.1 hE.lk
theorem g_lret {v : Int64} {mc ms : Nat} (hE : gE X cc nL own (some .long) nm nf nw) (dg : dc cc pc .lreturn 1 q) (hm : cells = mc) (hs : slots = ms) : gw X cells slots (gQ X (some (.long v)) S d mc ms) S d pc lv [.long v] := by
  subst hm; subst hs
  exact fun ls H locs hl hH hS => W.lret hE.ex hE.bt hE.ret (fun t ht hW => ⟨rfl, by rw [ht]; exact hH, hS.F ht⟩) hS.2.2 dg.1 hE.lk
theorem g_aret {v : Option Nat} {mc ms : Nat} {rt0 : FieldType} (hE : gE X cc nL own (some rt0) nm nf nw) (hrt : (∃ n, rt0 = .object n) ∨ ∃ t, rt0 = .array t) (dg : dc cc pc .areturn 1 q) (hm : cells = mc) (hs : slots = ms) : gw X cells slots (gQ X (some (va_rf v)) S d mc ms) S d pc lv [va_rf v] := by
  subst hm; subst hs
  exact fun ls H locs hl hH hS => W.aret hE.ex hE.bt hE.ret hrt (rf_rf v) (fun t ht hW => ⟨rfl, by rw [ht]; exact hH, hS.F ht⟩) hS.2.2 dg.1 hE.lk
theorem g_vret {mc ms : Nat} (hE : gE X cc nL own none nm nf nw) (dg : dc cc pc .return_ 1 q) (hm : cells = mc) (hs : slots = ms) : gw X cells slots (gQ X none S d mc ms) S d pc lv [] := by
  subst hm; subst hs
  exact fun ls H locs hl hH hS => W.vret hE.ex hE.bt hE.ret (fun t ht hW => ⟨rfl, by rw [ht]; exact hH, hS.F ht⟩) hS.2.2 dg.1 hE.lk
theorem g_ret {mc ms : Nat} {rv : Option Value} {S' : gS} {d' : gD} {rest st0 : List Value} {a : Array Value} (hr : ∀ (ls : Array Slot) (H : Heap) (locs : List Loc), lvh ls (xc X).maxLocals lv → gH (xG X) S d H → va_S (gA (xG X)) (xs X).heap H locs → va_Run (xp X) (xl X) (xe X) (xR X) (xs X) (xm X) (xa X) (xb X) (xM X) (xc X) H locs cells slots mc ms (F0 (xm X) pc ls st0) rest (gQc (xG X) rv S' d' a) (gA (xG X))) (k : gw X (cells + mc) (slots + ms) Q S' d' (pc + 3) lv (rv.toList ++ rest)) : gw X cells slots Q S d pc lv st0 := by
  intro ls H locs hl hH hS T hT X0
  obtain ⟨v, st₀, t, T', L, h0, X', hL, e1, e2, ⟨hv, hH', hz, hk⟩, st⟩ := hr ls H locs hl hH hS T hT X0
  cases hv
  rw [h0] at hz hk
  obtain ⟨t2, a1, b1⟩ := k ls T'.heap (locs ++ L) hl (by rw [e1]; exact hH')
    ⟨Nat.le_trans hS.1 (by rw [e1]; exact hz), fun q h1 h2 => by rw [e1, hk q (Nat.lt_of_lt_of_le h1 hS.1) h2]; exact hS.2.1 q h1 h2, fun q hq => by
      rcases List.mem_append.mp hq with h | h
      · exact hS.2.2 q h
      · exact hL q h⟩ T' rfl X'
  exact ⟨t2, st t2 a1, b1⟩
theorem g_pay {y : MethodName} {b : ByteArray} {n2 : Nat} {r2 : Option FieldType} (hE : gE X cc nL own rt nm nf nw) (hc : Cond.code y b n2 r2 ∈ WG) : ∀ w ∈ Cond.code y b n2 r2 :: WG, ∀ (a' : Array Value) (U : State), (xs X).WarmedH U.vm → w.before a' U = true := by
  intro w hw a' U hU
  have hw2 : w ∈ WG := by
    rcases List.mem_cons.mp hw with h | h
    · rw [h]; exact hc
    · exact h
  exact word_at hU (WG_good w hw2) (hE.wd w hw2)
theorem g_sig {y : MethodName} {b : ByteArray} {n2 np : Nat} {r2 : Option FieldType} (hY : gY y b n2 r2 np) : ∀ sig, parseMethodDescriptor y.desc = some sig → np = sig.parameters.length := by
  intro sig h
  have h2 := hY.2.2.2.2
  rw [h] at h2
  exact (Option.some.inj h2).symm

theorem g_callS {y : MethodName} {b2 : ByteArray} {n2 np nf2 nw2 mc ms idx : Nat} {r2 : Option FieldType} {av : List gT} {rv : Option Value} {S' : gS} {d' : gD} {st0 stk : List Value} (rest : List Value) (hE : gE X cc nL own rt nm nf nw) (hM : GM (xl X) (xG X) y b2 n2 r2 nf2 nw2 mc ms av S d rv S' d') (hY : gY y b2 n2 r2 np) (hR : nf2 + 1 ≤ nf ∧ 8 + (n2 + 11) + nw2 ≤ nw) (hw : Cond.methodLink own idx y ∈ WG) (hw2 : Cond.static y ∈ WG) (hn : av.length = np) (dg : dc cc pc (.invokestatic idx) 3 q) (hi0 : (av.map tv).reverse ++ rest = st0) (ho0 : rv.toList ++ rest = stk) (hcs : (rest.map fun v => v.category).sum ≤ 8) (hc1 : cells + mc ≤ (xR X).cells) (hs1 : slots + ms ≤ (xR X).slots) (k : gw X (cells + mc) (slots + ms) Q S' d' q lv stk) : gw X cells slots Q S d pc lv st0 := by
  subst hi0; subst ho0
  obtain ⟨dg, rfl⟩ := dg
  refine g_ret (a := (av.map tv).toArray) (fun ls H locs hl hH hS => ?_) k
  have hPc : ∀ U : State, U.heap = H → (xs X).WarmedH U.vm → gPc (xG X) av S d (av.map tv).toArray U := fun U hU hW => ⟨rfl, by rw [hU]; exact hH, hE.kn.moved hW, by rw [hU]; exact Nat.le_trans hE.sz hS.1⟩
  have hfr : nf2 + 1 ≤ (xR X).frames := by rw [hE.fr]; exact hR.1
  have hlo : 8 + (n2 + 11) + nw2 ≤ (xR X).locals := by rw [hE.lw]; exact hR.2
  have hcb : Cond.code y b2 n2 r2 ∈ Cond.code y b2 n2 r2 :: WG := List.mem_cons_self
  exact va_runS (As := av.map tv) (n := np) ⟨hE.ex, hE.bt, hE.ml, hE.ow, hE.wd⟩ hM ⟨⟨rfl, rfl, hfr, hlo, g_pay hE hY.1, hcb, hE.wd _ hY.1, hE.wd _ hY.2.1, ⟨hY.2.2.1, hY.2.2.2.1⟩, g_sig hY, hE.wd _ hw⟩, hE.wd _ hw2⟩ ⟨gPc.blind, hPc⟩ rfl (by rw [List.length_map]; exact hn) (hl.1.trans hE.ml) rfl (lv_room hcs) dg ⟨hc1, hs1⟩
theorem g_callI {y : MethodName} {b2 : ByteArray} {n2 np nf2 nw2 mc ms idx : Nat} {av : List gT} {rv : Option Value} {S' : gS} {d' : gD} {st0 stk : List Value} (rest : List Value) {a : Nat} {as : List gT} (hE : gE X cc nL own rt nm nf nw) (hM : GM (xl X) (xG X) y b2 n2 none nf2 nw2 mc ms av S d rv S' d') (hY : gY y b2 n2 none np) (hR : nf2 + 1 ≤ nf ∧ 8 + (n2 + 11) + nw2 ≤ nw) (hav : av = .inr (.inr (some a)) :: as) (hw : Cond.methodLink own idx y ∈ WG) (hw2 : Cond.instanceMethod y ∈ WG) (hy1 : y.name = "<init>") (hn : as.length = np) (dg : dc cc pc (.invokespecial idx) 3 q) (hi0 : (as.map tv).reverse ++ va_rf (some a) :: rest = st0) (ho0 : rv.toList ++ rest = stk) (hcs : (rest.map fun v => v.category).sum ≤ 8) (hc1 : cells + mc ≤ (xR X).cells) (hs1 : slots + ms ≤ (xR X).slots) (k : gw X (cells + mc) (slots + ms) Q S' d' q lv stk) : gw X cells slots Q S d pc lv st0 := by
  subst hav; subst hi0; subst ho0
  obtain ⟨dg, rfl⟩ := dg
  refine g_ret (a := ((.inr (.inr (some a)) :: as : List gT).map tv).toArray) (fun ls H locs hl hH hS => ?_) k
  have hPc : ∀ U : State, U.heap = H → (xs X).WarmedH U.vm → gPc (xG X) (.inr (.inr (some a)) :: as) S d ((.inr (.inr (some a)) :: as : List gT).map tv).toArray U := fun U hU hW => ⟨rfl, by rw [hU]; exact hH, hE.kn.moved hW, by rw [hU]; exact Nat.le_trans hE.sz hS.1⟩
  have hfr : nf2 + 1 ≤ (xR X).frames := by rw [hE.fr]; exact hR.1
  have hlo : 8 + (n2 + 11) + nw2 ≤ (xR X).locals := by rw [hE.lw]; exact hR.2
  have hcb : Cond.code y b2 n2 none ∈ Cond.code y b2 n2 none :: WG := List.mem_cons_self
  exact va_runI (As := as.map tv) (b := a) (n := np) ⟨hE.ex, hE.bt, hE.ml, hE.ow, hE.wd⟩ hM ⟨⟨rfl, rfl, hfr, hlo, g_pay hE hY.1, hcb, hE.wd _ hY.1, hE.wd _ hY.2.1, ⟨hY.2.2.1, hY.2.2.2.1⟩, g_sig hY, hE.wd _ hw⟩, hy1, hE.wd _ hw2⟩ ⟨gPc.blind, hPc⟩ rfl (by rw [List.length_map]; exact hn) (hl.1.trans hE.ml) rfl (lv_room hcs) dg ⟨hc1, hs1⟩
theorem g_callV {y : MethodName} {b2 : ByteArray} {n2 np nf2 nw2 mc ms idx : Nat} {r2 : Option FieldType} {av : List gT} {rv : Option Value} {S' : gS} {d' : gD} {st0 stk : List Value} (rest : List Value) {a κ N : Nat} {C : String} {T : u_T} {ty : Nat → FieldType} {as : List gT} (hE : gE X cc nL own rt nm nf nw) (hM : GM (xl X) (xG X) y b2 n2 r2 nf2 nw2 mc ms av S d rv S' d') (hY : gY y b2 n2 r2 np) (hR : nf2 + 1 ≤ nf ∧ 8 + (n2 + 11) + nw2 ≤ nw) (hav : av = .inr (.inr (some a)) :: as) (hC : gCl κ C T N ty) (hk : sK S a = κ) (hw : Cond.methodLink own idx y ∈ WG) (hw2 : Cond.instanceMethod y ∈ WG) (hw3 : Cond.selects C y y ∈ WG) (hn : as.length = np) (dg : dc cc pc (.invokevirtual idx) 3 q) (hi0 : (as.map tv).reverse ++ va_rf (some a) :: rest = st0) (ho0 : rv.toList ++ rest = stk) (hcs : (rest.map fun v => v.category).sum ≤ 8) (hc1 : cells + mc ≤ (xR X).cells) (hs1 : slots + ms ≤ (xR X).slots) (k : gw X (cells + mc) (slots + ms) Q S' d' q lv stk) : gw X cells slots Q S d pc lv st0 := by
  subst hav; subst hi0; subst ho0
  obtain ⟨dg, rfl⟩ := dg
  refine g_ret (a := ((.inr (.inr (some a)) :: as : List gT).map tv).toArray) (fun ls H locs hl hH hS => ?_) k
  have hPc : ∀ U : State, U.heap = H → (xs X).WarmedH U.vm → gPc (xG X) (.inr (.inr (some a)) :: as) S d ((.inr (.inr (some a)) :: as : List gT).map tv).toArray U := fun U hU hW => ⟨rfl, by rw [hU]; exact hH, hE.kn.moved hW, by rw [hU]; exact Nat.le_trans hE.sz hS.1⟩
  have hfr : nf2 + 1 ≤ (xR X).frames := by rw [hE.fr]; exact hR.1
  have hlo : 8 + (n2 + 11) + nw2 ≤ (xR X).locals := by rw [hE.lw]; exact hR.2
  have hcb : Cond.code y b2 n2 r2 ∈ Cond.code y b2 n2 r2 :: WG := List.mem_cons_self
  have hrc : ∃ cellB : Cell, H[a]? = some cellB ∧ cellB.vm.isStatics = false ∧ (xs X).vm.findClass C = some cellB.cls := by
    subst hk
    obtain ⟨h0, h50, hc, -⟩ := hC
    obtain ⟨-, hat⟩ := hH.2 a h0
    obtain ⟨r, h1, cell, q1, q2, q3, q4⟩ := hat.1 h50
    exact ⟨cell, q1, by rw [q3]; rfl, by rw [q2]; exact (hE.kn.1.1 _ _ hc).2.1⟩
  exact va_runV (As := as.map tv) (b := a) (C := C) (n := np) ⟨hE.ex, hE.bt, hE.ml, hE.ow, hE.wd⟩ hM ⟨⟨rfl, rfl, hfr, hlo, g_pay hE hY.1, hcb, hE.wd _ hY.1, hE.wd _ hY.2.1, ⟨hY.2.2.1, hY.2.2.2.1⟩, g_sig hY, hE.wd _ hw⟩, hE.wd _ hw2, hE.wd _ hw3⟩ ⟨gPc.blind, hrc, hPc⟩ rfl (by rw [List.length_map]; exact hn) (hl.1.trans hE.ml) rfl (lv_room hcs) dg ⟨hc1, hs1⟩
theorem g_callSN {y : MethodName} {b2 : ByteArray} {n2 np nf2 nw2 mc ms idx : Nat} {r2 : Option FieldType} {av : List gT} {rv : Option Value} {S' : gS} {d' : gD} {st0 stk : List Value} (rest : List Value) {host : String} (hE : gE X cc nL own rt nm nf nw) (hM : GM (xl X) (xG X) y b2 n2 r2 nf2 nw2 mc ms av S d rv S' d') (hY : gY y b2 n2 r2 np) (hR : nf2 + 1 ≤ nf ∧ 8 + (n2 + 11) + nw2 ≤ nw) (hw : Cond.methodLinkNest own idx y host ∈ NW) (hw2 : Cond.static y ∈ WG) (hn : av.length = np) (dg : dc cc pc (.invokestatic idx) 3 q) (hi0 : (av.map tv).reverse ++ rest = st0) (ho0 : rv.toList ++ rest = stk) (hcs : (rest.map fun v => v.category).sum ≤ 8) (hc1 : cells + mc ≤ (xR X).cells) (hs1 : slots + ms ≤ (xR X).slots) (k : gw X (cells + mc) (slots + ms) Q S' d' q lv stk) : gw X cells slots Q S d pc lv st0 := by
  subst hi0; subst ho0
  obtain ⟨dg, rfl⟩ := dg
  refine g_ret (a := (av.map tv).toArray) (fun ls H locs hl hH hS => ?_) k
  have hPc : ∀ U : State, U.heap = H → (xs X).WarmedH U.vm → gPc (xG X) av S d (av.map tv).toArray U := fun U hU hW => ⟨rfl, by rw [hU]; exact hH, hE.kn.moved hW, by rw [hU]; exact Nat.le_trans hE.sz hS.1⟩
  have hfr : nf2 + 1 ≤ (xR X).frames := by rw [hE.fr]; exact hR.1
  have hlo : 8 + (n2 + 11) + nw2 ≤ (xR X).locals := by rw [hE.lw]; exact hR.2
  have hcb : Cond.code y b2 n2 r2 ∈ Cond.code y b2 n2 r2 :: WG := List.mem_cons_self
  exact va_runSN (As := av.map tv) (n := np) ⟨hE.ex, hE.bt, hE.ml, hE.ow, hE.wd⟩ hM ⟨⟨⟨rfl, rfl, hfr, hlo, g_pay hE hY.1, hcb⟩, hE.wd _ hY.1, hE.wd _ hY.2.1, ⟨hY.2.2.1, hY.2.2.2.1⟩, g_sig hY, va_Nw.use rfl (hE.nest hw)⟩, hE.wd _ hw2, trivial⟩ ⟨gPc.blind, hPc⟩ rfl (by rw [List.length_map]; exact hn) (hl.1.trans hE.ml) rfl (lv_room hcs) dg ⟨hc1, hs1⟩
theorem g_callIN {y : MethodName} {b2 : ByteArray} {n2 np nf2 nw2 mc ms idx : Nat} {av : List gT} {rv : Option Value} {S' : gS} {d' : gD} {st0 stk : List Value} (rest : List Value) {host : String} {a : Nat} {as : List gT} (hE : gE X cc nL own rt nm nf nw) (hM : GM (xl X) (xG X) y b2 n2 none nf2 nw2 mc ms av S d rv S' d') (hY : gY y b2 n2 none np) (hR : nf2 + 1 ≤ nf ∧ 8 + (n2 + 11) + nw2 ≤ nw) (hav : av = .inr (.inr (some a)) :: as) (hw : Cond.methodLinkNest own idx y host ∈ NW) (hw2 : Cond.instanceMethod y ∈ WG) (hy1 : y.name = "<init>") (hn : as.length = np) (dg : dc cc pc (.invokespecial idx) 3 q) (hi0 : (as.map tv).reverse ++ va_rf (some a) :: rest = st0) (ho0 : rv.toList ++ rest = stk) (hcs : (rest.map fun v => v.category).sum ≤ 8) (hc1 : cells + mc ≤ (xR X).cells) (hs1 : slots + ms ≤ (xR X).slots) (k : gw X (cells + mc) (slots + ms) Q S' d' q lv stk) : gw X cells slots Q S d pc lv st0 := by
  subst hav; subst hi0; subst ho0
  obtain ⟨dg, rfl⟩ := dg
  refine g_ret (a := ((.inr (.inr (some a)) :: as : List gT).map tv).toArray) (fun ls H locs hl hH hS => ?_) k
  have hPc : ∀ U : State, U.heap = H → (xs X).WarmedH U.vm → gPc (xG X) (.inr (.inr (some a)) :: as) S d ((.inr (.inr (some a)) :: as : List gT).map tv).toArray U := fun U hU hW => ⟨rfl, by rw [hU]; exact hH, hE.kn.moved hW, by rw [hU]; exact Nat.le_trans hE.sz hS.1⟩
  have hfr : nf2 + 1 ≤ (xR X).frames := by rw [hE.fr]; exact hR.1
  have hlo : 8 + (n2 + 11) + nw2 ≤ (xR X).locals := by rw [hE.lw]; exact hR.2
  have hcb : Cond.code y b2 n2 none ∈ Cond.code y b2 n2 none :: WG := List.mem_cons_self
  exact va_runIN (As := as.map tv) (b := a) (n := np) ⟨hE.ex, hE.bt, hE.ml, hE.ow, hE.wd⟩ hM ⟨⟨⟨rfl, rfl, hfr, hlo, g_pay hE hY.1, hcb⟩, hE.wd _ hY.1, hE.wd _ hY.2.1, ⟨hY.2.2.1, hY.2.2.2.1⟩, g_sig hY, va_Nw.use rfl (hE.nest hw)⟩, hy1, hE.wd _ hw2⟩ ⟨gPc.blind, hPc⟩ rfl (by rw [List.length_map]; exact hn) (hl.1.trans hE.ml) rfl (lv_room hcs) dg ⟨hc1, hs1⟩
theorem g_callVN {y : MethodName} {b2 : ByteArray} {n2 np nf2 nw2 mc ms idx : Nat} {r2 : Option FieldType} {av : List gT} {rv : Option Value} {S' : gS} {d' : gD} {st0 stk : List Value} (rest : List Value) {host : String} {a κ N : Nat} {C : String} {T : u_T} {ty : Nat → FieldType} {as : List gT} (hE : gE X cc nL own rt nm nf nw) (hM : GM (xl X) (xG X) y b2 n2 r2 nf2 nw2 mc ms av S d rv S' d') (hY : gY y b2 n2 r2 np) (hR : nf2 + 1 ≤ nf ∧ 8 + (n2 + 11) + nw2 ≤ nw) (hav : av = .inr (.inr (some a)) :: as) (hC : gCl κ C T N ty) (hk : sK S a = κ) (hw : Cond.methodLinkNest own idx y host ∈ NW) (hw2 : Cond.instanceMethod y ∈ WG) (hw3 : Cond.selects C y y ∈ WG) (hn : as.length = np) (dg : dc cc pc (.invokevirtual idx) 3 q) (hi0 : (as.map tv).reverse ++ va_rf (some a) :: rest = st0) (ho0 : rv.toList ++ rest = stk) (hcs : (rest.map fun v => v.category).sum ≤ 8) (hc1 : cells + mc ≤ (xR X).cells) (hs1 : slots + ms ≤ (xR X).slots) (k : gw X (cells + mc) (slots + ms) Q S' d' q lv stk) : gw X cells slots Q S d pc lv st0 := by
  subst hav; subst hi0; subst ho0
  obtain ⟨dg, rfl⟩ := dg
  refine g_ret (a := ((.inr (.inr (some a)) :: as : List gT).map tv).toArray) (fun ls H locs hl hH hS => ?_) k
  have hPc : ∀ U : State, U.heap = H → (xs X).WarmedH U.vm → gPc (xG X) (.inr (.inr (some a)) :: as) S d ((.inr (.inr (some a)) :: as : List gT).map tv).toArray U := fun U hU hW => ⟨rfl, by rw [hU]; exact hH, hE.kn.moved hW, by rw [hU]; exact Nat.le_trans hE.sz hS.1⟩
  have hfr : nf2 + 1 ≤ (xR X).frames := by rw [hE.fr]; exact hR.1
  have hlo : 8 + (n2 + 11) + nw2 ≤ (xR X).locals := by rw [hE.lw]; exact hR.2
  have hcb : Cond.code y b2 n2 r2 ∈ Cond.code y b2 n2 r2 :: WG := List.mem_cons_self
  have hrc : ∃ cellB : Cell, H[a]? = some cellB ∧ cellB.vm.isStatics = false ∧ (xs X).vm.findClass C = some cellB.cls := by
    subst hk
    obtain ⟨h0, h50, hc, -⟩ := hC
    obtain ⟨-, hat⟩ := hH.2 a h0
    obtain ⟨r, h1, cell, q1, q2, q3, q4⟩ := hat.1 h50
    exact ⟨cell, q1, by rw [q3]; rfl, by rw [q2]; exact (hE.kn.1.1 _ _ hc).2.1⟩
  exact va_runVN (As := as.map tv) (b := a) (C := C) (n := np) ⟨hE.ex, hE.bt, hE.ml, hE.ow, hE.wd⟩ hM ⟨⟨⟨rfl, rfl, hfr, hlo, g_pay hE hY.1, hcb⟩, hE.wd _ hY.1, hE.wd _ hY.2.1, ⟨hY.2.2.1, hY.2.2.2.1⟩, g_sig hY, va_Nw.use rfl (hE.nest hw)⟩, hE.wd _ hw2, hE.wd _ hw3⟩ ⟨gPc.blind, hrc, hPc⟩ rfl (by rw [List.length_map]; exact hn) (hl.1.trans hE.ml) rfl (lv_room hcs) dg ⟨hc1, hs1⟩
theorem g_objInit {a idx : Nat} {rest : List Value} (hE : gE X cc nL own rt nm nf nw) (hw : Cond.methodLink own idx objectInit ∈ WG) (hw2 : Cond.instanceMethod objectInit ∈ WG) (hw3 : Cond.code objectInit ⟨#[0xb1]⟩ 1 none ∈ WG) (hR : 1 ≤ nf ∧ 20 ≤ nw) (hcs : (rest.map fun v => v.category).sum ≤ 8) (dg : dc cc pc (.invokespecial idx) 3 q) (k : gw X cells slots Q S d q lv rest) : gw X cells slots Q S d pc lv (va_rf (some a) :: rest) := by
  obtain ⟨dg, rfl⟩ := dg
  intro ls H locs hl hH hS
  have h8 := lv_room (m := xm X) (pc := pc) (ls := ls) (rest := va_rf (some a) :: rest) hcs
  refine W.objInit hE.ex hE.bt hE.ow (hE.wd _ hw) (hE.wd _ hw2) (hE.wd _ hw3) rfl hl.1 rfl dg (by rw [hE.fr]; exact hR.1) ?_ (k ls H locs hl hH hS)
  rw [hE.lw]
  exact Nat.le_trans (Nat.add_le_add_right h8 12) hR.2
theorem g_tin {x c : Int32} {dflt lo hi off : Int} {offs : Array Int} {len tgt : Nat} (hE : gE X cc nL own rt nm nf nw) (dg : decode cc pc = .ok (.tableswitch dflt lo hi offs, len)) (hx : x = c) (h1 : ¬ c.toInt < lo) (h2 : ¬ hi < c.toInt) (ho : offs[(c.toInt - lo).toNat]? = some off) (ht : (pc : Int) + off = (tgt : Int)) (k : gw X cells slots Q S d tgt lv st) : gw X cells slots Q S d pc lv (.int x :: st) := by
  subst hx
  exact fun ls H locs hl hH hS => lv_tableIn hE.ex hE.bt dg h1 h2 ho ht (k ls H locs hl hH hS)
theorem g_tout {x : Int32} {dflt lo hi : Int} {offs : Array Int} {len tgt : Nat} (hE : gE X cc nL own rt nm nf nw) (dg : decode cc pc = .ok (.tableswitch dflt lo hi offs, len)) (h1 : x.toInt < lo ∨ hi < x.toInt) (ht : (pc : Int) + dflt = (tgt : Int)) (k : gw X cells slots Q S d tgt lv st) : gw X cells slots Q S d pc lv (.int x :: st) :=
  fun ls H locs hl hH hS => lv_tableOut hE.ex hE.bt dg h1 ht (k ls H locs hl hH hS)
theorem g_look {x : Int32} {dflt off : Int} {ps : Array (Int × Int)} {len tgt : Nat} (hE : gE X cc nL own rt nm nf nw) (dg : decode cc pc = .ok (.lookupswitch dflt ps, len)) (hp : (ps.toList.zip (ps.toList.drop 1)).all (fun (a, next) => a.1 < next.1) = true) (ho : Op.lookupswitch.offset ps.toList dflt x.toInt = off) (ht : (pc : Int) + off = (tgt : Int)) (k : gw X cells slots Q S d tgt lv st) : gw X cells slots Q S d pc lv (.int x :: st) :=
  fun ls H locs hl hH hS => lv_lookup hE.ex hE.bt dg hp ho ht (k ls H locs hl hH hS)
theorem gw.cs {c2 s2 : Nat} (h1 : cells = c2) (h2 : slots = s2) (k : gw X c2 s2 Q S d pc lv st) : gw X cells slots Q S d pc lv st := by subst h1; subst h2; exact k
theorem gw.gen (k : ∀ c1 s1, cells = c1 → slots = s1 → gw X c1 s1 Q S d pc lv st) : gw X cells slots Q S d pc lv st := k _ _ rfl rfl
theorem ct_n : (([] : List Value).map fun v => v.category).sum ≤ 0 := by decide
theorem ct_i {l : List Value} {n : Nat} {x : Int32} (h : (l.map fun v => v.category).sum ≤ n) : (((.int x : Value) :: l).map fun v => v.category).sum ≤ n + 1 := by
  rw [List.map_cons, List.sum_cons, show (Value.int x).category = 1 from rfl]; omega
theorem ct_l {l : List Value} {n : Nat} {x : Int64} (h : (l.map fun v => v.category).sum ≤ n) : (((.long x : Value) :: l).map fun v => v.category).sum ≤ n + 2 := by
  rw [List.map_cons, List.sum_cons, show (Value.long x).category = 2 from rfl]; omega
theorem ct_r {l : List Value} {n : Nat} {x : Option Nat} (h : (l.map fun v => v.category).sum ≤ n) : ((va_rf x :: l).map fun v => v.category).sum ≤ n + 1 := by
  rw [List.map_cons, List.sum_cons, rf_cat]; omega
theorem ct_0 : (([] : List Value).map fun v => v.category).sum ≤ 8 := by decide
end GD
