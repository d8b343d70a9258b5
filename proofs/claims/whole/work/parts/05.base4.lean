def wcp (d : gD) (a0 a : Nat) (sp dp n : Int32) : gD := (va_up d.1 a (va_cpy (d.1 a0) (d.1 a) sp.toNatClampNeg dp.toNatClampNeg n.toNatClampNeg), d.2)
def cp {α : Type} (S : gS) (d : gD) (a0 a : Nat) (sp dp n : Int32) (x : Option α) : Option α := if ¬ sp < 0 ∧ ¬ dp < 0 ∧ ¬ n < 0 ∧ sp.toNatClampNeg + n.toNatClampNeg ≤ sN S a0 ∧ dp.toNatClampNeg + n.toNatClampNeg ≤ sN S a ∧ (List.range n.toNatClampNeg).all (fun i => fits .byte (.int (dI d a0 (sp.toNatClampNeg + i)))) = true then x else none
theorem cp_s {α : Type} {S : gS} {d : gD} {a0 a : Nat} {sp dp n : Int32} {x : Option α} {r : α} (h : cp S d a0 a sp dp n x = some r) : (¬ sp < 0 ∧ ¬ dp < 0 ∧ ¬ n < 0 ∧ sp.toNatClampNeg + n.toNatClampNeg ≤ sN S a0 ∧ dp.toNatClampNeg + n.toNatClampNeg ≤ sN S a ∧ (List.range n.toNatClampNeg).all (fun i => fits .byte (.int (dI d a0 (sp.toNatClampNeg + i)))) = true) ∧ x = some r := by
  unfold cp at h
  split at h
  · rename_i c; exact ⟨c, h⟩
  · cases h
theorem gV_byte {S : gS} {d : gD} {a : Nat} (h : sK S a = 52) : gV S d a = fun j => .int (d.1 a j) := by
  funext j
  exact gV_i (by rw [h]; rfl)
theorem gV_wcp {S : gS} {d : gD} {a0 a : Nat} {sp dp n : Int32} {b : Nat} (h : b ≠ a) : gV S (wcp d a0 a sp dp n) b = gV S d b := gV_congr rfl (fun _ => rfl) (fun j => by show va_up d.1 a _ b j = _; rw [va_up_ne _ _ h]; rfl) (fun _ => rfl)
section GF
variable {X : GX} {cells slots : Nat} {Q : State → Prop} {S : gS} {d : gD} {pc q : Nat} {lv : List (Option Value)} {st : List Value} {cc : ByteArray} {nL nf nw : Nat} {own nm : String} {rt : Option FieldType}
theorem g_copyb {a0 a idx : Nat} {sp dp n : Int32} (hE : gE X cc nL own rt nm nf nw) (hk0 : sK S a0 = 52) (hk1 : sK S a = 52)
    (hg : ¬ sp < 0 ∧ ¬ dp < 0 ∧ ¬ n < 0 ∧ sp.toNatClampNeg + n.toNatClampNeg ≤ sN S a0 ∧ dp.toNatClampNeg + n.toNatClampNeg ≤ sN S a ∧ (List.range n.toNatClampNeg).all (fun i => fits .byte (.int (dI d a0 (sp.toNatClampNeg + i)))) = true)
    (hw1 : Cond.methodLink own idx arraycopyName ∈ WG) (hw2 : Cond.native arraycopyName ∈ WG) (hw3 : Cond.static arraycopyName ∈ WG) (hw4 : Cond.initialized "java/lang/System" ∈ WG) (hR : 1 ≤ nf ∧ 26 ≤ nw) (hcs : (st.map fun v => v.category).sum ≤ 8) (dg : dc cc pc (.invokestatic idx) 3 q)
    (kk : ∀ d1, wcp d a0 a sp dp n = d1 → gw X cells slots Q S d1 q lv st) : gw X cells slots Q S d pc lv (.int n :: .int dp :: va_rf (some a) :: .int sp :: va_rf (some a0) :: st) := by
  obtain ⟨dg, rfl⟩ := dg
  obtain ⟨h1, h2, h3, h4, h5, hall⟩ := hg
  have hfit : ∀ i, i < n.toNatClampNeg → fits .byte (.int (d.1 a0 (sp.toNatClampNeg + i))) = true := fun i hi => List.all_eq_true.mp hall i (List.mem_range.mpr hi)
  have nn : ∀ z : Int32, ¬ z < 0 → z.toInt = (z.toNatClampNeg : Int) := by
    intro z hz
    have hz0 : (0 : Int) ≤ z.toInt := by
      have := Int32.not_lt.mp hz
      simpa using Int32.le_iff_toInt_le.mp this
    show z.toInt = ((z.toInt.toNat : Nat) : Int)
    omega
  intro ls H locs hl hH hS T hT X0
  have hc0 : H[a0]? = some (arrV ((xG X).2.1 52) (sN S a0) (fun j => .int (d.1 a0 j))) := by rw [hH.arr hk0 (by decide), gV_byte hk0]
  have hc1 : H[a]? = some (arrV ((xG X).2.1 52) (sN S a) (fun j => .int (d.1 a j))) := by rw [hH.arr hk1 (by decide), gV_byte hk1]
  obtain ⟨-, k0, hkk0, cm0, hkd0⟩ := (hE.kn.arr (κ := 52) (by decide)).1 (sN S a0) (fun j => .int (d.1 a0 j))
  obtain ⟨-, k1, hkk1, cm1, hkd1⟩ := (hE.kn.arr (κ := 52) (by decide)).1 (sN S a) (fun j => .int (d.1 a j))
  obtain ⟨vm', X', step⟩ := X0.arraycopy hE.ex hE.ow (hE.wd _ hw1) (hE.wd _ hw2) (hE.wd _ hw3) (hE.wd _ hw4) (src := a0) (dst := a) (cs := arrV ((xG X).2.1 52) (sN S a0) (fun j => .int (d.1 a0 j))) (cd := arrV ((xG X).2.1 52) (sN S a) (fun j => .int (d.1 a j))) (srcPos := sp) (destPos := dp) (n := n) (by rw [hT]; exact hc0) (by rw [hT]; exact hc1)
    (fun _ h => by cases h) (fun _ h => by cases h) (fun h => by cases h) (fun h => by cases h) hkk0 hkk1 hkd0 hkd1 (by decide) h1 h2 h3
    (by rw [nn sp h1, nn n h3, arrV_size]; omega)
    (by rw [nn dp h2, nn n h3, arrV_size]; omega)
    (fun vm₁ _ i hi => by
      have e : (arrV ((xG X).2.1 52) (sN S a0) (fun j => Value.int (d.1 a0 j))).slots.getD (sp.toNatClampNeg + i) .null = .int (d.1 a0 (sp.toNatClampNeg + i)) := by
        rw [Array.getD_eq_getD_getElem?, arrV_read _ _ (by omega)]
        rfl
      refine ⟨?_, ?_⟩
      · rw [e]
        exact hfit i hi
      · rw [e]
        exact trivial)
    (g := F0 (xm X) pc ls (.int n :: .int dp :: .ref a :: .int sp :: .ref a0 :: st)) rfl hl.1 (rest := st) rfl (by rw [hE.bt]; exact dg) (by rw [hE.fr]; exact hR.1) (by rw [hE.lw]; show 2 * 0 + _ + (7 + 11) ≤ _; omega)
  have e1 : copied (arrV ((xG X).2.1 52) (sN S a0) (fun j => .int (d.1 a0 j))) (arrV ((xG X).2.1 52) (sN S a) (fun j => .int (d.1 a j))) sp dp n = arrV ((xG X).2.1 52) (sN S a) (fun j => .int (va_cpy (d.1 a0) (d.1 a) sp.toNatClampNeg dp.toNatClampNeg n.toNatClampNeg j)) := va_copied (fun z => .int z) _ _ (d.1 a0) (d.1 a) h4
  rw [e1] at X' step
  generalize hY : (arrV ((xG X).2.1 52) (sN S a) (fun j => .int (va_cpy (d.1 a0) (d.1 a) sp.toNatClampNeg dp.toNatClampNeg n.toNatClampNeg j))) = Y at X' step
  have hlt : a < H.size := (Array.getElem?_eq_some_iff.mp hc1).1
  have hheap : ((T.setVm vm').setCell a Y).heap = H.setIfInBounds a Y := by rw [← hT]; rfl
  have oq : ∀ q : Nat, q ≠ a → (H.setIfInBounds a Y)[q]? = H[q]? := fun q hq => by simp [Array.getElem?_setIfInBounds, Ne.symm hq]
  have hza : (xG X).2.2 ≤ a := (hH.2 a (by rw [hk1]; decide)).1
  have hH1 : gH (xG X) S (wcp d a0 a sp dp n) (H.setIfInBounds a Y) := by
    refine hH.upd (by simp) oq (fun _ => rfl) (fun _ => rfl) rfl (fun b hb => gV_wcp hb) (gAt.mkA (by rw [hk1]; decide) ?_)
    rw [gV_byte hk1, hk1, show (H.setIfInBounds a Y)[a]? = some Y by simp [Array.getElem?_setIfInBounds, hlt], ← hY]
    congr 2
    funext j
    show _ = Value.int (va_up d.1 a _ a j)
    rw [va_up_self]
  obtain ⟨t, a1, b1⟩ := kk _ rfl ls (H.setIfInBounds a Y) _ hl hH1 ⟨by simp; exact hS.1, fun q g1 g2 => by
      rw [oq q (fun e => g2 (by rw [e]; exact hza))]
      exact hS.2.1 q g1 g2, fun q hq => by
      rcases List.mem_append.mp hq with h | h
      · exact hS.2.2 q h
      · obtain ⟨z, -, hz⟩ := List.mem_map.mp h
        rw [← hz]
        exact hza⟩ _ hheap X'
  exact ⟨t, step t a1, b1⟩
end GF
