def Ag (s s' : Nat → Nat → Nat) : Prop := (∀ k i, 10 ≤ k → k ≤ 17 → s' k i = s k i) ∧ ∀ t u, 8 ≤ t → t < s 3 0 → 8 ≤ u → u < s 3 0 → bN s' t u = bN s t u
def cs8 (s : Nat → Nat → Nat) (B : List Nat) : Prop := ∀ t, t ∈ B → 8 ≤ t ∧ t < s 3 0
section
variable {s s' : Nat → Nat → Nat}
theorem ag_sg (g : Ag s s') : sg s' = sg s := by
  funext a c
  unfold sg
  rw [g.1 13 a (by omega) (by omega), g.1 13 c (by omega) (by omega), g.1 15 _ (by omega) (by omega), g.1 15 _ (by omega) (by omega), g.1 15 _ (by omega) (by omega), g.1 15 _ (by omega) (by omega), g.1 15 _ (by omega) (by omega), g.1 15 _ (by omega) (by omega)]
theorem ag_hid (g : Ag s s') : hid s' = hid s := by
  funext f x
  unfold hid
  rw [ag_sg g, g.1 12 f (by omega) (by omega)]
theorem ag_own (f : Nat) : ∀ k, own s' f k = own s f k := by
  intro k
  induction k with
  | zero => rfl
  | succ k ih => unfold own; rw [ih]
theorem ag_inhL (g : Ag s s') (f : Nat) (acc l : List Nat) : ∀ k, inhL s' f acc l k = inhL s f acc l k := by
  intro k
  induction k with
  | zero => rfl
  | succ k ih => unfold inhL inh1; rw [ih, ag_hid g]
theorem ag_inh (g : Ag s s') (f : Nat) (T : Nat → List Nat) : ∀ p, inh s' f T p = inh s f T p := by
  intro p
  induction p with
  | zero => unfold inh; rw [ag_own, g.1 12 f (by omega) (by omega)]
  | succ p ih => unfold inh; rw [ih, g.1 10 _ (by omega) (by omega), ag_inhL g]
theorem ag_tab (g : Ag s s') : ∀ n f, tab s' n f = tab s n f := by
  intro n
  induction n with
  | zero => intro f; rfl
  | succ n ih =>
    intro f
    unfold tab
    rw [show tab s' n = tab s n from funext ih, ag_inh g, g.1 11 n (by omega) (by omega)]
theorem ag_lst (g : Ag s s') (f : Nat) : lst s' f = lst s f := ag_tab g _ _
theorem ag_thr (g : Ag s s') (x : Nat) : thr s' x = thr s x := by
  have : ∀ k, thrK s' x k = thrK s x k := by
    intro k
    induction k with
    | zero => rfl
    | succ k ih => unfold thrK; rw [ih, g.1 17 _ (by omega) (by omega)]
  unfold thr
  rw [this, g.1 16 x (by omega) (by omega)]
theorem cs8_thr (b : BI s) (x : Nat) : cs8 s (thr s x) := by
  intro t ht
  obtain ⟨i, hi, e⟩ := thrK_mem ht
  have := b.throwT x i hi
  rw [e]; exact this
theorem cs8_at {B : List Nat} (h : cs8 s B) {i : Nat} (hi : i < B.length) : 8 ≤ B.getD i 0 ∧ B.getD i 0 < s 3 0 := h _ (getD_mem hi)
theorem ag_bo (g : Ag s s') {t : Nat} (h1 : 8 ≤ t) (h2 : t < s 3 0) {l : List Nat} (hl : cs8 s l) : bo s' t l = bo s t l := by
  unfold bo anyb
  rw [fst_congr (fun j hj => g.2 t _ h1 h2 (cs8_at hl hj).1 (cs8_at hl hj).2)]
theorem ag_mg (g : Ag s s') {B T : List Nat} (hB : cs8 s B) (hT : cs8 s T) : mg s' B T = mg s B T := by
  have h1 : ∀ k, k ≤ B.length → flK s' B T k = flK s B T k := by
    intro k
    induction k with
    | zero => intro _; rfl
    | succ k ih =>
      intro hk
      have := cs8_at hB (show k < B.length by omega)
      unfold flK
      rw [ih (by omega), ag_bo g this.1 this.2 hT]
  have h2 : ∀ acc k, k ≤ T.length → mgK s' B T acc k = mgK s B T acc k := by
    intro acc k
    induction k with
    | zero => intro _; rfl
    | succ k ih =>
      intro hk
      have := cs8_at hT (show k < T.length by omega)
      unfold mgK
      rw [ih (by omega), ag_bo g this.1 this.2 hB]
  unfold mg
  rw [h1 _ (Nat.le_refl _), h2 _ _ (Nat.le_refl _)]
theorem cs8_mg {B T : List Nat} (hB : cs8 s B) (hT : cs8 s T) : cs8 s (mg s B T) := by
  have h2 : ∀ acc, cs8 s acc → ∀ k, k ≤ T.length → cs8 s (mgK s B T acc k) := by
    intro acc ha k
    induction k with
    | zero => intro _; exact ha
    | succ k ih =>
      intro hk
      unfold mgK
      split
      · intro t ht
        rcases List.mem_append.mp ht with q | q
        · exact ih (by omega) t q
        · rw [List.mem_singleton.mp q]; exact cs8_at hT (by omega)
      · exact ih (by omega)
  unfold mg
  refine h2 _ ?_ _ (Nat.le_refl _)
  intro t ht
  obtain ⟨i, hi, e⟩ := flK_mem _ ht
  rw [e]; exact cs8_at hB hi
def c8F (s : Nat → Nat → Nat) (fl : List (Nat × List Nat)) : Prop := ∀ i, i < fl.length → cs8 s (fl.getD i df).2
theorem ag_tk (g : Ag s s') (b : BI s) {fl : List (Nat × List Nat)} (h : c8F s fl) (x : Nat) : tk s' fl x = tk s fl x ∧ c8F s (tk s fl x) := by
  have hh : hitP s' fl x = hitP s fl x := by
    funext i
    unfold hitP
    rw [ag_sg g, g.1 14 _ (by omega) (by omega), g.1 14 _ (by omega) (by omega)]
  unfold tk
  rw [hh, ag_thr g]
  by_cases q : fst (hitP s fl x) fl.length < fl.length
  · rw [if_pos q, if_pos q, ag_mg g (h _ q) (cs8_thr b x)]
    refine ⟨rfl, fun i hi => ?_⟩
    rw [List.length_set] at hi
    rw [getD_set q]
    split
    · exact cs8_mg (h _ q) (cs8_thr b x)
    · exact h i hi
  · rw [if_neg q, if_neg q]
    refine ⟨rfl, fun i hi => ?_⟩
    rw [List.length_append, List.length_singleton] at hi
    rw [getD_appF]
    split
    · exact cs8_thr b x
    · exact h i (by omega)
theorem ag_tkL (g : Ag s s') (b : BI s) {fl : List (Nat × List Nat)} (h : c8F s fl) (l : List Nat) : ∀ k, tkL s' fl l k = tkL s fl l k ∧ c8F s (tkL s fl l k) := by
  intro k
  induction k with
  | zero => exact ⟨rfl, h⟩
  | succ k ih =>
    unfold tkL
    rw [ih.1]
    exact ag_tk g b ih.2 _
theorem ag_rts (g : Ag s s') (b : BI s) : ∀ k, rts s' k = rts s k ∧ c8F s (rts s k) := by
  intro k
  induction k with
  | zero => exact ⟨rfl, fun i hi => absurd hi (Nat.not_lt_zero _)⟩
  | succ k ih =>
    unfold rts
    rw [ih.1, ag_thr g]
    refine ⟨rfl, fun i hi => ?_⟩
    rw [List.length_append, List.length_singleton] at hi
    rw [getD_appF]
    split
    · exact cs8_thr b _
    · exact ih.2 i (by omega)
theorem ag_dscK (g : Ag s s') (b : BI s) (v : Int32) : ∀ k, dscK s' v k = dscK s v k ∧ c8F s (dscK s v k) := by
  intro k
  induction k with
  | zero => exact ag_rts g b 3
  | succ k ih =>
    unfold dscK
    rw [ih.1, ag_lst g]
    exact ag_tkL g b ih.2 _ _
theorem ag_dsc (g : Ag s s') (b : BI s) (v : Int32) : dsc s' v = dsc s v ∧ c8F s (dsc s v) := ag_dscK g b v _
theorem ag_ord (g : Ag s s') (fl : List (Nat × List Nat)) : ord s' fl = ord s fl := by
  have hs : sgF s' fl = sgF s fl := by funext i j; unfold sgF; rw [ag_sg g]
  have hF : isF s' fl = isF s fl := by funext i; unfold isF; rw [hs]
  have hg : ∀ i acc k, grpJ s' fl i acc k = grpJ s fl i acc k := by
    intro i acc k
    induction k with
    | zero => rfl
    | succ k ih => unfold grpJ; rw [hs, ih]
  unfold ord
  have : ∀ i, ordK s' fl i = ordK s fl i := by
    intro i
    induction i with
    | zero => rfl
    | succ i ih => unfold ordK; rw [hF, hg, ih]
  exact this _
theorem ag_perm (g : Ag s s') (fl : List (Nat × List Nat)) : perm s' fl = perm s fl := by unfold perm; rw [ag_ord g]
theorem ag_ct (g : Ag s s') (b : BI s) {B : List Nat} (hB : cs8 s B) : ct s' B = ct s B := by
  have hc := b.classes
  have h8 : cs8 s [9, 10] := by
    intro t ht
    simp only [List.mem_cons, List.not_mem_nil, or_false] at ht
    omega
  have dp : ∀ acc t, cs8 s acc → 8 ≤ t → t < s 3 0 → ∀ k, k ≤ acc.length → dpK s' acc t k = dpK s acc t k ∧ cs8 s (dpK s acc t k) := by
    intro acc t ha t1 t2 k
    induction k with
    | zero => intro _; exact ⟨rfl, fun t ht => absurd ht List.not_mem_nil⟩
    | succ k ih =>
      intro hk
      have i := ih (by omega)
      have q := cs8_at ha (show k < acc.length by omega)
      unfold dpK
      rw [g.2 _ _ q.1 q.2 t1 t2, i.1]
      refine ⟨rfl, ?_⟩
      split
      · exact i.2
      · intro u hu
        rcases List.mem_append.mp hu with w | w
        · exact i.2 u w
        · rw [List.mem_singleton.mp w]; exact q
  have key : ∀ k, k ≤ B.length → ctK s' B k = ctK s B k ∧ cs8 s (ctK s B k) := by
    intro k
    induction k with
    | zero => intro _; exact ⟨rfl, h8⟩
    | succ k ih =>
      intro hk
      have i := ih (by omega)
      have q := cs8_at hB (show k < B.length by omega)
      have d := dp _ _ i.2 q.1 q.2 _ (Nat.le_refl _)
      unfold ctK ct1
      rw [i.1, g.2 _ 8 q.1 q.2 (by omega) (by omega), ag_bo g q.1 q.2 i.2, d.1]
      refine ⟨rfl, ?_⟩
      split
      · exact i.2
      · intro u hu
        rcases List.mem_append.mp hu with w | w
        · exact d.2 u w
        · rw [List.mem_singleton.mp w]; exact q
  unfold ct
  rw [(key _ (Nat.le_refl _)).1]
theorem ag_mT (g : Ag s s') (y : Nat) (B c : List Nat) : mT s' y B c = mT s y B c := by
  have h13 := g.1 13 y (by omega) (by omega)
  have h14 := g.1 14 y (by omega) (by omega)
  have h15 := fun i => g.1 15 i (by omega) (by omega)
  have htc : tc s' y = tc s y := by unfold tc; simp only [h15]
  have htk : ∀ k, tkT s' y k = tkT s y k := by
    intro k
    induction k with
    | zero => rfl
    | succ k ih => unfold tkT; rw [ih, h15]
  have hpl : ∀ k, plc s' y k = plc s y k := by
    intro k
    induction k with
    | zero => rfl
    | succ k ih => unfold plc; rw [ih, h15]
  have hpr : ∀ k, prm s' y k = prm s y k := by
    intro k
    induction k with
    | zero => rfl
    | succ k ih => unfold prm prm1; rw [ih, h15, hpl]
  have hcd : cdT s' y c = cdT s y c := by unfold cdT cod hdT; rw [htc, hpr, h14]
  unfold mT
  rw [h13, h14, htc, htk, hcd]
theorem ag_uT (g : Ag s s') (b : BI s) {c : Nat} (h3 : s' 23 c = s 23 c) (h4 : s' 24 c = s 24 c) (h5 : s' 25 c = s 25 c) : uT s' c = uT s c := by
  have hd := ag_dsc g b (nI (s 23 c))
  have hm : ∀ k, k ≤ (dsc s (nI (s 23 c))).length → msT s' (dsc s (nI (s 23 c))) (ord s (dsc s (nI (s 23 c)))) k = msT s (dsc s (nI (s 23 c))) (ord s (dsc s (nI (s 23 c)))) k := by
    intro k
    induction k with
    | zero => intro _; rfl
    | succ k ih =>
      intro hk
      have hof := ord_full (s := s) (fl := dsc s (nI (s 23 c)))
      have hj := (hof.2 _).mp (getD_mem (l := ord s (dsc s (nI (s 23 c)))) (i := k) (by omega))
      unfold msT mTF
      rw [ih (by omega), ag_mT g, ag_ct g b (hd.2 _ hj)]
  unfold uT
  rw [h3, h4, h5, hd.1, ag_ord g, hm _ (Nat.le_refl _)]
end
theorem ag_same {s s' : Nat → Nat → Nat} (h : ∀ k i, k ≠ 1 → k ≠ 2 → k < 18 → s' k i = s k i) : Ag s s' := by
  refine ⟨fun k i h1 h2 => h k i (by omega) (by omega) (by omega), fun t u _ _ _ _ => ?_⟩
  have e3 : s' 3 0 = s 3 0 := h 3 0 (by omega) (by omega) (by omega)
  have e5 : s' 5 0 = s 5 0 := h 5 0 (by omega) (by omega) (by omega)
  have hFE : FE s' = FE s := by
    funext f g
    unfold FE
    rw [h 11 f (by omega) (by omega) (by omega)]
    simp only [fun p => h 10 (2 * f + p) (by omega) (by omega) (by omega)]
  have hTE : TE s' = TE s := by
    funext a c
    unfold TE
    rw [e3, e5, hFE, h 4 a (by omega) (by omega) (by omega)]
  have hty : ty s' = ty s := by funext a; unfold ty; rw [e3, e5]
  unfold bN bw Bel
  rw [hTE, hty]
theorem ag_type {s : Nat → Nat → Nat} (b : BI s) {j : Nat} (hj : 7 ≤ j ∧ j < s 3 0) (h4 : s 3 0 ≠ 24) : Ag s (sTy s j) := by
  have b' := bi_type b hj h4
  have hc := b.classes
  have hc' := b'.classes
  have e : ∀ k i, k ≠ 3 → k ≠ 4 → sTy s j k i = s k i := by
    intro k i h1 h2
    unfold sTy
    rw [up2_ne h1, up2_ne h2]
  have e4 : ∀ i, i ≠ s 3 0 → sTy s j 4 i = s 4 i := by
    intro i hi
    unfold sTy
    rw [up2_ne (by omega), up2_nk hi]
  have e3 : sTy s j 3 0 = s 3 0 + 1 := by unfold sTy; rw [up2_eq]
  refine ⟨fun k i h1 h2 => e k i (by omega) (by omega), fun t u t1 t2 u1 u2 => ?_⟩
  unfold bN
  rw [bw_nI b' (by omega) (by omega), bw_nI b (by omega) (by omega)]
  apply pb_congr
  have hf : ∀ n a, a < n → (a = 7 ∨ (8 ≤ a ∧ a < s 3 0)) → (Rch (TE (sTy s j)) a u ↔ Rch (TE s) a u) := by
    intro n
    induction n with
    | zero => intro a h; omega
    | succ n ih =>
      intro a han ha
      constructor
      · intro r
        rcases Rch_c r with q | ⟨c, hc1, hc2⟩
        · rw [q]; exact Rch_r _ _
        · have hlt := te_lt b' hc1
          rcases hc1 with q | q | q
          · have h48 : 8 ≤ a ∧ a < s 3 0 := by omega
            have ec : c = s 4 a := by rw [q.2.2, e4 a (by omega)]
            have := b.parentC a h48.1 h48.2
            exact Rch_s (.inl ⟨h48.1, h48.2, ec⟩) ((ih c (by omega) (by omega)).mp hc2)
          · omega
          · omega
      · intro r
        rcases Rch_c r with q | ⟨c, hc1, hc2⟩
        · rw [q]; exact Rch_r _ _
        · have hlt := te_lt b hc1
          rcases hc1 with q | q | q
          · have := b.parentC a q.1 q.2.1
            exact Rch_s (.inl ⟨q.1, by rw [e3]; omega, by rw [e4 a (by omega)]; exact q.2.2⟩) ((ih c (by omega) (by omega)).mpr hc2)
          · omega
          · omega
  unfold Bel
  have h1 := hf (t + 1) t (by omega) (.inr ⟨t1, t2⟩)
  have h2 : ty (sTy s j) t ↔ ty s t := by
    constructor
    · intro _; exact .inr (.inl ⟨t1, t2⟩)
    · intro _; exact .inr (.inl ⟨t1, by rw [e3]; omega⟩)
  rw [h1, h2]
theorem ag_face {s : Nat → Nat → Nat} (b : BI s) {l nm pk o : Nat} (hl : l < s 1 0) (hn : nm < 26) (hp : pk < 4) (ho : o ≤ 1) (h12 : s 5 0 ≠ 12) : Ag s (sFa s l nm pk o) := by
  have b' := bi_face b hl hn hp ho h12
  have hc := b.classes
  have e : ∀ k i, k < 5 ∨ 9 < k → sFa s l nm pk o k i = s k i := by
    intro k i h1
    unfold sFa
    rw [up2_ne (by omega), up2_ne (by omega), up2_ne (by omega), up2_ne (by omega), up2_ne (by omega)]
  have e3 := e 3 0 (.inl (by omega))
  refine ⟨fun k i h1 h2 => e k i (.inr (by omega)), fun t u t1 t2 u1 u2 => ?_⟩
  unfold bN
  rw [bw_nI b' (by omega) (by omega), bw_nI b (by omega) (by omega)]
  apply pb_congr
  have hf : ∀ n a, a < n → (a = 7 ∨ (8 ≤ a ∧ a < s 3 0)) → (Rch (TE (sFa s l nm pk o)) a u ↔ Rch (TE s) a u) := by
    intro n
    induction n with
    | zero => intro a h; omega
    | succ n ih =>
      intro a han ha
      constructor
      · intro r
        rcases Rch_c r with q | ⟨c, hc1, hc2⟩
        · rw [q]; exact Rch_r _ _
        · have hlt := te_lt b' hc1
          rcases hc1 with q | q | q
          · rw [e3, e 4 a (.inl (by omega))] at q
            have := b.parentC a q.1 q.2.1
            exact Rch_s (.inl q) ((ih c (by omega) (by omega)).mp hc2)
          · omega
          · omega
      · intro r
        rcases Rch_c r with q | ⟨c, hc1, hc2⟩
        · rw [q]; exact Rch_r _ _
        · have hlt := te_lt b hc1
          rcases hc1 with q | q | q
          · have := b.parentC a q.1 q.2.1
            exact Rch_s (.inl ⟨q.1, by rw [e3]; exact q.2.1, by rw [e 4 a (.inl (by omega))]; exact q.2.2⟩) ((ih c (by omega) (by omega)).mpr hc2)
          · omega
          · omega
  unfold Bel
  have h1 := hf (t + 1) t (by omega) (.inr ⟨t1, t2⟩)
  have h2 : ty (sFa s l nm pk o) t ↔ ty s t := by
    constructor
    · intro _; exact .inr (.inl ⟨t1, t2⟩)
    · intro _; exact .inr (.inl ⟨t1, by rw [e3]; exact t2⟩)
  rw [h1, h2]
