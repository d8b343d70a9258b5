def iL {α : Type} (p : α → Bool) (v : α) : List α → List α
  | [] => [v]
  | y :: l => if p y && !l.any p then y :: v :: l else y :: iL p v l
theorem iL_c {α : Type} {p : α → Bool} {v y : α} {l : List α} : iL p v (y :: l) = if p y && !l.any p then y :: v :: l else y :: iL p v l := rfl
theorem iL_none {α : Type} {p : α → Bool} {v : α} : ∀ {l : List α}, l.any p = false → iL p v l = l ++ [v] := by
  intro l
  induction l with
  | nil => intro _; rfl
  | cons y l ih =>
    intro h
    rw [List.any_cons, Bool.or_eq_false_iff] at h
    unfold iL
    rw [h.1, if_neg (by simp), ih h.2]; rfl
theorem iL_app1 {α : Type} {p : α → Bool} {v : α} {l2 : List α} (h : l2.any p = true) : ∀ l1 : List α, iL p v (l1 ++ l2) = l1 ++ iL p v l2 := by
  intro l1
  induction l1 with
  | nil => rfl
  | cons y l1 ih =>
    show iL p v (y :: (l1 ++ l2)) = y :: (l1 ++ iL p v l2)
    rw [iL_c, if_neg (by rw [List.any_append, h]; simp), ih]
theorem iL_app2 {α : Type} {p : α → Bool} {v : α} {l2 : List α} (h : l2.any p = false) : ∀ l1 : List α, l1.any p = true → iL p v (l1 ++ l2) = iL p v l1 ++ l2 := by
  intro l1
  induction l1 with
  | nil => intro h1; exact absurd h1 (by simp)
  | cons y l1 ih =>
    intro h1
    show iL p v (y :: (l1 ++ l2)) = iL p v (y :: l1) ++ l2
    rw [iL_c, iL_c, List.any_append, h, Bool.or_false]
    by_cases q : (p y && !l1.any p) = true
    · rw [if_pos q, if_pos q]; rfl
    · rw [if_neg q, if_neg q, ih]
      · rfl
      · rw [List.any_cons] at h1
        cases e : l1.any p with
        | true => rfl
        | false => rw [e] at h1 q; simp at h1 q; rw [h1] at q; exact absurd q (by decide)
theorem iL_all {α : Type} {p : α → Bool} {v : α} : ∀ {l : List α}, (∀ y, y ∈ l → p y = true) → iL p v l = l ++ [v] := by
  intro l
  induction l with
  | nil => intro _; rfl
  | cons y l ih =>
    intro h
    unfold iL
    cases l with
    | nil => rw [h y List.mem_cons_self]; rfl
    | cons z l =>
      have hz := h z (List.mem_cons_of_mem _ List.mem_cons_self)
      rw [if_neg (by rw [List.any_cons, hz]; simp), ih (fun w hw => h w (List.mem_cons_of_mem _ hw))]; rfl
theorem iL_map {α β : Type} {p : α → Bool} {q : β → Bool} {v : α} (f : α → β) : ∀ {l : List α}, (∀ y, y ∈ l → q (f y) = p y) → (iL p v l).map f = iL q (f v) (l.map f) := by
  intro l
  induction l with
  | nil => intro _; rfl
  | cons y l ih =>
    intro h
    have hy := h y List.mem_cons_self
    have ha : (l.map f).any q = l.any p := by
      rw [List.any_map]
      have : ∀ l : List α, (∀ y, y ∈ l → q (f y) = p y) → l.any (q ∘ f) = l.any p := by
        intro l
        induction l with
        | nil => intro _; rfl
        | cons y l ih => intro h; rw [List.any_cons, List.any_cons, ih (fun w hw => h w (List.mem_cons_of_mem _ hw)), Function.comp, h y List.mem_cons_self]
      exact this l (fun w hw => h w (List.mem_cons_of_mem _ hw))
    show (iL p v (y :: l)).map f = iL q (f v) (f y :: l.map f)
    rw [iL_c, iL_c, hy, ha]
    by_cases c : (p y && !l.any p) = true
    · rw [if_pos c, if_pos c]; rfl
    · rw [if_neg c, if_neg c, List.map_cons, ih (fun w hw => h w (List.mem_cons_of_mem _ hw))]
theorem any_f {α : Type} {p : α → Bool} {l : List α} (h : ∀ y, y ∈ l → p y = false) : l.any p = false := by
  cases e : l.any p with
  | false => rfl
  | true =>
    obtain ⟨y, hy, hp⟩ := List.any_eq_true.mp e
    rw [h y hy] at hp; exact absurd hp (by decide)
theorem any_t {α : Type} {p : α → Bool} {l : List α} {y : α} (hy : y ∈ l) (h : p y = true) : l.any p = true := List.any_eq_true.mpr ⟨y, hy, h⟩
section
variable {s : Nat → Nat → Nat} {fl : List (Nat × List Nat)}
theorem grpJ_acc {i : Nat} {acc : List Nat} : ∀ k, grpJ s fl i acc k = acc ++ grpJ s fl i [] k := by
  intro k
  induction k with
  | zero => show acc = acc ++ []; rw [List.append_nil]
  | succ k ih =>
    unfold grpJ
    split
    · rw [ih, List.append_assoc]
    · exact ih
theorem sgF_app {e : Nat × List Nat} {i j : Nat} (hi : i < fl.length) (hj : j < fl.length) : sgF s (fl ++ [e]) i j = sgF s fl i j := by
  unfold sgF
  rw [getD_appF, getD_appF, if_neg (by omega), if_neg (by omega)]
theorem isF_app {e : Nat × List Nat} {i : Nat} (hi : i < fl.length) : isF s (fl ++ [e]) i = isF s fl i := by
  unfold isF anyb
  rw [fst_congr (fun j hj => sgF_app hi (by omega))]
theorem grpJ_app {e : Nat × List Nat} {i : Nat} {acc : List Nat} (hi : i < fl.length) : ∀ k, i + k ≤ fl.length → grpJ s (fl ++ [e]) i acc k = grpJ s fl i acc k := by
  intro k
  induction k with
  | zero => intro _; rfl
  | succ k ih =>
    intro hk
    unfold grpJ
    rw [sgF_app hi (by omega), ih (by omega)]
theorem ordK_app {e : Nat × List Nat} : ∀ i, i ≤ fl.length → ordK s (fl ++ [e]) i = if (ordK s fl i).any (fun y => sgF s (fl ++ [e]) fl.length y) then iL (fun y => sgF s (fl ++ [e]) fl.length y) fl.length (ordK s fl i) else ordK s fl i := by
  intro i
  induction i with
  | zero => intro _; rfl
  | succ i ih =>
    intro hi
    have hi' : i < fl.length := by omega
    have ih := ih (by omega)
    unfold ordK
    rw [isF_app hi']
    by_cases hF : isF s fl i = true
    · rw [if_pos hF, if_pos hF]
      have hlen : (fl ++ [e]).length - i = (fl.length - i) + 1 := by rw [List.length_append, List.length_singleton]; omega
      rw [hlen]
      have hg : grpJ s (fl ++ [e]) i (ordK s (fl ++ [e]) i) (fl.length - i + 1) = if sgF s (fl ++ [e]) i fl.length then ordK s (fl ++ [e]) i ++ grpJ s fl i [] (fl.length - i) ++ [fl.length] else ordK s (fl ++ [e]) i ++ grpJ s fl i [] (fl.length - i) := by
        show (if sgF s (fl ++ [e]) i (i + (fl.length - i)) then grpJ s (fl ++ [e]) i (ordK s (fl ++ [e]) i) (fl.length - i) ++ [i + (fl.length - i)] else grpJ s (fl ++ [e]) i (ordK s (fl ++ [e]) i) (fl.length - i)) = _
        rw [grpJ_acc, grpJ_app hi' _ (by omega), show i + (fl.length - i) = fl.length by omega]
      rw [hg, grpJ_acc (fl := fl) (acc := ordK s fl i)]
      have gm : ∀ y, y ∈ grpJ s fl i [] (fl.length - i) → y < fl.length ∧ sgF s fl i y = true := by
        intro y hy
        rcases (grpJ_mem _).mp hy with h | ⟨t, ht, e1, e2⟩
        · exact absurd h List.not_mem_nil
        · exact ⟨by omega, e2⟩
      have om : ∀ y, y ∈ ordK s fl i → y < fl.length ∧ ∃ t, t < i ∧ isF s fl t = true ∧ sgF s fl t y = true := by
        intro y hy
        obtain ⟨h1, t, h2, _, h3, h4⟩ := (ordK_mem i (by omega)).mp hy
        exact ⟨h1, t, h2, h3, h4⟩
      by_cases hs : sgF s (fl ++ [e]) i fl.length = true
      · rw [if_pos hs]
        have hno : (ordK s fl i).any (fun y => sgF s (fl ++ [e]) fl.length y) = false := by
          apply any_f
          intro y hy
          obtain ⟨h1, t, h2, h3, h4⟩ := om y hy
          cases c : sgF s (fl ++ [e]) fl.length y with
          | false => rfl
          | true =>
            have h5 : sgF s (fl ++ [e]) t y = true := by rw [sgF_app (by omega) h1]; exact h4
            have h6 : sgF s (fl ++ [e]) i t = true := sg_tr hs (sg_tr c (sg_sym h5))
            rw [sgF_app hi' (by omega), isF_no hF h2] at h6
            exact absurd h6 (by decide)
        rw [ih, hno, if_neg (by decide)]
        have hall : ∀ y, y ∈ grpJ s fl i [] (fl.length - i) → sgF s (fl ++ [e]) fl.length y = true := by
          intro y hy
          have h1 := gm y hy
          have h2 : sgF s (fl ++ [e]) i y = true := by rw [sgF_app hi' h1.1]; exact h1.2
          exact sg_tr (sg_sym hs) h2
        have hin : i ∈ grpJ s fl i [] (fl.length - i) := (grpJ_mem _).mpr (.inr ⟨0, by omega, rfl, sg_r s _⟩)
        have hany : (grpJ s fl i [] (fl.length - i)).any (fun y => sgF s (fl ++ [e]) fl.length y) = true := any_t hin (hall i hin)
        rw [List.any_append, hany, Bool.or_true, if_pos rfl, iL_app1 hany, iL_all hall, List.append_assoc]
      · rw [if_neg hs]
        have hno : (grpJ s fl i [] (fl.length - i)).any (fun y => sgF s (fl ++ [e]) fl.length y) = false := by
          apply any_f
          intro y hy
          have h1 := gm y hy
          have h2 : sgF s (fl ++ [e]) i y = true := by rw [sgF_app hi' h1.1]; exact h1.2
          cases c : sgF s (fl ++ [e]) fl.length y with
          | false => rfl
          | true => exact absurd (sg_tr h2 (sg_sym c)) hs
        rw [List.any_append, hno, Bool.or_false, ih]
        cases c : (ordK s fl i).any (fun y => sgF s (fl ++ [e]) fl.length y) with
        | false => rw [if_neg (by decide), if_neg (by decide)]
        | true => rw [if_pos rfl, if_pos rfl, iL_app2 hno _ c]
    · rw [if_neg hF, if_neg hF]; exact ih
theorem ord_app {e : Nat × List Nat} : ord s (fl ++ [e]) = iL (fun y => sgF s (fl ++ [e]) fl.length y) fl.length (ord s fl) := by
  have h := ordK_app (s := s) (fl := fl) (e := e) fl.length (Nat.le_refl _)
  have hof := ord_full (s := s) (fl := fl)
  unfold ord
  unfold ord at hof
  rw [List.length_append, List.length_singleton]
  show (if isF s (fl ++ [e]) fl.length then grpJ s (fl ++ [e]) fl.length (ordK s (fl ++ [e]) fl.length) ((fl ++ [e]).length - fl.length) else ordK s (fl ++ [e]) fl.length) = _
  rw [h, show (fl ++ [e]).length - fl.length = 1 by rw [List.length_append, List.length_singleton]; omega]
  cases hF : isF s (fl ++ [e]) fl.length with
  | true =>
    have hno : (ordK s fl fl.length).any (fun y => sgF s (fl ++ [e]) fl.length y) = false := by
      apply any_f
      intro y hy
      exact isF_no hF ((hof.2 y).mp hy)
    rw [hno, if_pos rfl, if_neg (by decide), iL_none hno]
    show (if sgF s (fl ++ [e]) fl.length (fl.length + 0) then ordK s fl fl.length ++ [fl.length + 0] else ordK s fl fl.length) = _
    rw [if_pos (show sgF s (fl ++ [e]) fl.length (fl.length + 0) = true from sg_r s _)]; rfl
  | false =>
    rw [if_neg (by decide), if_pos]
    have : anyb (fun j => sgF s (fl ++ [e]) fl.length j) fl.length = true := by
      unfold isF at hF
      simpa using hF
    obtain ⟨j, hj, hs⟩ := (anyb_iff _ _).mp this
    exact any_t ((hof.2 j).mpr hj) hs
def perm (s : Nat → Nat → Nat) (fl : List (Nat × List Nat)) : List (Nat × List Nat) := (ord s fl).map (fun i => fl.getD i df)
theorem perm_len : (perm s fl).length = fl.length := by
  unfold perm; rw [List.length_map]; exact ord_full.1
theorem perm_at {i : Nat} (hi : i < fl.length) : (perm s fl).getD i df = fl.getD ((ord s fl).getD i 0) df := by
  have hof := ord_full (s := s) (fl := fl)
  unfold perm
  rw [List.getD_eq_getElem?_getD, List.getElem?_map, List.getD_eq_getElem?_getD (l := ord s fl)]
  rw [List.getElem?_eq_getElem (show i < (ord s fl).length by omega)]; rfl
theorem perm_app {e : Nat × List Nat} : perm s (fl ++ [e]) = iL (fun y => sg s e.1 y.1) e (perm s fl) := by
  have hof := ord_full (s := s) (fl := fl)
  unfold perm
  rw [ord_app]
  have h1 : (fl ++ [e]).getD fl.length df = e := by rw [getD_appF, if_pos rfl]
  rw [iL_map (q := fun y => sg s e.1 y.1) (fun i => (fl ++ [e]).getD i df) (fun y _ => by unfold sgF; rw [h1]), h1]
  congr 1
  apply List.map_congr_left
  intro y hy
  rw [getD_appF, if_neg (by have := (hof.2 y).mp hy; omega)]
theorem ord_congr {f2 : List (Nat × List Nat)} (hl : fl.length = f2.length) (h : ∀ i, (fl.getD i df).1 = (f2.getD i df).1) : ord s fl = ord s f2 := by
  have hs : sgF s fl = sgF s f2 := by funext i j; unfold sgF; rw [h i, h j]
  have hF : isF s fl = isF s f2 := by funext i; unfold isF; rw [hs]
  have hg : ∀ i acc k, grpJ s fl i acc k = grpJ s f2 i acc k := by
    intro i acc k
    induction k with
    | zero => rfl
    | succ k ih => unfold grpJ; rw [hs, ih]
  unfold ord
  rw [hl]
  have : ∀ i, ordK s fl i = ordK s f2 i := by
    intro i
    induction i with
    | zero => rfl
    | succ i ih => unfold ordK; rw [hF, hg, ih, hl]
  exact this _
def UQ (s : Nat → Nat → Nat) (fl : List (Nat × List Nat)) : Prop := ∀ i j, i < fl.length → j < fl.length → sgF s fl i j = true → rsF s fl i = rsF s fl j → i = j
noncomputable def tkC (s : Nat → Nat → Nat) (D : List (Nat × List Nat)) (x : Nat) : List (Nat × List Nat) :=
  if fst (hitP s D x) D.length < D.length then D.set (fst (hitP s D x) D.length) ((D.getD (fst (hitP s D x) D.length) df).1, mg s (D.getD (fst (hitP s D x) D.length) df).2 (thr s x)) else iL (fun y => sg s x y.1) (x, thr s x) D
theorem perm_set {j p : Nat} (hp : p < fl.length) (e : (ord s fl).getD p 0 = j) {l : List Nat} : perm s (fl.set j ((fl.getD j df).1, l)) = (perm s fl).set p ((fl.getD j df).1, l) := by
  have hof := ord_full (s := s) (fl := fl)
  have hj : j < fl.length := (hof.2 j).mp (e ▸ getD_mem (by omega))
  have ho : ord s (fl.set j ((fl.getD j df).1, l)) = ord s fl := by
    apply ord_congr
    · rw [List.length_set]
    · intro i
      rw [getD_set hj]
      by_cases q : i = j
      · rw [if_pos q, q]
      · rw [if_neg q]
  unfold perm
  rw [ho]
  apply List.ext_getElem
  · rw [List.length_set, List.length_map, List.length_map]
  · intro i h1 h2
    rw [List.length_map] at h1
    rw [List.getElem_map, List.getElem_set, List.getElem_map, getD_set hj]
    have hgi : (ord s fl)[i] = (ord s fl).getD i 0 := by rw [List.getD_eq_getElem?_getD, List.getElem?_eq_getElem h1]; rfl
    by_cases q : p = i
    · subst q
      rw [if_pos rfl, if_pos (by rw [hgi, e])]
    · rw [if_neg q, if_neg]
      rw [hgi, ← e]
      have hnd : nd (ord s fl) := ordK_nd _ (Nat.le_refl _)
      rcases Nat.lt_or_gt_of_ne q with c | c
      · exact fun e2 => nd_getD hnd p i c h1 e2.symm
      · exact nd_getD hnd i p c (by omega)
theorem perm_tk (u : UQ s fl) (x : Nat) : perm s (tk s fl x) = tkC s (perm s fl) x := by
  have hof := ord_full (s := s) (fl := fl)
  have hD : ∀ i, i < fl.length → hitP s (perm s fl) x i = hitP s fl x ((ord s fl).getD i 0) := by
    intro i hi
    unfold hitP
    rw [perm_at hi]
  unfold tk tkC
  rw [perm_len]
  by_cases q : fst (hitP s fl x) fl.length < fl.length
  · rw [if_pos q]
    have hy := fst_yes _ _ q
    obtain ⟨p2, hp2, e2⟩ := mem_getD ((hof.2 _).mpr q)
    have hp2' : p2 < fl.length := by omega
    have hh := fst_hit (hitP s (perm s fl) x) fl.length p2 hp2' (by rw [hD p2 hp2', e2]; exact hy)
    have hlt : fst (hitP s (perm s fl) x) fl.length < fl.length := by omega
    rw [if_pos hlt]
    have hyD := fst_yes _ _ hlt
    rw [hD _ hlt] at hyD
    have hyl := (hof.2 _).mp (getD_mem (l := ord s fl) (i := fst (hitP s (perm s fl) x) fl.length) (by omega))
    have heq : (ord s fl).getD (fst (hitP s (perm s fl) x) fl.length) 0 = fst (hitP s fl x) fl.length := by
      unfold hitP at hyD hy
      rw [Bool.and_eq_true, decide_eq_true_iff] at hyD hy
      exact u _ _ hyl q (sg_tr hyD.1 (sg_sym hy.1)) (hyD.2.trans hy.2.symm)
    rw [perm_set hlt heq, perm_at hlt, heq]
  · rw [if_neg q]
    have : ¬ fst (hitP s (perm s fl) x) fl.length < fl.length := by
      intro hlt
      have hyD := fst_yes _ _ hlt
      rw [hD _ hlt] at hyD
      have hyl := (hof.2 _).mp (getD_mem (l := ord s fl) (i := fst (hitP s (perm s fl) x) fl.length) (by omega))
      have := fst_hit _ _ _ hyl hyD
      omega
    rw [if_neg this, perm_app]
theorem UQ_app {x : Nat} {l : List Nat} (u : UQ s fl) (n : ¬ fst (hitP s fl x) fl.length < fl.length) : UQ s (fl ++ [(x, l)]) := by
  have no : ∀ i, i < fl.length → ¬ (sg s (fl.getD i df).1 x = true ∧ s 14 (fl.getD i df).1 = s 14 x) := by
    intro i hi hc
    have := fst_hit (hitP s fl x) fl.length i hi (by unfold hitP; rw [hc.1, decide_eq_true hc.2]; rfl)
    omega
  intro i j hi hj h1 h2
  rw [List.length_append, List.length_singleton] at hi hj
  unfold sgF at h1
  unfold rsF at h2
  rw [getD_appF, getD_appF] at h1 h2
  by_cases q1 : i = fl.length
  · by_cases q2 : j = fl.length
    · omega
    · rw [if_pos q1, if_neg q2] at h1 h2
      exact absurd ⟨sg_sym h1, h2.symm⟩ (no j (by omega))
  · by_cases q2 : j = fl.length
    · rw [if_neg q1, if_pos q2] at h1 h2
      exact absurd ⟨h1, h2⟩ (no i (by omega))
    · rw [if_neg q1, if_neg q2] at h1 h2
      exact u i j (by omega) (by omega) h1 h2
theorem UQ_tk (u : UQ s fl) (x : Nat) : UQ s (tk s fl x) := by
  unfold tk
  by_cases q : fst (hitP s fl x) fl.length < fl.length
  · rw [if_pos q]
    intro i j hi hj h1 h2
    rw [List.length_set] at hi hj
    have e : ∀ i, ((fl.set (fst (hitP s fl x) fl.length) ((fl.getD (fst (hitP s fl x) fl.length) df).1, mg s (fl.getD (fst (hitP s fl x) fl.length) df).2 (thr s x))).getD i df).1 = (fl.getD i df).1 := by
      intro i
      rw [getD_set q]
      by_cases c : i = fst (hitP s fl x) fl.length
      · rw [if_pos c, c]
      · rw [if_neg c]
    unfold sgF at h1
    unfold rsF at h2
    rw [e, e] at h1 h2
    exact u i j hi hj h1 h2
  · rw [if_neg q]
    exact UQ_app u q
end
def RT (s : Nat → Nat → Nat) : Prop := s 13 72 = 26 ∧ s 13 73 = 27 ∧ s 13 74 = 28
theorem sg_nm {s : Nat → Nat → Nat} {a c : Nat} (h : sg s a c = true) : s 13 a = s 13 c := by
  unfold sg at h
  rw [Bool.and_eq_true, decide_eq_true_iff] at h
  exact h.1
theorem rts_tk {s : Nat → Nat → Nat} (r : RT s) : ∀ k, k < 3 → rts s (k + 1) = tk s (rts s k) (72 + k) ∧ UQ s (rts s (k + 1)) := by
  have nm : ∀ k, k < 3 → s 13 (72 + k) = 26 + k := by
    intro k hk
    obtain ⟨h1, h2, h3⟩ := r
    match k, hk with
    | 0, _ => exact h1
    | 1, _ => exact h2
    | 2, _ => exact h3
  have at_ : ∀ k i, i < k → ((rts s k).getD i df).1 = 72 + i := by
    intro k
    induction k with
    | zero => intro i hi; omega
    | succ k ih =>
      intro i hi
      unfold rts
      rw [getD_appF, rts_len]
      by_cases q : i = k
      · rw [if_pos q, q]
      · rw [if_neg q]; exact ih i (by omega)
  have no : ∀ k, k < 3 → ¬ fst (hitP s (rts s k) (72 + k)) (rts s k).length < (rts s k).length := by
    intro k hk hlt
    have hy := fst_yes _ _ hlt
    generalize fst (hitP s (rts s k) (72 + k)) (rts s k).length = j at hy hlt
    rw [rts_len] at hlt
    unfold hitP at hy
    rw [Bool.and_eq_true, at_ k j hlt] at hy
    have := sg_nm hy.1
    rw [nm j (by omega), nm k hk] at this
    omega
  have u0 : UQ s (rts s 0) := fun i j hi => absurd hi (Nat.not_lt_zero _)
  have st : ∀ k, k < 3 → UQ s (rts s k) → rts s (k + 1) = tk s (rts s k) (72 + k) ∧ UQ s (rts s (k + 1)) := by
    intro k hk u
    have e : rts s (k + 1) = tk s (rts s k) (72 + k) := by unfold tk; rw [if_neg (no k hk)]; rfl
    exact ⟨e, by rw [e]; exact UQ_tk u _⟩
  intro k hk
  have s0 := st 0 (by omega) u0
  have s1 := st 1 (by omega) s0.2
  have s2 := st 2 (by omega) s1.2
  match k, hk with
  | 0, _ => exact s0
  | 1, _ => exact s1
  | 2, _ => exact s2
theorem UQ_tkL {s : Nat → Nat → Nat} {fl : List (Nat × List Nat)} (u : UQ s fl) (l : List Nat) : ∀ k, UQ s (tkL s fl l k) := by
  intro k
  induction k with
  | zero => exact u
  | succ k ih => exact UQ_tk ih _
theorem UQ_dscK {s : Nat → Nat → Nat} (r : RT s) (x : Int32) : ∀ k, UQ s (dscK s x k) := by
  intro k
  induction k with
  | zero => exact (rts_tk r 2 (by omega)).2
  | succ k ih => exact UQ_tkL ih _ _
