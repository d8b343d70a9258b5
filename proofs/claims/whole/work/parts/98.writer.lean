theorem itr_fq {α : Type} {B : α → α} {z : α} (ap : Nat → α → Prop) (p : Nat → Bool) (n : Nat) (hn : n < 6000) (hs : ∀ k, k < n → p k = false → ∀ K : α, ap (k + 1) K → ap k (B K)) (hh : ∀ k, k < n → p k = true → fst p n = k → ∀ K : α, ap k (B K)) (he : fst p n = n → ∀ K : α, ap n (B K)) : ap 0 (itr B z fu) :=
  of_eq_true (itr_f ap p n True hn (fun k hk hp K hK => eq_true (hs k hk hp K (of_eq_true hK))) (fun k hk hp e K => eq_true (hh k hk hp e K)) (fun e K => eq_true (he e K)))
def te : Nat × Nat × Nat := (0, 0, 0)
def eHit (p : List (Nat × Nat × Nat)) (k : Nat × Nat × Nat) (i : Nat) : Bool := decide (p.getD i te = k)
def eIx (p : List (Nat × Nat × Nat)) (k : Nat × Nat × Nat) : Nat := fst (eHit p k) p.length
def ePl (p : List (Nat × Nat × Nat)) (k : Nat × Nat × Nat) : List (Nat × Nat × Nat) := if eIx p k < p.length then p else p ++ [k]
def run1 (w : List (Nat × Nat × Nat) × List Nat) (k : Nat × Nat × Nat) : List (Nat × Nat × Nat) × List Nat := if k.1 = 0 then (w.1, w.2 ++ [k.2.1]) else (ePl w.1 k, w.2 ++ [eIx w.1 k])
def run (w : List (Nat × Nat × Nat) × List Nat) (l : List (Nat × Nat × Nat)) : List (Nat × Nat × Nat) × List Nat := l.foldl run1 w
theorem run_app (w : List (Nat × Nat × Nat) × List Nat) (l r : List (Nat × Nat × Nat)) : run w (l ++ r) = run (run w l) r := List.foldl_append ..
theorem run_cons (w : List (Nat × Nat × Nat) × List Nat) (k : Nat × Nat × Nat) (l : List (Nat × Nat × Nat)) : run w (k :: l) = run (run1 w k) l := rfl
theorem run_nil (w : List (Nat × Nat × Nat) × List Nat) : run w [] = w := rfl
theorem run1_len (w : List (Nat × Nat × Nat) × List Nat) (k : Nat × Nat × Nat) : (run1 w k).2.length = w.2.length + 1 := by
  unfold run1
  split <;> exact List.length_append
theorem run_len (l : List (Nat × Nat × Nat)) : ∀ w, (run w l).2.length = w.2.length + l.length := by
  induction l with
  | nil => intro w; rfl
  | cons k l ih => intro w; rw [run_cons, ih, run1_len, List.length_cons]; omega
def ve (k : Nat × Nat × Nat) : Prop := (k.1 = 1 ∧ k.2.1 < 47 ∧ k.2.2 = 0) ∨ (k.1 = 2 ∧ ((k.2.1 = 7 ∧ k.2.2 < 3) ∨ (24 ≤ k.2.1 ∧ k.2.1 < 36 ∧ k.2.2 < 6))) ∨ (k.1 = 3 ∧ k.2.1 < 29 ∧ k.2.2 = 0)
def enc (k : Nat × Nat × Nat) : Nat := if k.1 = 1 then k.2.1 else if k.1 = 2 then (if k.2.1 = 7 then 119 + k.2.2 else 47 + 6 * (k.2.1 - 24) + k.2.2) else 122 + k.2.1
theorem enc_lt {k : Nat × Nat × Nat} (h : ve k) : enc k < 151 := by
  unfold enc
  rcases h with h | h | h
  · rw [if_pos h.1]; omega
  · rw [if_neg (by omega), if_pos h.1]; split <;> omega
  · rw [if_neg (by omega), if_neg (by omega)]; omega
theorem enc_inj {k l : Nat × Nat × Nat} (h : ve k) (g : ve l) (e : enc k = enc l) : k = l := by
  obtain ⟨k1, k2, k3⟩ := k
  obtain ⟨l1, l2, l3⟩ := l
  unfold ve at h g
  unfold enc at e
  simp only at h g e
  rcases h with h | h | h <;> rcases g with g | g | g <;> obtain ⟨rfl, h⟩ := h <;> obtain ⟨rfl, g⟩ := g <;> simp only [if_true, if_false, show ¬ (2 = 1) by decide, show ¬ (3 = 1) by decide, show ¬ (3 = 2) by decide] at e
  · rw [e, h.2, g.2]
  · split at e <;> omega
  · omega
  · split at e <;> omega
  · have : k2 = l2 ∧ k3 = l3 := by split at e <;> split at e <;> omega
    rw [this.1, this.2]
  · split at e <;> omega
  · omega
  · split at e <;> omega
  · have : k2 = l2 := by omega
    rw [this, h.2, g.2]
def GP (p : List (Nat × Nat × Nat)) : Prop := (∀ k, k ∈ p → ve k) ∧ nd (p.map enc)
theorem GP_len {p : List (Nat × Nat × Nat)} (h : GP p) : p.length ≤ 151 := by
  have := nd_len 151 (p.map enc) h.2 (fun x hx => by
    obtain ⟨k, hk, e⟩ := List.mem_map.mp hx
    rw [← e]; exact enc_lt (h.1 k hk))
  rwa [List.length_map] at this
theorem getT_app {l : List (Nat × Nat × Nat)} {v : Nat × Nat × Nat} {i : Nat} : (l ++ [v]).getD i te = if i = l.length then v else l.getD i te := by
  rw [List.getD_eq_getElem?_getD, List.getD_eq_getElem?_getD, List.getElem?_append]
  by_cases h : i < l.length
  · rw [if_pos h, if_neg (by omega)]
  · rw [if_neg h]
    by_cases e : i = l.length
    · rw [if_pos e, e, Nat.sub_self]; rfl
    · rw [if_neg e, List.getElem?_eq_none (by simp; omega), List.getElem?_eq_none (by omega)]
theorem getT_mem {l : List (Nat × Nat × Nat)} {i : Nat} (h : i < l.length) : l.getD i te ∈ l := by
  rw [List.getD_eq_getElem?_getD, List.getElem?_eq_getElem h]
  exact List.getElem_mem h
theorem mem_getT {l : List (Nat × Nat × Nat)} {x : Nat × Nat × Nat} (h : x ∈ l) : ∃ i, i < l.length ∧ l.getD i te = x := by
  obtain ⟨i, hi, e⟩ := List.mem_iff_getElem.mp h
  refine ⟨i, hi, ?_⟩
  rw [List.getD_eq_getElem?_getD, List.getElem?_eq_getElem hi]
  exact e
theorem GP_ePl {p : List (Nat × Nat × Nat)} (h : GP p) {k : Nat × Nat × Nat} (hk : ve k) : GP (ePl p k) := by
  unfold ePl
  by_cases q : eIx p k < p.length
  · rw [if_pos q]; exact h
  · rw [if_neg q]
    refine ⟨fun y hy => ?_, ?_⟩
    · rw [List.mem_append, List.mem_singleton] at hy
      rcases hy with hy | hy
      · exact h.1 y hy
      · rw [hy]; exact hk
    · rw [List.map_append]
      refine nd_app h.2 (fun w => q ?_)
      obtain ⟨y, hy, e⟩ := List.mem_map.mp w
      have := enc_inj (h.1 y hy) hk e
      obtain ⟨i, hi, e2⟩ := mem_getT hy
      have := fst_hit (eHit p k) p.length i hi (decide_eq_true (e2.trans this))
      unfold eIx
      omega
def vt (k : Nat × Nat × Nat) : Prop := k.1 = 0 ∨ ve k
theorem GP_run1 {w : List (Nat × Nat × Nat) × List Nat} (h : GP w.1) {k : Nat × Nat × Nat} (hk : vt k) : GP (run1 w k).1 := by
  unfold run1
  by_cases q : k.1 = 0
  · rw [if_pos q]; exact h
  · rw [if_neg q]; exact GP_ePl h (hk.resolve_left q)
theorem GP_run {l : List (Nat × Nat × Nat)} (hl : ∀ k, k ∈ l → vt k) : ∀ {w : List (Nat × Nat × Nat) × List Nat}, GP w.1 → GP (run w l).1 := by
  induction l with
  | nil => intro w h; exact h
  | cons k l ih =>
    intro w h
    exact ih (fun y hy => hl y (List.mem_cons_of_mem _ hy)) (GP_run1 h (hl k (List.mem_cons_self ..)))
def PR (d : gD) (a : Nat) (p : List (Nat × Nat × Nat)) : Prop := ∀ i, i < p.length → dI d a (3 * i) = nI (p.getD i te).1 ∧ dI d a (3 * i + 1) = nI (p.getD i te).2.1 ∧ dI d a (3 * i + 2) = nI (p.getD i te).2.2
def WR (d : gD) (m : Nat) (w : List (Nat × Nat × Nat) × List Nat) : Prop := dI d m 40 = nI w.2.length ∧ Row d (m + 31) 0 w.2 ∧ dI d m 42 = nI w.1.length ∧ PR d (m + 32) w.1
def PW (m : Nat) (a j : Nat) : Prop := (a = m ∧ (j = 40 ∨ j = 42)) ∨ a = m + 31 ∨ a = m + 32
section ref
variable {S : gS} {d : gD} {m : Nat} {s : Nat → Nat → Nat}
theorem ri_PW {e : gD} (h : RI S d m s) (g : Ch (PW m) d e) : RI S e m s := ri_ch h g (fun a j p => by unfold PW at p; omega)
theorem fr_PW {e : gD} {fl : List (Nat × List Nat)} (hf : FR d m fl) (g : Ch (PW m) d e) : FR e m fl := fr_ch hf g (fun a j p => by unfold PW at p; omega)
theorem pr_ch {P : Nat → Nat → Prop} {e : gD} {a : Nat} {p : List (Nat × Nat × Nat)} (h : PR d a p) (g : Ch P d e) (n : ∀ j, j < 3 * p.length → ¬ P a j) : PR e a p := fun i hi => ⟨(g.2 _ _ (n _ (by omega))).trans (h i hi).1, (g.2 _ _ (n _ (by omega))).trans (h i hi).2.1, (g.2 _ _ (n _ (by omega))).trans (h i hi).2.2⟩
theorem r_say (h : RI S d m s) {w : List (Nat × Nat × Nat) × List Nat} (hw : WR d m w) (hl : w.2.length < 3600) (v : Nat) : ∃ e, f_R_say S d m (nI v) = some ((), e) ∧ Ch (PW m) d e ∧ WR e m (run1 w (0, v, 0)) := by
  have q1 : dI (wI d (m + 31) w.2.length (nI v)) m 40 = nI w.2.length := by rw [dI_wI, if_neg (by omega)]; exact hw.1
  simp (maxSteps := 1000000) (disch := omega) only [f_R_say, kd_t h.rs.1, rs_P39 h.rs, kd_t (rs_K39 h.rs), rs_N39 h.rs, l1_m, l1_a, l1_b, l1_s, l1_e, l1_le, l1_ge, l1_lt, l1_gt, lt_t, nn_t, bd_t, bdD_t, bdP_t, nI_clamp, gi_n, nI_add, nI_1, pk_mul, b2_eq0, b2_01, nb_t, if_true, if_false, ni_le, ni_eq, ni_lt, hw.1, q1]
  have c1 : Ch (fun a j => a = m ∧ j = 40) (wI d (m + 31) w.2.length (nI v)) (wI (wI d (m + 31) w.2.length (nI v)) m 40 (nI (w.2.length + 1))) := ch_w ⟨rfl, rfl⟩
  have c2 : Ch (fun a j => (a = m ∧ j = 40) ∨ a = m + 31) d (wI (wI d (m + 31) w.2.length (nI v)) m 40 (nI (w.2.length + 1))) := ch_s (ch_w (.inr rfl)) (.inl ⟨rfl, rfl⟩)
  refine ⟨_, rfl, ch_m c2 (fun a j p => by unfold PW; omega), ?_, ?_, ?_, ?_⟩
  · rw [dI_wI, if_pos ⟨rfl, rfl⟩]; show _ = nI (w.2 ++ [v]).length; rw [List.length_append]; rfl
  · exact row_ch (row_w0 hw.2.1 (by omega) rfl) c1 (fun i hi => by omega)
  · exact (c2.2 _ _ (by omega)).trans hw.2.2.1
  · exact pr_ch hw.2.2.2 c2 (fun j _ => by omega)
theorem q_say (h : RI S d m s) {w : List (Nat × Nat × Nat) × List Nat} (hw : WR d m w) (hl : w.2.length < 3600) {v : Nat} {x : Int32} (hx : x = nI v) {β : Type} (Q : Option β → Prop) {k : Unit → gD → Option β} (hk : ∀ e, Ch (PW m) d e → RI S e m s → WR e m (run1 w (0, v, 0)) → Q (k () e)) : Q (bdD (f_R_say S d m x) k) := by
  obtain ⟨e, e1, e2, e3⟩ := r_say h hw hl v
  rw [hx, e1, bdD_t]
  exact hk e e2 (ri_PW h e2) e3
theorem r_entry (h : RI S d m s) {w : List (Nat × Nat × Nat) × List Nat} (hw : WR d m w) (hp : GP w.1) {t a c : Nat} (hv : ve (t, a, c)) : ∃ e, f_R_entry S d m (nI t) (nI a) (nI c) = some (nI (eIx w.1 (t, a, c)), e) ∧ Ch (PW m) d e ∧ WR e m (ePl w.1 (t, a, c), w.2) := by
  have hl := GP_len hp
  have hb : t < 2 ^ 31 ∧ a < 2 ^ 31 ∧ c < 2 ^ 31 := by unfold ve at hv; simp only at hv; omega
  have hb2 : ∀ i, i < w.1.length → (w.1.getD i te).1 < 2 ^ 31 ∧ (w.1.getD i te).2.1 < 2 ^ 31 ∧ (w.1.getD i te).2.2 < 2 ^ 31 := by
    intro i hi
    have := hp.1 _ (getT_mem hi)
    unfold ve at this
    omega
  unfold f_R_entry
  refine itr_fq (B := f_R_entry_B3 S m (f_R_entry_J64 S m)) (fun k K => ∃ e, K d (nI t) (nI a) (nI c) (nI k) = some (nI (eIx w.1 (t, a, c)), e) ∧ Ch (PW m) d e ∧ WR e m (ePl w.1 (t, a, c), w.2)) (eHit w.1 (t, a, c)) w.1.length (by omega) ?_ ?_ ?_
  · intro k hk hp2 K hK
    have o := hw.2.2.2 k hk
    have ob := hb2 k hk
    simp (maxSteps := 1000000) (disch := omega) only [f_R_entry_B3, f_R_entry_J58, kd_t h.rs.1, rs_P41 h.rs, kd_t (rs_K41 h.rs), rs_N41 h.rs, l1_m, l1_a, l1_b, l1_s, l1_e, l1_le, l1_ge, l1_lt, l1_gt, l2_m, l2_a, l2_b, l2_s, l2_e, l2_le, l2_ge, l2_lt, l2_gt, l3_m, l3_a, l3_b, l3_s, l3_e, l3_le, l3_ge, l3_lt, l3_gt, lt_t, nn_t, bd_t, bdD_t, bdP_t, nI_clamp, gi_n, nI_add, nI_1, pk_mul, b2_eq0, b2_01, nb_t, if_true, if_false, ni_le, ni_eq, ni_lt, hw.2.2.1, o.1, o.2.1, o.2.2]
    rw [if_neg (by omega)]
    have hne := of_decide_eq_false hp2
    by_cases q1 : (w.1.getD k te).1 = t
    · rw [if_pos q1]
      by_cases q2 : (w.1.getD k te).2.1 = a
      · rw [if_pos q2]
        by_cases q3 : (w.1.getD k te).2.2 = c
        · exact absurd (Prod.ext q1 (Prod.ext q2 q3)) hne
        · rw [if_neg q3]; exact hK
      · rw [if_neg q2]; exact hK
    · rw [if_neg q1]; exact hK
  · intro k hk hp2 he K
    have o := hw.2.2.2 k hk
    have ob := hb2 k hk
    simp (maxSteps := 1000000) (disch := omega) only [f_R_entry_B3, f_R_entry_J58, kd_t h.rs.1, rs_P41 h.rs, kd_t (rs_K41 h.rs), rs_N41 h.rs, l1_m, l1_a, l1_b, l1_s, l1_e, l1_le, l1_ge, l1_lt, l1_gt, l2_m, l2_a, l2_b, l2_s, l2_e, l2_le, l2_ge, l2_lt, l2_gt, l3_m, l3_a, l3_b, l3_s, l3_e, l3_le, l3_ge, l3_lt, l3_gt, lt_t, nn_t, bd_t, bdD_t, bdP_t, nI_clamp, gi_n, nI_add, nI_1, pk_mul, b2_eq0, b2_01, nb_t, if_true, if_false, ni_le, ni_eq, ni_lt, hw.2.2.1, o.1, o.2.1, o.2.2]
    rw [if_neg (by omega)]
    have hee := of_decide_eq_true hp2
    rw [if_pos (by rw [hee]), if_pos (by rw [hee]), if_pos (by rw [hee])]
    have hix : eIx w.1 (t, a, c) = k := he
    refine ⟨d, by rw [hix], ch_r, ?_⟩
    unfold ePl
    rw [if_pos (by rw [hix]; exact hk)]
    exact hw
  · intro he K
    have z1 : ∀ {e : gD} {k : Nat} {v : Int32}, dI (wI e (m + 32) k v) m 42 = dI e m 42 := by intro e k v; rw [dI_wI, if_neg (by omega)]
    simp (maxSteps := 1000000) (disch := omega) only [f_R_entry_B3, f_R_entry_J64, kd_t h.rs.1, rs_P41 h.rs, kd_t (rs_K41 h.rs), rs_N41 h.rs, l1_m, l1_a, l1_b, l1_s, l1_e, l1_le, l1_ge, l1_lt, l1_gt, l2_m, l2_a, l2_b, l2_s, l2_e, l2_le, l2_ge, l2_lt, l2_gt, l3_m, l3_a, l3_b, l3_s, l3_e, l3_le, l3_ge, l3_lt, l3_gt, lt_t, nn_t, bd_t, bdD_t, bdP_t, nI_clamp, gi_n, nI_add, nI_1, pk_mul, b2_eq0, b2_01, nb_t, if_true, if_false, ni_le, ni_eq, ni_lt, hw.2.2.1, z1]
    rw [if_pos (by omega)]
    have z2 : ∀ {e : gD} {v : Int32}, dI (wI e m 42 v) m 42 = v := by intro e v; rw [dI_wI, if_pos ⟨rfl, rfl⟩]
    rw [z2]
    have hix : eIx w.1 (t, a, c) = w.1.length := he
    have c2 : Ch (fun a j => (a = m ∧ j = 42) ∨ (a = m + 32 ∧ 3 * w.1.length ≤ j)) d (wI (wI (wI (wI d (m + 32) (3 * w.1.length) (nI t)) (m + 32) (3 * w.1.length + 1) (nI a)) (m + 32) (3 * w.1.length + 2) (nI c)) m 42 (nI (w.1.length + 1))) := ch_s (ch_s (ch_s (ch_w (.inr ⟨rfl, by omega⟩)) (.inr ⟨rfl, by omega⟩)) (.inr ⟨rfl, by omega⟩)) (.inl ⟨rfl, rfl⟩)
    refine ⟨_, by rw [hix, nI_pred], ch_m c2 (fun a j p => by unfold PW; omega), ?_⟩
    unfold ePl
    rw [if_neg (by omega)]
    refine ⟨(c2.2 _ _ (by omega)).trans hw.1, row_ch hw.2.1 c2 (fun i _ => by omega), ?_, ?_⟩
    · rw [z2]; show _ = nI (w.1 ++ [(t, a, c)]).length; rw [List.length_append]; rfl
    · intro i hi
      have hi : i < (w.1 ++ [(t, a, c)]).length := hi
      show _ = nI ((w.1 ++ [(t, a, c)]).getD i te).1 ∧ _ = nI ((w.1 ++ [(t, a, c)]).getD i te).2.1 ∧ _ = nI ((w.1 ++ [(t, a, c)]).getD i te).2.2
      rw [List.length_append, List.length_singleton] at hi
      rw [getT_app]
      by_cases q : i = w.1.length
      · subst q
        rw [if_pos rfl]
        refine ⟨?_, ?_, ?_⟩
        · rw [dI_wI, if_neg (by omega), dI_wI, if_neg (by omega), dI_wI, if_neg (by omega), dI_wI, if_pos ⟨rfl, rfl⟩]
        · rw [dI_wI, if_neg (by omega), dI_wI, if_neg (by omega), dI_wI, if_pos ⟨rfl, rfl⟩]
        · rw [dI_wI, if_neg (by omega), dI_wI, if_pos ⟨rfl, rfl⟩]
      · rw [if_neg q]
        exact (pr_ch hw.2.2.2 c2 (fun j hj => by omega)) i (by omega)
end ref
