def SIr (S : gS) (d : gD) (x : Nat) (s : Nat → Nat → Nat) (A : Nat → Nat → Nat) (hd : Nat → Int32) (c : Nat) : Prop := (sP S (x + 8) c = some (A 2 c)) ∧ (x + 64 < A 2 c) ∧ (A 2 c + 1 < sZ S) ∧ (sK S (A 2 c) = 6) ∧ (sP S (A 2 c) 4 = some (A 2 c + 1)) ∧ (sK S (A 2 c + 1) = 63) ∧ (sN S (A 2 c + 1) = (dsc s (nI (s 23 c))).length) ∧ (∀ i, i < (dsc s (nI (s 23 c))).length → sP S (A 2 c + 1) i = some (A 3 (40 * c + i)) ∧ SMs S (A 3 (40 * c + i)) ∧ x + 64 < A 3 (40 * c + i) ∧ A 3 (40 * c + i) + 4 < sZ S ∧ sP S (A 3 (40 * c + i)) 0 = some (A 1 ((perm s (dsc s (nI (s 23 c)))).getD i df).1) ∧ RWd d (A 3 (40 * c + i) + 1) ((perm s (dsc s (nI (s 23 c)))).getD i df).2 ∧ RWd d (A 3 (40 * c + i) + 3) (ct s ((perm s (dsc s (nI (s 23 c)))).getD i df).2)) ∧ (sP S (A 2 c) 5 = some (A 4 c)) ∧ (x + 64 < A 4 c ∧ A 4 c < sZ S) ∧ (sK S (A 4 c) = 52) ∧ (sN S (A 4 c) = (uBy (run ([], []) (uT s c))).length) ∧ (BRow d (A 4 c) (uBy (run ([], []) (uT s c)))) ∧ (dI d (A 2 c) 0 = nI (s 22 c)) ∧ (dI d (A 2 c) 1 = nI (s 23 c)) ∧ (dI d (A 2 c) 2 = nI (s 24 c)) ∧ (dI d (A 2 c) 3 = nI (s 25 c)) ∧ (dI d (A 2 c) 6 = hd c) ∧ (dI d (A 2 c) 7 = nI (s 27 c))
theorem SIr.p {S : gS} {d : gD} {x : Nat} {s : Nat → Nat → Nat} {A : Nat → Nat → Nat} {hd : Nat → Int32} {c : Nat} (h : SIr S d x s A hd c) : sP S (x + 8) c = some (A 2 c) := h.1
theorem SIr.lo {S : gS} {d : gD} {x : Nat} {s : Nat → Nat → Nat} {A : Nat → Nat → Nat} {hd : Nat → Int32} {c : Nat} (h : SIr S d x s A hd c) : x + 64 < A 2 c := h.2.1
theorem SIr.hi {S : gS} {d : gD} {x : Nat} {s : Nat → Nat → Nat} {A : Nat → Nat → Nat} {hd : Nat → Int32} {c : Nat} (h : SIr S d x s A hd c) : A 2 c + 1 < sZ S := h.2.2.1
theorem SIr.k {S : gS} {d : gD} {x : Nat} {s : Nat → Nat → Nat} {A : Nat → Nat → Nat} {hd : Nat → Int32} {c : Nat} (h : SIr S d x s A hd c) : sK S (A 2 c) = 6 := h.2.2.2.1
theorem SIr.p4 {S : gS} {d : gD} {x : Nat} {s : Nat → Nat → Nat} {A : Nat → Nat → Nat} {hd : Nat → Int32} {c : Nat} (h : SIr S d x s A hd c) : sP S (A 2 c) 4 = some (A 2 c + 1) := h.2.2.2.2.1
theorem SIr.k1 {S : gS} {d : gD} {x : Nat} {s : Nat → Nat → Nat} {A : Nat → Nat → Nat} {hd : Nat → Int32} {c : Nat} (h : SIr S d x s A hd c) : sK S (A 2 c + 1) = 63 := h.2.2.2.2.2.1
theorem SIr.n1 {S : gS} {d : gD} {x : Nat} {s : Nat → Nat → Nat} {A : Nat → Nat → Nat} {hd : Nat → Int32} {c : Nat} (h : SIr S d x s A hd c) : sN S (A 2 c + 1) = (dsc s (nI (s 23 c))).length := h.2.2.2.2.2.2.1
theorem SIr.me {S : gS} {d : gD} {x : Nat} {s : Nat → Nat → Nat} {A : Nat → Nat → Nat} {hd : Nat → Int32} {c : Nat} (h : SIr S d x s A hd c) : ∀ i, i < (dsc s (nI (s 23 c))).length → sP S (A 2 c + 1) i = some (A 3 (40 * c + i)) ∧ SMs S (A 3 (40 * c + i)) ∧ x + 64 < A 3 (40 * c + i) ∧ A 3 (40 * c + i) + 4 < sZ S ∧ sP S (A 3 (40 * c + i)) 0 = some (A 1 ((perm s (dsc s (nI (s 23 c)))).getD i df).1) ∧ RWd d (A 3 (40 * c + i) + 1) ((perm s (dsc s (nI (s 23 c)))).getD i df).2 ∧ RWd d (A 3 (40 * c + i) + 3) (ct s ((perm s (dsc s (nI (s 23 c)))).getD i df).2) := h.2.2.2.2.2.2.2.1
theorem SIr.p5 {S : gS} {d : gD} {x : Nat} {s : Nat → Nat → Nat} {A : Nat → Nat → Nat} {hd : Nat → Int32} {c : Nat} (h : SIr S d x s A hd c) : sP S (A 2 c) 5 = some (A 4 c) := h.2.2.2.2.2.2.2.2.1
theorem SIr.ul {S : gS} {d : gD} {x : Nat} {s : Nat → Nat → Nat} {A : Nat → Nat → Nat} {hd : Nat → Int32} {c : Nat} (h : SIr S d x s A hd c) : x + 64 < A 4 c ∧ A 4 c < sZ S := h.2.2.2.2.2.2.2.2.2.1
theorem SIr.k5 {S : gS} {d : gD} {x : Nat} {s : Nat → Nat → Nat} {A : Nat → Nat → Nat} {hd : Nat → Int32} {c : Nat} (h : SIr S d x s A hd c) : sK S (A 4 c) = 52 := h.2.2.2.2.2.2.2.2.2.2.1
theorem SIr.n5 {S : gS} {d : gD} {x : Nat} {s : Nat → Nat → Nat} {A : Nat → Nat → Nat} {hd : Nat → Int32} {c : Nat} (h : SIr S d x s A hd c) : sN S (A 4 c) = (uBy (run ([], []) (uT s c))).length := h.2.2.2.2.2.2.2.2.2.2.2.1
theorem SIr.by_ {S : gS} {d : gD} {x : Nat} {s : Nat → Nat → Nat} {A : Nat → Nat → Nat} {hd : Nat → Int32} {c : Nat} (h : SIr S d x s A hd c) : BRow d (A 4 c) (uBy (run ([], []) (uT s c))) := h.2.2.2.2.2.2.2.2.2.2.2.2.1
theorem SIr.g0 {S : gS} {d : gD} {x : Nat} {s : Nat → Nat → Nat} {A : Nat → Nat → Nat} {hd : Nat → Int32} {c : Nat} (h : SIr S d x s A hd c) : dI d (A 2 c) 0 = nI (s 22 c) := h.2.2.2.2.2.2.2.2.2.2.2.2.2.1
theorem SIr.g1 {S : gS} {d : gD} {x : Nat} {s : Nat → Nat → Nat} {A : Nat → Nat → Nat} {hd : Nat → Int32} {c : Nat} (h : SIr S d x s A hd c) : dI d (A 2 c) 1 = nI (s 23 c) := h.2.2.2.2.2.2.2.2.2.2.2.2.2.2.1
theorem SIr.g2 {S : gS} {d : gD} {x : Nat} {s : Nat → Nat → Nat} {A : Nat → Nat → Nat} {hd : Nat → Int32} {c : Nat} (h : SIr S d x s A hd c) : dI d (A 2 c) 2 = nI (s 24 c) := h.2.2.2.2.2.2.2.2.2.2.2.2.2.2.2.1
theorem SIr.g3 {S : gS} {d : gD} {x : Nat} {s : Nat → Nat → Nat} {A : Nat → Nat → Nat} {hd : Nat → Int32} {c : Nat} (h : SIr S d x s A hd c) : dI d (A 2 c) 3 = nI (s 25 c) := h.2.2.2.2.2.2.2.2.2.2.2.2.2.2.2.2.1
theorem SIr.g6 {S : gS} {d : gD} {x : Nat} {s : Nat → Nat → Nat} {A : Nat → Nat → Nat} {hd : Nat → Int32} {c : Nat} (h : SIr S d x s A hd c) : dI d (A 2 c) 6 = hd c := h.2.2.2.2.2.2.2.2.2.2.2.2.2.2.2.2.2.1
theorem SIr.g7 {S : gS} {d : gD} {x : Nat} {s : Nat → Nat → Nat} {A : Nat → Nat → Nat} {hd : Nat → Int32} {c : Nat} (h : SIr S d x s A hd c) : dI d (A 2 c) 7 = nI (s 27 c) := h.2.2.2.2.2.2.2.2.2.2.2.2.2.2.2.2.2.2
def TS (s A : Nat → Nat → Nat) (v : Nat) : Prop := ∃ c i, c < s 21 0 ∧ i < (dsc s (nI (s 23 c))).length ∧ v = A 3 (40 * c + i)
def G1 (S : gS) (d : gD) (x : Nat) (s : Nat → Nat → Nat) (A : Nat → Nat → Nat) (hd : Nat → Int32) : Prop := (CE S d x s A) ∧ (dI d x 13 = 0 ∨ (dI d x 13 = 1 ∧ ∀ g, g < s 5 0 → AL S d A (A 0 g) (lst s g))) ∧ (dI d x 10 = nI (s 21 0)) ∧ (∀ c, c < s 21 0 → SIr S d x s A hd c) ∧ (∀ c c', c < c' → c' < s 21 0 → A 2 c ≠ A 2 c') ∧ (DK S x (fun v => ¬ TS s A v))
theorem G1.ce {S : gS} {d : gD} {x : Nat} {s : Nat → Nat → Nat} {A : Nat → Nat → Nat} {hd : Nat → Int32} (h : G1 S d x s A hd) : CE S d x s A := h.1
theorem G1.al {S : gS} {d : gD} {x : Nat} {s : Nat → Nat → Nat} {A : Nat → Nat → Nat} {hd : Nat → Int32} (h : G1 S d x s A hd) : dI d x 13 = 0 ∨ (dI d x 13 = 1 ∧ ∀ g, g < s 5 0 → AL S d A (A 0 g) (lst s g)) := h.2.1
theorem G1.st1 {S : gS} {d : gD} {x : Nat} {s : Nat → Nat → Nat} {A : Nat → Nat → Nat} {hd : Nat → Int32} (h : G1 S d x s A hd) : dI d x 10 = nI (s 21 0) := h.2.2.1
theorem G1.st2 {S : gS} {d : gD} {x : Nat} {s : Nat → Nat → Nat} {A : Nat → Nat → Nat} {hd : Nat → Int32} (h : G1 S d x s A hd) : ∀ c, c < s 21 0 → SIr S d x s A hd c := h.2.2.2.1
theorem G1.st3 {S : gS} {d : gD} {x : Nat} {s : Nat → Nat → Nat} {A : Nat → Nat → Nat} {hd : Nat → Int32} (h : G1 S d x s A hd) : ∀ c c', c < c' → c' < s 21 0 → A 2 c ≠ A 2 c' := h.2.2.2.2.1
theorem G1.dk {S : gS} {d : gD} {x : Nat} {s : Nat → Nat → Nat} {A : Nat → Nat → Nat} {hd : Nat → Int32} (h : G1 S d x s A hd) : DK S x (fun v => ¬ TS s A v) := h.2.2.2.2.2
def G2 (d : gD) (x : Nat) (s : Nat → Nat → Nat) (q : (Nat → Int64) × Int64 × (Nat → Int64) × (Nat → Int32)) : Prop := (CL d x s) ∧ (CT d x s) ∧ (dI d x 7 = nI (s 18 0)) ∧ (∀ i, i < s 18 0 → dI d (x + 5) i = nI (s 19 i)) ∧ (∀ i, i < s 18 0 → dL d (x + 6) i = q.1 i) ∧ (dI d x 14 = nI (s 28 0)) ∧ (dL d x 15 = q.2.1) ∧ (∀ j, j < 9 → dL d (x + 18) j = q.2.2.1 j)
theorem G2.cl {d : gD} {x : Nat} {s : Nat → Nat → Nat} {q : (Nat → Int64) × Int64 × (Nat → Int64) × (Nat → Int32)} (h : G2 d x s q) : CL d x s := h.1
theorem G2.t {d : gD} {x : Nat} {s : Nat → Nat → Nat} {q : (Nat → Int64) × Int64 × (Nat → Int64) × (Nat → Int32)} (h : G2 d x s q) : CT d x s := h.2.1
theorem G2.o1 {d : gD} {x : Nat} {s : Nat → Nat → Nat} {q : (Nat → Int64) × Int64 × (Nat → Int64) × (Nat → Int32)} (h : G2 d x s q) : dI d x 7 = nI (s 18 0) := h.2.2.1
theorem G2.o2 {d : gD} {x : Nat} {s : Nat → Nat → Nat} {q : (Nat → Int64) × Int64 × (Nat → Int64) × (Nat → Int32)} (h : G2 d x s q) : ∀ i, i < s 18 0 → dI d (x + 5) i = nI (s 19 i) := h.2.2.2.1
theorem G2.o3 {d : gD} {x : Nat} {s : Nat → Nat → Nat} {q : (Nat → Int64) × Int64 × (Nat → Int64) × (Nat → Int32)} (h : G2 d x s q) : ∀ i, i < s 18 0 → dL d (x + 6) i = q.1 i := h.2.2.2.2.1
theorem G2.fa {d : gD} {x : Nat} {s : Nat → Nat → Nat} {q : (Nat → Int64) × Int64 × (Nat → Int64) × (Nat → Int32)} (h : G2 d x s q) : dI d x 14 = nI (s 28 0) := h.2.2.2.2.2.1
theorem G2.oc {d : gD} {x : Nat} {s : Nat → Nat → Nat} {q : (Nat → Int64) × Int64 × (Nat → Int64) × (Nat → Int32)} (h : G2 d x s q) : dL d x 15 = q.2.1 := h.2.2.2.2.2.2.1
theorem G2.sn {d : gD} {x : Nat} {s : Nat → Nat → Nat} {q : (Nat → Int64) × Int64 × (Nat → Int64) × (Nat → Int32)} (h : G2 d x s q) : ∀ j, j < 9 → dL d (x + 18) j = q.2.2.1 j := h.2.2.2.2.2.2.2
def SV (s : Nat → Nat → Nat) (q : (Nat → Int64) × Int64 × (Nat → Int64) × (Nat → Int32)) : Prop := (RT s) ∧ (∀ c, c < s 21 0 → okL s (nI (s 23 c)) ∧ (dsc s (nI (s 23 c))).length ≤ 40) ∧ (∀ c, s 21 0 ≤ c → c < 16 → q.2.2.2 c = -1 ∧ s 27 c = 0) ∧ (∀ c, c < s 21 0 → (q.2.2.2 c = -1 ∧ s 27 c = 0) ∨ ∃ jo, jo < s 18 0 ∧ q.2.2.2 c = nI jo) ∧ (∀ c, s 27 c ≤ 1) ∧ (∀ c, c < s 21 0 → s 24 c < 256 ∧ s 25 c < 256)
theorem SV.rt {s : Nat → Nat → Nat} {q : (Nat → Int64) × Int64 × (Nat → Int64) × (Nat → Int32)} (h : SV s q) : RT s := h.1
theorem SV.ok {s : Nat → Nat → Nat} {q : (Nat → Int64) × Int64 × (Nat → Int64) × (Nat → Int32)} (h : SV s q) : ∀ c, c < s 21 0 → okL s (nI (s 23 c)) ∧ (dsc s (nI (s 23 c))).length ≤ 40 := h.2.1
theorem SV.hn {s : Nat → Nat → Nat} {q : (Nat → Int64) × Int64 × (Nat → Int64) × (Nat → Int32)} (h : SV s q) : ∀ c, s 21 0 ≤ c → c < 16 → q.2.2.2 c = -1 ∧ s 27 c = 0 := h.2.2.1
theorem SV.hh {s : Nat → Nat → Nat} {q : (Nat → Int64) × Int64 × (Nat → Int64) × (Nat → Int32)} (h : SV s q) : ∀ c, c < s 21 0 → (q.2.2.2 c = -1 ∧ s 27 c = 0) ∨ ∃ jo, jo < s 18 0 ∧ q.2.2.2 c = nI jo := h.2.2.2.1
theorem SV.h1 {s : Nat → Nat → Nat} {q : (Nat → Int64) × Int64 × (Nat → Int64) × (Nat → Int32)} (h : SV s q) : ∀ c, s 27 c ≤ 1 := h.2.2.2.2.1
theorem SV.pk {s : Nat → Nat → Nat} {q : (Nat → Int64) × Int64 × (Nat → Int64) × (Nat → Int32)} (h : SV s q) : ∀ c, c < s 21 0 → s 24 c < 256 ∧ s 25 c < 256 := h.2.2.2.2.2
def IV (S : gS) (d : gD) (x : Nat) (s : Nat → Nat → Nat) (A : Nat → Nat → Nat) (q : (Nat → Int64) × Int64 × (Nat → Int64) × (Nat → Int32)) : Prop := (G1 S d x s A q.2.2.2) ∧ (G2 d x s q) ∧ (RP S d (x + 28) s q) ∧ (BI s) ∧ (SV s q) ∧ (sK S (x + 64) = 51 ∧ sN S (x + 64) = 1)
theorem IV.g1 {S : gS} {d : gD} {x : Nat} {s : Nat → Nat → Nat} {A : Nat → Nat → Nat} {q : (Nat → Int64) × Int64 × (Nat → Int64) × (Nat → Int32)} (h : IV S d x s A q) : G1 S d x s A q.2.2.2 := h.1
theorem IV.g2 {S : gS} {d : gD} {x : Nat} {s : Nat → Nat → Nat} {A : Nat → Nat → Nat} {q : (Nat → Int64) × Int64 × (Nat → Int64) × (Nat → Int32)} (h : IV S d x s A q) : G2 d x s q := h.2.1
theorem IV.rp {S : gS} {d : gD} {x : Nat} {s : Nat → Nat → Nat} {A : Nat → Nat → Nat} {q : (Nat → Int64) × Int64 × (Nat → Int64) × (Nat → Int32)} (h : IV S d x s A q) : RP S d (x + 28) s q := h.2.2.1
theorem IV.b {S : gS} {d : gD} {x : Nat} {s : Nat → Nat → Nat} {A : Nat → Nat → Nat} {q : (Nat → Int64) × Int64 × (Nat → Int64) × (Nat → Int32)} (h : IV S d x s A q) : BI s := h.2.2.2.1
theorem IV.sv {S : gS} {d : gD} {x : Nat} {s : Nat → Nat → Nat} {A : Nat → Nat → Nat} {q : (Nat → Int64) × Int64 × (Nat → Int64) × (Nat → Int32)} (h : IV S d x s A q) : SV s q := h.2.2.2.2.1
theorem IV.ok {S : gS} {d : gD} {x : Nat} {s : Nat → Nat → Nat} {A : Nat → Nat → Nat} {q : (Nat → Int64) × Int64 × (Nat → Int64) × (Nat → Int32)} (h : IV S d x s A q) : sK S (x + 64) = 51 ∧ sN S (x + 64) = 1 := h.2.2.2.2.2
def SW (x : Nat) (a j : Nat) : Prop := (a = x ∧ (j = 2 ∨ j = 7 ∨ j = 14 ∨ j = 15)) ∨ (a = x + 1 ∧ j = 1) ∨ a = x + 2 ∨ a = x + 3 ∨ a = x + 5 ∨ a = x + 6 ∨ (a = x + 9 ∧ j = 2) ∨ a = x + 17 ∨ a = x + 18 ∨ (x + 28 ≤ a ∧ a ≤ x + 64)
section cp
variable {P : Nat → Nat → Prop} {S S' : gS} {d d' : gD} {x : Nat} {s s' : Nat → Nat → Nat} {A : Nat → Nat → Nat} {hd : Nat → Int32} {q : (Nat → Int64) × Int64 × (Nat → Int64) × (Nat → Int32)}
theorem sms_fm (g : Fm P S d S' d') {v : Nat} (h : SMs S v) (hv : v + 4 < sZ S) (n1 : ¬ P v 1) (n2 : ¬ P v 2) (n3 : ¬ P (v + 1) 0) (n4 : ¬ P (v + 3) 0) : SMs S' v :=
  ⟨(fm_K g (by omega)).trans h.k, (fm_P g (by omega) n1).trans h.p1, (fm_P g (by omega) n2).trans h.p2, rws_fm g h.r1 (by omega) n3, rws_fm g h.r2 (by omega) n4⟩
theorem dk_fm {U : Nat → Prop} (g : Fm P S d S' d') (K : DK S x U) (hx : x + 64 < sZ S) (n0 : ∀ i, i < 75 → ¬ P (x + 10) i) (np : ∀ a j, x + 64 < a → a < sZ S → (sK S a = 7 ∧ j ≠ 0) ∨ (sK S a = 2 ∧ j = 0) → ¬ P a j) : DK S' x U := by
  have e : ∀ i, i < 75 → sP S' (x + 10) i = sP S (x + 10) i := fun i hi => fm_P g (by omega) (n0 i hi)
  refine ⟨fun i v hi hv => ?_, fun i j v hi hj h1 h2 => K.inj i j v hi hj (by rw [← e i hi]; exact h1) (by rw [← e j hj]; exact h2)⟩
  rw [e i hi] at hv
  obtain ⟨k1, k2, k3, k4⟩ := K.sl i v hi hv
  exact ⟨sms_fm g k1 k3 (np _ _ (by omega) (by omega) (.inl ⟨k1.k, by omega⟩)) (np _ _ (by omega) (by omega) (.inl ⟨k1.k, by omega⟩)) (np _ _ (by omega) (by omega) (.inr ⟨k1.r1.k, rfl⟩)) (np _ _ (by omega) (by omega) (.inr ⟨k1.r2.k, rfl⟩)), k2, Nat.lt_of_lt_of_le k3 g.1, k4⟩
theorem si_fm (g : Fm P S d S' d') {c : Nat} (h : SIr S d x s A hd c) (hx : x + 64 < sZ S) (n0 : ¬ P (x + 8) c) (n1 : ∀ j, ¬ P (A 2 c) j) (n2 : ∀ j, ¬ P (A 2 c + 1) j) (n3 : ∀ i j, i < (dsc s (nI (s 23 c))).length → ¬ P (A 3 (40 * c + i)) j ∧ ¬ P (A 3 (40 * c + i) + 1) j ∧ ¬ P (A 3 (40 * c + i) + 2) j ∧ ¬ P (A 3 (40 * c + i) + 3) j ∧ ¬ P (A 3 (40 * c + i) + 4) j) (n4 : ∀ j, ¬ P (A 4 c) j) : SIr S' d' x s A hd c := by
  have hh := h.hi
  have hl := h.lo
  have hu := h.ul
  have I : ∀ j, dI d' (A 2 c) j = dI d (A 2 c) j := fun j => fm_I g (by omega) (n1 j)
  refine ⟨(fm_P g (by omega) n0).trans h.p, hl, Nat.lt_of_lt_of_le hh g.1, (fm_K g (by omega)).trans h.k, (fm_P g (by omega) (n1 _)).trans h.p4, (fm_K g (by omega)).trans h.k1, (fm_N g (by omega)).trans h.n1, fun i hi => ?_, (fm_P g (by omega) (n1 _)).trans h.p5, ⟨hu.1, Nat.lt_of_lt_of_le hu.2 g.1⟩, (fm_K g (by omega)).trans h.k5, (fm_N g (by omega)).trans h.n5, fun i hi => (fm_I g (by omega) (n4 i)).trans (h.by_ i hi), (I _).trans h.g0, (I _).trans h.g1, (I _).trans h.g2, (I _).trans h.g3, (I _).trans h.g6, (I _).trans h.g7⟩
  obtain ⟨m1, m2, m3, m4, m5, m6, m7⟩ := h.me i hi
  have nn := fun j => n3 i j hi
  exact ⟨(fm_P g (by omega) (n2 i)).trans m1, sms_fm g m2 m4 (nn _).1 (nn _).1 (nn _).2.1 (nn _).2.2.2.1, m3, Nat.lt_of_lt_of_le m4 g.1, (fm_P g (by omega) (nn _).1).trans m5, rwd_fm g m6 (by omega) (nn _).2.1 (fun j => (nn j).2.2.1), rwd_fm g m7 (by omega) (nn _).2.2.2.1 (fun j => (nn j).2.2.2.2)⟩
theorem g1_sw (g : Fm P S d S' d') (h : G1 S d x s A hd) (hP : ∀ a j, P a j → SW x a j) : G1 S' d' x s A hd := by
  have hx := h.ce.hx
  have nb : ∀ a j, x + 64 < a → ¬ P a j := fun a j ha p => by have := hP a j p; unfold SW at this; omega
  have ns : ∀ a j, ¬ SW x a j → ¬ P a j := fun a j n p => n (hP a j p)
  have ce : CE S' d' x s A := by
    refine ⟨cs_fm g h.ce.cs hx (fun a j hs => ns _ _ (by unfold stc at hs; unfold SW; omega)), Nat.lt_of_lt_of_le hx g.1, ⟨(fm_I g (by omega) (ns _ _ (by unfold SW; omega))).trans h.ce.F.1, fun f hf => ?_, h.ce.F.2.2⟩, fun i hi => ?_, h.ce.M.2⟩
    · have c := h.ce.F.2.1 f hf
      have := c.lo
      exact fc_fm g c hx (ns _ _ (by unfold SW; omega)) (fun j _ => nb _ _ (by omega)) (fun j => nb _ _ (by omega)) (fun j => nb _ _ (by omega))
    · have o := h.ce.M.1 i hi
      have := o.lo
      exact om_fm g o (fun j => ⟨ns _ _ (by unfold SW; omega), ns _ _ (by unfold SW; omega), ns _ _ (by unfold SW; omega)⟩)
  refine ⟨ce, ?_, (fm_I g (by omega) (ns _ _ (by unfold SW; omega))).trans h.st1, fun c hc => ?_, h.st3, dk_fm g h.dk hx (fun i _ => ns _ _ (by unfold SW; omega)) (fun a j ha _ _ => nb _ _ ha)⟩
  · have e13 : dI d' x 13 = dI d x 13 := fm_I g (by omega) (ns _ _ (by unfold SW; omega))
    rcases h.al with a | ⟨a1, a2⟩
    · exact .inl (e13.trans a)
    · refine .inr ⟨e13.trans a1, fun gg hg => ?_⟩
      have c := h.ce.F.2.1 gg hg
      have := c.lo
      have := c.hi
      exact ⟨(fm_I g (by omega) (nb _ _ (by omega))).trans (a2 gg hg).1, fun i hi => (fm_P g (by omega) (nb _ _ (by omega))).trans ((a2 gg hg).2 i hi)⟩
  · have si := h.st2 c hc
    have := si.lo
    have := si.ul
    refine si_fm g si hx (ns _ _ (by unfold SW; omega)) (fun j => nb _ _ (by omega)) (fun j => nb _ _ (by omega)) (fun i j hi => ?_) (fun j => nb _ _ (by omega))
    have m := (si.me i hi).2.2.1
    exact ⟨nb _ _ (by omega), nb _ _ (by omega), nb _ _ (by omega), nb _ _ (by omega), nb _ _ (by omega)⟩
theorem g2_fm (g : Fm P S d S' d') (h : G2 d x s q) (hx : x + 64 < sZ S) (hP : ∀ a j, P a j → x + 19 ≤ a ∨ (a = x ∧ (j = 4 ∨ j = 10 ∨ j = 13)) ∨ a = x + 4 ∨ a = x + 8 ∨ (x + 9 ≤ a ∧ a ≤ x + 17)) : G2 d' x s q := by
  have ns : ∀ a j, ¬ (x + 19 ≤ a ∨ (a = x ∧ (j = 4 ∨ j = 10 ∨ j = 13)) ∨ a = x + 4 ∨ a = x + 8 ∨ (x + 9 ≤ a ∧ a ≤ x + 17)) → ¬ P a j := fun a j n p => n (hP a j p)
  exact ⟨cl_fm g h.cl hx (ns _ _ (by omega)) (fun j => ns _ _ (by omega)), ct_fm g h.t hx (ns _ _ (by omega)) (fun j => ns _ _ (by omega)), (fm_I g (by omega) (ns _ _ (by omega))).trans h.o1, fun i hi => (fm_I g (by omega) (ns _ _ (by omega))).trans (h.o2 i hi), fun i hi => (fm_L g (by omega) (ns _ _ (by omega))).trans (h.o3 i hi), (fm_I g (by omega) (ns _ _ (by omega))).trans h.fa, (fm_L g (by omega) (ns _ _ (by omega))).trans h.oc, fun j hj => (fm_L g (by omega) (ns _ _ (by omega))).trans (h.sn j hj)⟩
theorem rp_cf (g : Fm P S d S' d') (h : RP S d (x + 28) s q) (hx : x + 64 < sZ S) (hP : ∀ a j, P a j → ¬ (x + 28 ≤ a ∧ a ≤ x + 63)) : RP S' d' (x + 28) s q :=
  rp_rf h (fun a h1 h2 => ⟨fm_K g (by omega), fm_N g (by omega), fun j => fm_P g (by omega) (fun p => hP a j p (by omega))⟩) (fun a j h1 h2 => ⟨fm_I g (by omega) (fun p => hP a j p (by omega)), fm_L g (by omega) (fun p => hP a j p (by omega))⟩)
theorem fm_rf (h : Rf (x + 28) d d') : Fm (fun a _ => x + 28 ≤ a ∧ a ≤ x + 63) S d S d' := ⟨Nat.le_refl _, fun a _ => ⟨rfl, rfl, fun j n => ⟨rfl, (h a j (by omega)).1, (h a j (by omega)).2⟩⟩⟩
theorem iv_fin {q' : (Nat → Int64) × Int64 × (Nat → Int64) × (Nat → Int32)} (g1 : G1 S d x s A q'.2.2.2) (g2 : G2 d x s q') (rp : RP S d' (x + 28) s q') (rf : Rf (x + 28) d d') (b : BI s) (sv : SV s q') (ok : sK S (x + 64) = 51 ∧ sN S (x + 64) = 1) : IV S d' x s A q' :=
  ⟨g1_sw (fm_rf rf) g1 (fun a j p => by unfold SW; omega), g2_fm (fm_rf rf) g2 g1.ce.hx (fun a j p => by omega), rp, b, sv, ok⟩
theorem g1_ag (h : G1 S d x s A hd) (b : BI s) (ag : Ag s s') (h1 : ∀ k i, 5 ≤ k → k ≤ 17 → s' k i = s k i) (h2 : ∀ k i, 21 ≤ k → k ≤ 27 → s' k i = s k i) : G1 S d x s' A hd := by
  have e5 := h1 5 0 (by omega) (by omega)
  have e21 := h2 21 0 (by omega) (by omega)
  have hvx : ∀ i, vx s' i ↔ vx s i := by
    intro i
    unfold vx
    rw [e5, h1 12 (i / 6) (by omega) (by omega)]
  have hpk : ∀ i, pkp s' i = pkp s i := by
    intro i
    unfold pkp
    rw [h1 15 _ (by omega) (by omega), h1 15 _ (by omega) (by omega), h1 15 _ (by omega) (by omega)]
  refine ⟨⟨h.ce.cs, h.ce.hx, ⟨by rw [e5]; exact h.ce.F.1, fun f hf => ?_, by rw [e5]; exact h.ce.F.2.2⟩, fun i hi => ?_, h.ce.M.2⟩, ?_, by rw [e21]; exact h.st1, fun c hc => ?_, by rw [e21]; exact h.st3, ?_⟩
  · rw [e5] at hf
    have c := h.ce.F.2.1 f hf
    exact ⟨c.p, c.lo, c.hi, c.sh, by rw [h1 6 f (by omega) (by omega)]; exact c.g0, by rw [h1 7 f (by omega) (by omega)]; exact c.g1, by rw [h1 8 f (by omega) (by omega)]; exact c.g2, by rw [h1 9 f (by omega) (by omega)]; exact c.g3, by rw [h1 11 f (by omega) (by omega)]; exact c.g5, fun p hp => by rw [h1 11 f (by omega) (by omega)] at hp; rw [h1 10 _ (by omega) (by omega)]; exact c.gp p hp, by rw [h1 12 f (by omega) (by omega)]; exact c.g7, by rw [h1 12 f (by omega) (by omega)]; exact c.ow⟩
  · have o := h.ce.M.1 i ((hvx i).mp hi)
    exact ⟨o.k, o.p, o.rs, o.g0, o.g1, by rw [h1 13 i (by omega) (by omega)]; exact o.g2, by rw [hpk]; exact o.g3, by rw [h1 14 i (by omega) (by omega)]; exact o.g4, by rw [ag_thr ag]; exact o.tr, o.hi, o.lo⟩
  · rcases h.al with a | ⟨a1, a2⟩
    · exact .inl a
    · exact .inr ⟨a1, fun g hg => by rw [e5] at hg; rw [ag_lst ag]; exact a2 g hg⟩
  · rw [e21] at hc
    have si := h.st2 c hc
    have e23 := h2 23 c (by omega) (by omega)
    have ed := ag_dsc ag b (nI (s 23 c))
    have eu : uT s' c = uT s c := ag_uT ag b e23 (h2 24 c (by omega) (by omega)) (h2 25 c (by omega) (by omega))
    refine ⟨si.p, si.lo, si.hi, si.k, si.p4, si.k1, by rw [e23, ed.1]; exact si.n1, fun i hi => ?_, si.p5, si.ul, si.k5, by rw [eu]; exact si.n5, by rw [eu]; exact si.by_, by rw [h2 22 c (by omega) (by omega)]; exact si.g0, by rw [e23]; exact si.g1, by rw [h2 24 c (by omega) (by omega)]; exact si.g2, by rw [h2 25 c (by omega) (by omega)]; exact si.g3, si.g6, by rw [h2 27 c (by omega) (by omega)]; exact si.g7⟩
    rw [e23, ed.1] at hi
    obtain ⟨m1, m2, m3, m4, m5, m6, m7⟩ := si.me i hi
    have hof := ord_full (s := s) (fl := dsc s (nI (s 23 c)))
    have hj := (hof.2 _).mp (getD_mem (l := ord s (dsc s (nI (s 23 c)))) (i := i) (by omega))
    have hc8 : cs8 s ((perm s (dsc s (nI (s 23 c)))).getD i df).2 := by rw [perm_at hi]; exact ed.2 _ hj
    rw [e23, ed.1, ag_perm ag]
    exact ⟨m1, m2, m3, m4, m5, m6, by rw [ag_ct ag b hc8]; exact m7⟩
  · refine ⟨fun i v hi hv => ?_, h.dk.inj⟩
    obtain ⟨k1, k2, k3, k4⟩ := h.dk.sl i v hi hv
    refine ⟨k1, k2, k3, fun t => k4 ?_⟩
    obtain ⟨c, j, c1, c2, c3⟩ := t
    rw [e21] at c1
    rw [h2 23 c (by omega) (by omega), (ag_dsc ag b _).1] at c2
    exact ⟨c, j, c1, c2, c3⟩
theorem sv_ag (h : SV s q) (b : BI s) (ag : Ag s s') (h13 : ∀ i, 72 ≤ i → s' 13 i = s 13 i) (h5 : s 5 0 ≤ s' 5 0) (h18 : s 18 0 ≤ s' 18 0) (h2 : ∀ k i, 21 ≤ k → k ≤ 27 → s' k i = s k i) : SV s' q := by
  have e21 := h2 21 0 (by omega) (by omega)
  refine ⟨⟨by rw [h13 _ (by omega)]; exact h.rt.1, by rw [h13 _ (by omega)]; exact h.rt.2.1, by rw [h13 _ (by omega)]; exact h.rt.2.2⟩, fun c hc => ?_, fun c h3 h4 => ?_, fun c hc => ?_, fun c => by rw [h2 27 c (by omega) (by omega)]; exact h.h1 c, fun c hc => by rw [e21] at hc; rw [h2 24 c (by omega) (by omega), h2 25 c (by omega) (by omega)]; exact h.pk c hc⟩
  · rw [e21] at hc
    have := h.ok c hc
    rw [h2 23 c (by omega) (by omega), (ag_dsc ag b _).1]
    exact ⟨fun k hk => by have := this.1 k hk; omega, this.2⟩
  · rw [e21] at h3
    rw [h2 27 c (by omega) (by omega)]
    exact h.hn c h3 h4
  · rw [e21] at hc
    rw [h2 27 c (by omega) (by omega)]
    rcases h.hh c hc with w | ⟨jo, w1, w2⟩
    · exact .inl w
    · exact .inr ⟨jo, by omega, w2⟩
end cp
