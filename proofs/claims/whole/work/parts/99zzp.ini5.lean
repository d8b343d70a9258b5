def s0 : Nat → Nat → Nat := up2 (up2 (up2 (up2 (up2 (up2 (up2 (up2 (up2 (up2 (up2 (up2 (fun _ _ => 0) 1 0 1) 3 0 11) 4 8 7) 4 9 8) 4 10 8) 13 72 26) 13 73 27) 13 74 28) 14 72 5) 14 73 1) 14 74 7) 15 219 7
def q0 : (Nat → Int64) × Int64 × (Nat → Int64) × (Nat → Int32) := (fun _ => 0, -1, fun _ => -1, fun _ => -1)
def A0 (x : Nat) (k i : Nat) : Nat := if k = 1 then x + 19 + 3 * (i - 72) else 0
section ini
variable {x : Nat}
set_option maxRecDepth 100000 in
theorem f_RS : RS (tS x 65 HF) (x + 28) := ⟨((sK_t (o := 28)).trans rfl), ⟨(sP_tt (o := 28) (j := 2) (t := 29) rfl), ((sK_t (o := 29)).trans rfl), ((sN_t (o := 29)).trans rfl)⟩, ⟨(sP_tt (o := 28) (j := 4) (t := 30) rfl), ((sK_t (o := 30)).trans rfl), ((sN_t (o := 30)).trans rfl)⟩, ⟨(sP_tt (o := 28) (j := 6) (t := 31) rfl), ((sK_t (o := 31)).trans rfl), ((sN_t (o := 31)).trans rfl)⟩, ⟨(sP_tt (o := 28) (j := 7) (t := 32) rfl), ((sK_t (o := 32)).trans rfl), ((sN_t (o := 32)).trans rfl)⟩, ⟨(sP_tt (o := 28) (j := 8) (t := 33) rfl), ((sK_t (o := 33)).trans rfl), ((sN_t (o := 33)).trans rfl)⟩, ⟨(sP_tt (o := 28) (j := 9) (t := 34) rfl), ((sK_t (o := 34)).trans rfl), ((sN_t (o := 34)).trans rfl)⟩, ⟨(sP_tt (o := 28) (j := 10) (t := 35) rfl), ((sK_t (o := 35)).trans rfl), ((sN_t (o := 35)).trans rfl)⟩, ⟨(sP_tt (o := 28) (j := 11) (t := 36) rfl), ((sK_t (o := 36)).trans rfl), ((sN_t (o := 36)).trans rfl)⟩, ⟨(sP_tt (o := 28) (j := 12) (t := 37) rfl), ((sK_t (o := 37)).trans rfl), ((sN_t (o := 37)).trans rfl)⟩, ⟨(sP_tt (o := 28) (j := 13) (t := 38) rfl), ((sK_t (o := 38)).trans rfl), ((sN_t (o := 38)).trans rfl)⟩, ⟨(sP_tt (o := 28) (j := 14) (t := 39) rfl), ((sK_t (o := 39)).trans rfl), ((sN_t (o := 39)).trans rfl)⟩, ⟨(sP_tt (o := 28) (j := 15) (t := 40) rfl), ((sK_t (o := 40)).trans rfl), ((sN_t (o := 40)).trans rfl)⟩, ⟨(sP_tt (o := 28) (j := 16) (t := 41) rfl), ((sK_t (o := 41)).trans rfl), ((sN_t (o := 41)).trans rfl)⟩, ⟨(sP_tt (o := 28) (j := 17) (t := 42) rfl), ((sK_t (o := 42)).trans rfl), ((sN_t (o := 42)).trans rfl)⟩, ⟨(sP_tt (o := 28) (j := 19) (t := 43) rfl), ((sK_t (o := 43)).trans rfl), ((sN_t (o := 43)).trans rfl)⟩, ⟨(sP_tt (o := 28) (j := 20) (t := 44) rfl), ((sK_t (o := 44)).trans rfl), ((sN_t (o := 44)).trans rfl)⟩, ⟨(sP_tt (o := 28) (j := 22) (t := 45) rfl), ((sK_t (o := 45)).trans rfl), ((sN_t (o := 45)).trans rfl)⟩, ⟨(sP_tt (o := 28) (j := 23) (t := 46) rfl), ((sK_t (o := 46)).trans rfl), ((sN_t (o := 46)).trans rfl)⟩, ⟨(sP_tt (o := 28) (j := 24) (t := 47) rfl), ((sK_t (o := 47)).trans rfl), ((sN_t (o := 47)).trans rfl)⟩, ⟨(sP_tt (o := 28) (j := 25) (t := 48) rfl), ((sK_t (o := 48)).trans rfl), ((sN_t (o := 48)).trans rfl)⟩, ⟨(sP_tt (o := 28) (j := 26) (t := 49) rfl), ((sK_t (o := 49)).trans rfl), ((sN_t (o := 49)).trans rfl)⟩, ⟨(sP_tt (o := 28) (j := 27) (t := 50) rfl), ((sK_t (o := 50)).trans rfl), ((sN_t (o := 50)).trans rfl)⟩, ⟨(sP_tt (o := 28) (j := 29) (t := 51) rfl), ((sK_t (o := 51)).trans rfl), ((sN_t (o := 51)).trans rfl)⟩, ⟨(sP_tt (o := 28) (j := 30) (t := 52) rfl), ((sK_t (o := 52)).trans rfl), ((sN_t (o := 52)).trans rfl)⟩, ⟨(sP_tt (o := 28) (j := 32) (t := 53) rfl), ((sK_t (o := 53)).trans rfl), ((sN_t (o := 53)).trans rfl)⟩, ⟨(sP_tt (o := 28) (j := 33) (t := 54) rfl), ((sK_t (o := 54)).trans rfl), ((sN_t (o := 54)).trans rfl)⟩, ⟨(sP_tt (o := 28) (j := 34) (t := 55) rfl), ((sK_t (o := 55)).trans rfl), ((sN_t (o := 55)).trans rfl)⟩, ⟨(sP_tt (o := 28) (j := 35) (t := 56) rfl), ((sK_t (o := 56)).trans rfl), ((sN_t (o := 56)).trans rfl)⟩, ⟨(sP_tt (o := 28) (j := 36) (t := 57) rfl), ((sK_t (o := 57)).trans rfl), ((sN_t (o := 57)).trans rfl)⟩, ⟨(sP_tt (o := 28) (j := 38) (t := 58) rfl), ((sK_t (o := 58)).trans rfl), ((sN_t (o := 58)).trans rfl)⟩, ⟨(sP_tt (o := 28) (j := 39) (t := 59) rfl), ((sK_t (o := 59)).trans rfl), ((sN_t (o := 59)).trans rfl)⟩, ⟨(sP_tt (o := 28) (j := 41) (t := 60) rfl), ((sK_t (o := 60)).trans rfl), ((sN_t (o := 60)).trans rfl)⟩, ⟨(sP_tt (o := 28) (j := 44) (t := 61) rfl), ((sK_t (o := 61)).trans rfl), ((sN_t (o := 61)).trans rfl)⟩, ⟨(sP_tt (o := 28) (j := 45) (t := 62) rfl), ((sK_t (o := 62)).trans rfl), ((sN_t (o := 62)).trans rfl)⟩, ⟨(sP_tt (o := 28) (j := 46) (t := 63) rfl), ((sK_t (o := 63)).trans rfl), ((sN_t (o := 63)).trans rfl)⟩⟩
set_option maxRecDepth 100000 in
theorem f_CS : CS (tS x 65 HF) x := ⟨((sK_t (o := 0)).trans rfl), (sP_tt (o := 0) (j := 0) (t := 1) rfl), ((sK_t (o := 1)).trans rfl), (sP_tt (o := 1) (j := 0) (t := 2) rfl), ((sK_t (o := 2)).trans rfl), ((sN_t (o := 2)).trans rfl), (sP_tt (o := 0) (j := 1) (t := 3) rfl), ((sK_t (o := 3)).trans rfl), ((sN_t (o := 3)).trans rfl), (sP_tt (o := 0) (j := 3) (t := 4) rfl), ((sK_t (o := 4)).trans rfl), ((sN_t (o := 4)).trans rfl), (sP_tt (o := 0) (j := 5) (t := 5) rfl), ((sK_t (o := 5)).trans rfl), ((sN_t (o := 5)).trans rfl), (sP_tt (o := 0) (j := 6) (t := 6) rfl), ((sK_t (o := 6)).trans rfl), ((sN_t (o := 6)).trans rfl), (sP_tt (o := 0) (j := 8) (t := 7) rfl), ((sK_t (o := 7)).trans rfl), ((sN_t (o := 7)).trans rfl), (sP_tt (o := 0) (j := 9) (t := 8) rfl), ((sK_t (o := 8)).trans rfl), ((sN_t (o := 8)).trans rfl), (sP_tt (o := 0) (j := 11) (t := 9) rfl), ((sK_t (o := 9)).trans rfl), (sP_tt (o := 9) (j := 0) (t := 1) rfl), (sP_tt (o := 9) (j := 1) (t := 10) rfl), ((sK_t (o := 10)).trans rfl), ((sN_t (o := 10)).trans rfl), (sP_tt (o := 9) (j := 3) (t := 11) rfl), ((sK_t (o := 11)).trans rfl), (sP_tt (o := 11) (j := 0) (t := 12) rfl), ((sK_t (o := 12)).trans rfl), ((sN_t (o := 12)).trans rfl), (sP_tt (o := 0) (j := 12) (t := 13) rfl), ((sK_t (o := 13)).trans rfl), (sP_tt (o := 13) (j := 0) (t := 14) rfl), ((sK_t (o := 14)).trans rfl), ((sN_t (o := 14)).trans rfl), (sP_tt (o := 13) (j := 2) (t := 15) rfl), ((sK_t (o := 15)).trans rfl), ((sN_t (o := 15)).trans rfl), (sP_tt (o := 13) (j := 4) (t := 16) rfl), ((sK_t (o := 16)).trans rfl), ((sN_t (o := 16)).trans rfl), (sP_tt (o := 0) (j := 16) (t := 17) rfl), ((sK_t (o := 17)).trans rfl), ((sN_t (o := 17)).trans rfl), (sP_tt (o := 0) (j := 17) (t := 18) rfl), ((sK_t (o := 18)).trans rfl), ((sN_t (o := 18)).trans rfl), (sP_tt (o := 7) (j := 0) (t := 19) rfl), (sP_tt (o := 7) (j := 1) (t := 22) rfl), (sP_tt (o := 7) (j := 2) (t := 25) rfl)⟩
theorem e_29 (i : Nat) : EF.1 29 i = nI (s0 2 i) := rfl
theorem e_30 (i : Nat) : EF.1 30 i = nI (s0 4 i) := by
  show (if 30 = 30 ∧ i = 10 then (8 : Int32) else if 30 = 30 ∧ i = 9 then (8 : Int32) else if 30 = 30 ∧ i = 8 then (7 : Int32) else 0) = nI (if 4 = 4 ∧ i = 10 then 8 else if 4 = 4 ∧ i = 9 then 8 else if 4 = 4 ∧ i = 8 then 7 else 0)
  by_cases c10 : i = 10
  · subst c10; rfl
  by_cases c9 : i = 9
  · subst c9; rfl
  by_cases c8 : i = 8
  · subst c8; rfl
  rw [if_neg (fun h => c10 h.2), if_neg (fun h => c9 h.2), if_neg (fun h => c8 h.2), if_neg (fun h => c10 h.2), if_neg (fun h => c9 h.2), if_neg (fun h => c8 h.2)]
  rfl
theorem e_31 (i : Nat) : EF.1 31 i = nI (s0 6 i) := rfl
theorem e_32 (i : Nat) : EF.1 32 i = nI (s0 7 i) := rfl
theorem e_33 (i : Nat) : EF.1 33 i = nI (s0 8 i) := rfl
theorem e_34 (i : Nat) : EF.1 34 i = nI (s0 9 i) := rfl
theorem e_35 (i : Nat) : EF.1 35 i = nI (s0 10 i) := rfl
theorem e_36 (i : Nat) : EF.1 36 i = nI (s0 11 i) := rfl
theorem e_37 (i : Nat) : EF.1 37 i = nI (s0 12 i) := rfl
theorem e_38 (i : Nat) : EF.1 38 i = nI (s0 13 i) := by
  show (if 38 = 38 ∧ i = 74 then (28 : Int32) else if 38 = 38 ∧ i = 73 then (27 : Int32) else if 38 = 38 ∧ i = 72 then (26 : Int32) else 0) = nI (if 13 = 13 ∧ i = 74 then 28 else if 13 = 13 ∧ i = 73 then 27 else if 13 = 13 ∧ i = 72 then 26 else 0)
  by_cases c74 : i = 74
  · subst c74; rfl
  by_cases c73 : i = 73
  · subst c73; rfl
  by_cases c72 : i = 72
  · subst c72; rfl
  rw [if_neg (fun h => c74 h.2), if_neg (fun h => c73 h.2), if_neg (fun h => c72 h.2), if_neg (fun h => c74 h.2), if_neg (fun h => c73 h.2), if_neg (fun h => c72 h.2)]
  rfl
theorem e_39 (i : Nat) : EF.1 39 i = nI (s0 14 i) := by
  show (if 39 = 39 ∧ i = 74 then (7 : Int32) else if 39 = 39 ∧ i = 73 then (1 : Int32) else if 39 = 39 ∧ i = 72 then (5 : Int32) else 0) = nI (if 14 = 14 ∧ i = 74 then 7 else if 14 = 14 ∧ i = 73 then 1 else if 14 = 14 ∧ i = 72 then 5 else 0)
  by_cases c74 : i = 74
  · subst c74; rfl
  by_cases c73 : i = 73
  · subst c73; rfl
  by_cases c72 : i = 72
  · subst c72; rfl
  rw [if_neg (fun h => c74 h.2), if_neg (fun h => c73 h.2), if_neg (fun h => c72 h.2), if_neg (fun h => c74 h.2), if_neg (fun h => c73 h.2), if_neg (fun h => c72 h.2)]
  rfl
theorem e_40 (i : Nat) : EF.1 40 i = nI (s0 15 i) := by
  show (if 40 = 40 ∧ i = 219 then (7 : Int32) else 0) = nI (if 15 = 15 ∧ i = 219 then 7 else 0)
  by_cases c219 : i = 219
  · subst c219; rfl
  rw [if_neg (fun h => c219 h.2), if_neg (fun h => c219 h.2)]
  rfl
theorem e_41 (i : Nat) : EF.1 41 i = nI (s0 16 i) := rfl
theorem e_42 (i : Nat) : EF.1 42 i = nI (s0 17 i) := rfl
theorem e_43 (i : Nat) : EF.1 43 i = nI (s0 19 i) := rfl
theorem e_45 (i : Nat) : EF.1 45 i = nI (s0 22 i) := rfl
theorem e_46 (i : Nat) : EF.1 46 i = nI (s0 23 i) := rfl
theorem e_47 (i : Nat) : EF.1 47 i = nI (s0 24 i) := rfl
theorem e_48 (i : Nat) : EF.1 48 i = nI (s0 25 i) := rfl
theorem e_50 (i : Nat) : EF.1 50 i = nI (s0 27 i) := rfl
theorem f_RI : RI (tS x 65 HF) (tD x EF) (x + 28) s0 := ⟨f_RS, ((dI_t (o := 28)).trans rfl), ((dI_t (o := 28)).trans rfl), ((dI_t (o := 28)).trans rfl), ((dI_t (o := 28)).trans rfl), ((dI_t (o := 28)).trans rfl), ((dI_t (o := 28)).trans rfl), (fun i _ => (dI_t (o := 29)).trans (e_29 i)), (fun i _ => (dI_t (o := 30)).trans (e_30 i)), (fun i _ => (dI_t (o := 31)).trans (e_31 i)), (fun i _ => (dI_t (o := 32)).trans (e_32 i)), (fun i _ => (dI_t (o := 33)).trans (e_33 i)), (fun i _ => (dI_t (o := 34)).trans (e_34 i)), (fun i _ => (dI_t (o := 35)).trans (e_35 i)), (fun i _ => (dI_t (o := 36)).trans (e_36 i)), (fun i _ => (dI_t (o := 37)).trans (e_37 i)), (fun i _ => (dI_t (o := 38)).trans (e_38 i)), (fun i _ => (dI_t (o := 39)).trans (e_39 i)), (fun i _ => (dI_t (o := 40)).trans (e_40 i)), (fun i _ => (dI_t (o := 41)).trans (e_41 i)), (fun i _ => (dI_t (o := 42)).trans (e_42 i)), (fun i _ => (dI_t (o := 43)).trans (e_43 i)), (fun i _ => (dI_t (o := 45)).trans (e_45 i)), (fun i _ => (dI_t (o := 46)).trans (e_46 i)), (fun i _ => (dI_t (o := 47)).trans (e_47 i)), (fun i _ => (dI_t (o := 48)).trans (e_48 i)), (fun i _ => (dI_t (o := 50)).trans (e_50 i))⟩
end ini
