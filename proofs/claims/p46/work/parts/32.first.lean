-- the memory with which the law's loop begins
theorem wsT_congr {ad : Nat → Int → Nat} {cI : ClassId} {cR : Nat → ClassId} {τ τ2 : Mm} (h : ∀ q ∈ cellsL, ∀ j : Int, τ2 q.1 q.2 j = τ q.1 q.2 j) : wsT ad cI cR τ2 = wsT ad cI cR τ := by
  unfold wsT
  refine List.map_congr_left fun q hq => ?_
  have e : τ2 q.1 q.2 = τ q.1 q.2 := funext (h q hq)
  have e2 : cE ad cI cR τ2 q.1 q.2 = cE ad cI cR τ q.1 q.2 := by
    unfold cE fval
    rw [e]
  rw [e2]
theorem cells_ok : cellsL.all (fun q => decide (0 ≤ q.2) && decide (q.2 < (cnt q.1 : Int)) && decide (2 ≤ q.1)) = true := by decide +kernel
def tN (L : Nat) (xs : Nat → Int32) : Mm := fun c i j => if c = 0 then t0 L xs c i j else if 0 ≤ i ∧ i < (cnt c : Int) then t1 c i j else 0
theorem tN_v {L : Nat} {xs : Nat → Int32} {c : Nat} {i j : Int} (hc : c ≠ 0) (h0 : 0 ≤ i) (h1 : i < (cnt c : Int)) : tN L xs c i j = t1 c i j := by
  unfold tN
  rw [if_neg hc, if_pos ⟨h0, h1⟩]
theorem wsN {ad : Nat → Int → Nat} {cI : ClassId} {cR : Nat → ClassId} {L : Nat} {xs : Nat → Int32} : wsT ad cI cR (tN L xs) = wsT ad cI cR (t0 L xs) := wsT_congr fun q hq j => by
  have h := List.all_eq_true.mp cells_ok q hq
  simp only [Bool.and_eq_true, decide_eq_true_eq] at h
  rw [tN_v (by omega) h.1.1 h.1.2]
  exact (t0_ge h.2).symm
theorem tN_rg {L : Nat} {xs : Nat → Int32} (hL : L ≤ 3072) : rgF (tN L xs) := fun c i j => by
  unfold tN
  split
  · exact t0_rg hL c i j
  · split
    · exact inR_wr _
    · exact ⟨by omega, by omega⟩
theorem t1_zero {c n : Nat} {i : Int} (h : LL[idn c i]? = some (1, n, fun _ => vI 0)) (j : Int) : t1 c i j = 0 := by
  unfold t1
  rw [h]
  rfl
theorem lz_9_0 : LL[idn 9 0]? = some (1, 121, fun _ => vI 0) := rfl
theorem lz_9_1 : LL[idn 9 1]? = some (1, 121, fun _ => vI 0) := rfl
theorem lz_9_2 : LL[idn 9 2]? = some (1, 121, fun _ => vI 0) := rfl
theorem lz_9_3 : LL[idn 9 3]? = some (1, 121, fun _ => vI 0) := rfl
theorem lz_9_4 : LL[idn 9 4]? = some (1, 121, fun _ => vI 0) := rfl
theorem lz_9_5 : LL[idn 9 5]? = some (1, 121, fun _ => vI 0) := rfl
theorem lz_9_6 : LL[idn 9 6]? = some (1, 121, fun _ => vI 0) := rfl
theorem lz_15_0 : LL[idn 15 0]? = some (1, 16, fun _ => vI 0) := rfl
theorem lz_35_0 : LL[idn 35 0]? = some (1, 16, fun _ => vI 0) := rfl
theorem lz_22_0 : LL[idn 22 0]? = some (1, 121, fun _ => vI 0) := rfl
theorem lz_22_1 : LL[idn 22 1]? = some (1, 121, fun _ => vI 0) := rfl
theorem lz_22_2 : LL[idn 22 2]? = some (1, 121, fun _ => vI 0) := rfl
theorem lz_22_3 : LL[idn 22 3]? = some (1, 121, fun _ => vI 0) := rfl
theorem lz_22_4 : LL[idn 22 4]? = some (1, 121, fun _ => vI 0) := rfl
theorem lz_52_0 : LL[idn 52 0]? = some (1, 605, fun _ => vI 0) := rfl
theorem lz_40_0 : LL[idn 40 0]? = some (1, 8, fun _ => vI 0) := rfl
theorem lz_47_0 : LL[idn 47 0]? = some (1, 4, fun _ => vI 0) := rfl
theorem lz_31_0 : LL[idn 31 0]? = some (1, 176, fun _ => vI 0) := rfl
theorem tz_9 {L : Nat} {xs : Nat → Int32} (i j : Int) : tN L xs 9 i j = 0 := by
  by_cases h : 0 ≤ i ∧ i < 7
  · rcases (by omega : i = 0 ∨ i = 1 ∨ i = 2 ∨ i = 3 ∨ i = 4 ∨ i = 5 ∨ i = 6) with rfl | rfl | rfl | rfl | rfl | rfl | rfl
    · rw [tN_v (by decide) (by decide) (by decide)]; exact t1_zero lz_9_0 j
    · rw [tN_v (by decide) (by decide) (by decide)]; exact t1_zero lz_9_1 j
    · rw [tN_v (by decide) (by decide) (by decide)]; exact t1_zero lz_9_2 j
    · rw [tN_v (by decide) (by decide) (by decide)]; exact t1_zero lz_9_3 j
    · rw [tN_v (by decide) (by decide) (by decide)]; exact t1_zero lz_9_4 j
    · rw [tN_v (by decide) (by decide) (by decide)]; exact t1_zero lz_9_5 j
    · rw [tN_v (by decide) (by decide) (by decide)]; exact t1_zero lz_9_6 j
  · unfold tN
    rw [if_neg (by decide), if_neg (show ¬ (0 ≤ i ∧ i < ((cnt 9 : Nat) : Int)) from h)]
theorem tz_15 {L : Nat} {xs : Nat → Int32} (i j : Int) : tN L xs 15 i j = 0 := by
  by_cases h : 0 ≤ i ∧ i < 1
  · obtain rfl : i = 0 := by omega
    rw [tN_v (by decide) (by decide) (by decide)]
    exact t1_zero lz_15_0 j
  · unfold tN
    rw [if_neg (by decide), if_neg (show ¬ (0 ≤ i ∧ i < ((cnt 15 : Nat) : Int)) from h)]
theorem tz_35 {L : Nat} {xs : Nat → Int32} (i j : Int) : tN L xs 35 i j = 0 := by
  by_cases h : 0 ≤ i ∧ i < 1
  · obtain rfl : i = 0 := by omega
    rw [tN_v (by decide) (by decide) (by decide)]
    exact t1_zero lz_35_0 j
  · unfold tN
    rw [if_neg (by decide), if_neg (show ¬ (0 ≤ i ∧ i < ((cnt 35 : Nat) : Int)) from h)]
theorem tz_22 {L : Nat} {xs : Nat → Int32} (i j : Int) : tN L xs 22 i j = 0 := by
  by_cases h : 0 ≤ i ∧ i < 5
  · rcases (by omega : i = 0 ∨ i = 1 ∨ i = 2 ∨ i = 3 ∨ i = 4) with rfl | rfl | rfl | rfl | rfl
    · rw [tN_v (by decide) (by decide) (by decide)]; exact t1_zero lz_22_0 j
    · rw [tN_v (by decide) (by decide) (by decide)]; exact t1_zero lz_22_1 j
    · rw [tN_v (by decide) (by decide) (by decide)]; exact t1_zero lz_22_2 j
    · rw [tN_v (by decide) (by decide) (by decide)]; exact t1_zero lz_22_3 j
    · rw [tN_v (by decide) (by decide) (by decide)]; exact t1_zero lz_22_4 j
  · unfold tN
    rw [if_neg (by decide), if_neg (show ¬ (0 ≤ i ∧ i < ((cnt 22 : Nat) : Int)) from h)]
theorem tz_52 {L : Nat} {xs : Nat → Int32} (i j : Int) : tN L xs 52 i j = 0 := by
  by_cases h : 0 ≤ i ∧ i < 1
  · obtain rfl : i = 0 := by omega
    rw [tN_v (by decide) (by decide) (by decide)]
    exact t1_zero lz_52_0 j
  · unfold tN
    rw [if_neg (by decide), if_neg (show ¬ (0 ≤ i ∧ i < ((cnt 52 : Nat) : Int)) from h)]
theorem tz_40 {L : Nat} {xs : Nat → Int32} (i j : Int) : tN L xs 40 i j = 0 := by
  by_cases h : 0 ≤ i ∧ i < 1
  · obtain rfl : i = 0 := by omega
    rw [tN_v (by decide) (by decide) (by decide)]
    exact t1_zero lz_40_0 j
  · unfold tN
    rw [if_neg (by decide), if_neg (show ¬ (0 ≤ i ∧ i < ((cnt 40 : Nat) : Int)) from h)]
theorem tz_47 {L : Nat} {xs : Nat → Int32} (i j : Int) : tN L xs 47 i j = 0 := by
  by_cases h : 0 ≤ i ∧ i < 1
  · obtain rfl : i = 0 := by omega
    rw [tN_v (by decide) (by decide) (by decide)]
    exact t1_zero lz_47_0 j
  · unfold tN
    rw [if_neg (by decide), if_neg (show ¬ (0 ≤ i ∧ i < ((cnt 47 : Nat) : Int)) from h)]
theorem tz_31 {L : Nat} {xs : Nat → Int32} (i j : Int) : tN L xs 31 i j = 0 := by
  by_cases h : 0 ≤ i ∧ i < 1
  · obtain rfl : i = 0 := by omega
    rw [tN_v (by decide) (by decide) (by decide)]
    exact t1_zero lz_31_0 j
  · unfold tN
    rw [if_neg (by decide), if_neg (show ¬ (0 ≤ i ∧ i < ((cnt 31 : Nat) : Int)) from h)]
theorem l45 : LL[idn 45 0]? = some (1, 4, updC (updC (updC (updC (fun _ => vI 0) (0 : Int).toNat (vI (-1))) (1 : Int).toNat (vI (-1))) (2 : Int).toNat (vI (-1))) (3 : Int).toNat (vI (-1))) := rfl
theorem t45 (j : Int) : t1 45 0 j = -1 ∨ t1 45 0 j = 0 := by
  unfold t1
  rw [l45]
  show wr (toI (updC (updC (updC (updC (fun _ => vI 0) (0 : Int).toNat (vI (-1))) (1 : Int).toNat (vI (-1))) (2 : Int).toNat (vI (-1))) (3 : Int).toNat (vI (-1)) j.toNat)) = -1 ∨ wr (toI (updC (updC (updC (updC (fun _ => vI 0) (0 : Int).toNat (vI (-1))) (1 : Int).toNat (vI (-1))) (2 : Int).toNat (vI (-1))) (3 : Int).toNat (vI (-1)) j.toNat)) = 0
  unfold updC
  split
  · exact Or.inl rfl
  · split
    · exact Or.inl rfl
    · split
      · exact Or.inl rfl
      · split
        · exact Or.inl rfl
        · exact Or.inr rfl
theorem tN45 {L : Nat} {xs : Nat → Int32} (i j : Int) : tN L xs 45 i j = -1 ∨ tN L xs 45 i j = 0 := by
  by_cases h : 0 ≤ i ∧ i < 1
  · obtain rfl : i = 0 := by omega
    rw [tN_v (by decide) (by decide) (by decide)]
    exact t45 j
  · refine Or.inr ?_
    unfold tN
    rw [if_neg (by decide), if_neg (show ¬ (0 ≤ i ∧ i < ((cnt 45 : Nat) : Int)) from h)]
theorem lz_8_0 : LL[idn 8 0]? = some (1, 121, fun _ => vI 0) := rfl
theorem lz_8_1 : LL[idn 8 1]? = some (1, 121, fun _ => vI 0) := rfl
theorem lz_8_2 : LL[idn 8 2]? = some (1, 121, fun _ => vI 0) := rfl
theorem lz_8_3 : LL[idn 8 3]? = some (1, 121, fun _ => vI 0) := rfl
theorem lz_8_4 : LL[idn 8 4]? = some (1, 121, fun _ => vI 0) := rfl
theorem lz_8_5 : LL[idn 8 5]? = some (1, 121, fun _ => vI 0) := rfl
theorem lz_8_6 : LL[idn 8 6]? = some (1, 121, fun _ => vI 0) := rfl
theorem tz_8 {L : Nat} {xs : Nat → Int32} (i j : Int) : tN L xs 8 i j = 0 := by
  by_cases h : 0 ≤ i ∧ i < 7
  · rcases (by omega : i = 0 ∨ i = 1 ∨ i = 2 ∨ i = 3 ∨ i = 4 ∨ i = 5 ∨ i = 6) with rfl | rfl | rfl | rfl | rfl | rfl | rfl
    · rw [tN_v (by decide) (by decide) (by decide)]; exact t1_zero lz_8_0 j
    · rw [tN_v (by decide) (by decide) (by decide)]; exact t1_zero lz_8_1 j
    · rw [tN_v (by decide) (by decide) (by decide)]; exact t1_zero lz_8_2 j
    · rw [tN_v (by decide) (by decide) (by decide)]; exact t1_zero lz_8_3 j
    · rw [tN_v (by decide) (by decide) (by decide)]; exact t1_zero lz_8_4 j
    · rw [tN_v (by decide) (by decide) (by decide)]; exact t1_zero lz_8_5 j
    · rw [tN_v (by decide) (by decide) (by decide)]; exact t1_zero lz_8_6 j
  · unfold tN
    rw [if_neg (by decide), if_neg (show ¬ (0 ≤ i ∧ i < ((cnt 8 : Nat) : Int)) from h)]
theorem lz_10_0 : LL[idn 10 0]? = some (1, 121, fun _ => vI 0) := rfl
theorem lz_10_1 : LL[idn 10 1]? = some (1, 121, fun _ => vI 0) := rfl
theorem lz_10_2 : LL[idn 10 2]? = some (1, 121, fun _ => vI 0) := rfl
theorem lz_10_3 : LL[idn 10 3]? = some (1, 121, fun _ => vI 0) := rfl
theorem lz_10_4 : LL[idn 10 4]? = some (1, 121, fun _ => vI 0) := rfl
theorem lz_10_5 : LL[idn 10 5]? = some (1, 121, fun _ => vI 0) := rfl
theorem lz_10_6 : LL[idn 10 6]? = some (1, 121, fun _ => vI 0) := rfl
theorem tz_10 {L : Nat} {xs : Nat → Int32} (i j : Int) : tN L xs 10 i j = 0 := by
  by_cases h : 0 ≤ i ∧ i < 7
  · rcases (by omega : i = 0 ∨ i = 1 ∨ i = 2 ∨ i = 3 ∨ i = 4 ∨ i = 5 ∨ i = 6) with rfl | rfl | rfl | rfl | rfl | rfl | rfl
    · rw [tN_v (by decide) (by decide) (by decide)]; exact t1_zero lz_10_0 j
    · rw [tN_v (by decide) (by decide) (by decide)]; exact t1_zero lz_10_1 j
    · rw [tN_v (by decide) (by decide) (by decide)]; exact t1_zero lz_10_2 j
    · rw [tN_v (by decide) (by decide) (by decide)]; exact t1_zero lz_10_3 j
    · rw [tN_v (by decide) (by decide) (by decide)]; exact t1_zero lz_10_4 j
    · rw [tN_v (by decide) (by decide) (by decide)]; exact t1_zero lz_10_5 j
    · rw [tN_v (by decide) (by decide) (by decide)]; exact t1_zero lz_10_6 j
  · unfold tN
    rw [if_neg (by decide), if_neg (show ¬ (0 ≤ i ∧ i < ((cnt 10 : Nat) : Int)) from h)]
theorem lz_32_0 : LL[idn 32 0]? = some (1, 968, fun _ => vI 0) := rfl
theorem tz_32 {L : Nat} {xs : Nat → Int32} (i j : Int) : tN L xs 32 i j = 0 := by
  by_cases h : 0 ≤ i ∧ i < 1
  · obtain rfl : i = 0 := by omega
    rw [tN_v (by decide) (by decide) (by decide)]
    exact t1_zero lz_32_0 j
  · unfold tN
    rw [if_neg (by decide), if_neg (show ¬ (0 ≤ i ∧ i < ((cnt 32 : Nat) : Int)) from h)]
theorem lz_33_0 : LL[idn 33 0]? = some (1, 968, fun _ => vI 0) := rfl
theorem tz_33 {L : Nat} {xs : Nat → Int32} (i j : Int) : tN L xs 33 i j = 0 := by
  by_cases h : 0 ≤ i ∧ i < 1
  · obtain rfl : i = 0 := by omega
    rw [tN_v (by decide) (by decide) (by decide)]
    exact t1_zero lz_33_0 j
  · unfold tN
    rw [if_neg (by decide), if_neg (show ¬ (0 ≤ i ∧ i < ((cnt 33 : Nat) : Int)) from h)]
theorem lz_34_0 : LL[idn 34 0]? = some (1, 968, fun _ => vI 0) := rfl
theorem tz_34 {L : Nat} {xs : Nat → Int32} (i j : Int) : tN L xs 34 i j = 0 := by
  by_cases h : 0 ≤ i ∧ i < 1
  · obtain rfl : i = 0 := by omega
    rw [tN_v (by decide) (by decide) (by decide)]
    exact t1_zero lz_34_0 j
  · unfold tN
    rw [if_neg (by decide), if_neg (show ¬ (0 ≤ i ∧ i < ((cnt 34 : Nat) : Int)) from h)]
theorem lz_41_0 : LL[idn 41 0]? = some (1, 8, fun _ => vI 0) := rfl
theorem tz_41 {L : Nat} {xs : Nat → Int32} (i j : Int) : tN L xs 41 i j = 0 := by
  by_cases h : 0 ≤ i ∧ i < 1
  · obtain rfl : i = 0 := by omega
    rw [tN_v (by decide) (by decide) (by decide)]
    exact t1_zero lz_41_0 j
  · unfold tN
    rw [if_neg (by decide), if_neg (show ¬ (0 ≤ i ∧ i < ((cnt 41 : Nat) : Int)) from h)]
theorem lz_42_0 : LL[idn 42 0]? = some (1, 8, fun _ => vI 0) := rfl
theorem tz_42 {L : Nat} {xs : Nat → Int32} (i j : Int) : tN L xs 42 i j = 0 := by
  by_cases h : 0 ≤ i ∧ i < 1
  · obtain rfl : i = 0 := by omega
    rw [tN_v (by decide) (by decide) (by decide)]
    exact t1_zero lz_42_0 j
  · unfold tN
    rw [if_neg (by decide), if_neg (show ¬ (0 ≤ i ∧ i < ((cnt 42 : Nat) : Int)) from h)]
theorem lz_43_0 : LL[idn 43 0]? = some (1, 8, fun _ => vI 0) := rfl
theorem tz_43 {L : Nat} {xs : Nat → Int32} (i j : Int) : tN L xs 43 i j = 0 := by
  by_cases h : 0 ≤ i ∧ i < 1
  · obtain rfl : i = 0 := by omega
    rw [tN_v (by decide) (by decide) (by decide)]
    exact t1_zero lz_43_0 j
  · unfold tN
    rw [if_neg (by decide), if_neg (show ¬ (0 ≤ i ∧ i < ((cnt 43 : Nat) : Int)) from h)]
theorem lz_44_0 : LL[idn 44 0]? = some (1, 8, fun _ => vI 0) := rfl
theorem tz_44 {L : Nat} {xs : Nat → Int32} (i j : Int) : tN L xs 44 i j = 0 := by
  by_cases h : 0 ≤ i ∧ i < 1
  · obtain rfl : i = 0 := by omega
    rw [tN_v (by decide) (by decide) (by decide)]
    exact t1_zero lz_44_0 j
  · unfold tN
    rw [if_neg (by decide), if_neg (show ¬ (0 ≤ i ∧ i < ((cnt 44 : Nat) : Int)) from h)]
theorem lz_46_0 : LL[idn 46 0]? = some (1, 4, fun _ => vI 0) := rfl
theorem tz_46 {L : Nat} {xs : Nat → Int32} (i j : Int) : tN L xs 46 i j = 0 := by
  by_cases h : 0 ≤ i ∧ i < 1
  · obtain rfl : i = 0 := by omega
    rw [tN_v (by decide) (by decide) (by decide)]
    exact t1_zero lz_46_0 j
  · unfold tN
    rw [if_neg (by decide), if_neg (show ¬ (0 ≤ i ∧ i < ((cnt 46 : Nat) : Int)) from h)]
theorem lz_48_0 : LL[idn 48 0]? = some (1, 4, fun _ => vI 0) := rfl
theorem tz_48 {L : Nat} {xs : Nat → Int32} (i j : Int) : tN L xs 48 i j = 0 := by
  by_cases h : 0 ≤ i ∧ i < 1
  · obtain rfl : i = 0 := by omega
    rw [tN_v (by decide) (by decide) (by decide)]
    exact t1_zero lz_48_0 j
  · unfold tN
    rw [if_neg (by decide), if_neg (show ¬ (0 ≤ i ∧ i < ((cnt 48 : Nat) : Int)) from h)]
theorem f7 (j : Int) (hj : j = 1 ∨ j = 2 ∨ j = 3 ∨ j = 4 ∨ j = 5 ∨ j = 6 ∨ j = 10 ∨ j = 12 ∨ j = 13 ∨ j = 14 ∨ j = 15) {L : Nat} {xs : Nat → Int32} (i : Int) : tN L xs 7 i j = 0 := by
  by_cases h : 0 ≤ i ∧ i < 7
  · rw [tN_v (c := 7) (by decide) h.1 (show i < (7 : Int) from h.2)]
    rcases hj with rfl | rfl | rfl | rfl | rfl | rfl | rfl | rfl | rfl | rfl | rfl
    · exact of_decide_eq_true (allI (n := 7) (P := fun i => decide (t1 7 i 1 = 0)) (by decide +kernel) h.1 h.2)
    · exact of_decide_eq_true (allI (n := 7) (P := fun i => decide (t1 7 i 2 = 0)) (by decide +kernel) h.1 h.2)
    · exact of_decide_eq_true (allI (n := 7) (P := fun i => decide (t1 7 i 3 = 0)) (by decide +kernel) h.1 h.2)
    · exact of_decide_eq_true (allI (n := 7) (P := fun i => decide (t1 7 i 4 = 0)) (by decide +kernel) h.1 h.2)
    · exact of_decide_eq_true (allI (n := 7) (P := fun i => decide (t1 7 i 5 = 0)) (by decide +kernel) h.1 h.2)
    · exact of_decide_eq_true (allI (n := 7) (P := fun i => decide (t1 7 i 6 = 0)) (by decide +kernel) h.1 h.2)
    · exact of_decide_eq_true (allI (n := 7) (P := fun i => decide (t1 7 i 10 = 0)) (by decide +kernel) h.1 h.2)
    · exact of_decide_eq_true (allI (n := 7) (P := fun i => decide (t1 7 i 12 = 0)) (by decide +kernel) h.1 h.2)
    · exact of_decide_eq_true (allI (n := 7) (P := fun i => decide (t1 7 i 13 = 0)) (by decide +kernel) h.1 h.2)
    · exact of_decide_eq_true (allI (n := 7) (P := fun i => decide (t1 7 i 14 = 0)) (by decide +kernel) h.1 h.2)
    · exact of_decide_eq_true (allI (n := 7) (P := fun i => decide (t1 7 i 15 = 0)) (by decide +kernel) h.1 h.2)
  · unfold tN
    rw [if_neg (by decide), if_neg (show ¬ (0 ≤ i ∧ i < ((cnt 7 : Nat) : Int)) from h)]
theorem f7n {L : Nat} {xs : Nat → Int32} (i : Int) (h0 : 0 ≤ i) (h3 : i ≤ 3) : tN L xs 7 i 0 = i := by
  rw [tN_v (c := 7) (by decide) h0 (show i < (7 : Int) by omega)]
  exact of_decide_eq_true (allI (n := 4) (P := fun i => decide (t1 7 i 0 = i)) (by decide +kernel) h0 (by omega))
theorem f13 {L : Nat} {xs : Nat → Int32} (i : Int) (h0 : 0 ≤ i) (h3 : i ≤ 3) : tN L xs 13 i 0 = -1 := by
  rw [tN_v (c := 13) (by decide) h0 (show i < (4 : Int) by omega)]
  exact of_decide_eq_true (allI (n := 4) (P := fun i => decide (t1 13 i 0 = -1)) (by decide +kernel) h0 (by omega))
theorem f45 {L : Nat} {xs : Nat → Int32} (i : Int) (h0 : 0 ≤ i) (h3 : i ≤ 3) : tN L xs 45 0 i = -1 := by
  rw [tN_v (by decide) (by decide) (by decide)]
  exact of_decide_eq_true (allI (n := 4) (P := fun i => decide (t1 45 0 i = -1)) (by decide +kernel) h0 (by omega))
theorem f1 (c : Nat) (k : Int) (hc : c ≠ 0) (hn : cnt c = 1) (h : t1 c 0 k = 0) {L : Nat} {xs : Nat → Int32} (i : Int) : tN L xs c i k = 0 := by
  by_cases q : 0 ≤ i ∧ i < 1
  · obtain rfl : i = 0 := by omega
    rw [tN_v hc (by decide) (by rw [hn]; decide)]
    exact h
  · unfold tN
    rw [if_neg hc, if_neg (by rw [hn]; exact q)]
theorem g11 {L : Nat} {xs : Nat → Int32} {i j : Int} (h0 : 0 ≤ i) (h1 : i < 8) (hj : j = 0 ∨ j = 1 ∨ j = 2 ∨ j = 3 ∨ j = 4 ∨ j = 5 ∨ j = 6) : tN L xs 11 i j = 0 := by
  rw [tN_v (c := 11) (by decide) h0 (show i < (8 : Int) from h1)]
  rcases hj with rfl | rfl | rfl | rfl | rfl | rfl | rfl
  · exact of_decide_eq_true (allI (n := 8) (P := fun i => decide (t1 11 i 0 = 0)) (by decide +kernel) h0 h1)
  · exact of_decide_eq_true (allI (n := 8) (P := fun i => decide (t1 11 i 1 = 0)) (by decide +kernel) h0 h1)
  · exact of_decide_eq_true (allI (n := 8) (P := fun i => decide (t1 11 i 2 = 0)) (by decide +kernel) h0 h1)
  · exact of_decide_eq_true (allI (n := 8) (P := fun i => decide (t1 11 i 3 = 0)) (by decide +kernel) h0 h1)
  · exact of_decide_eq_true (allI (n := 8) (P := fun i => decide (t1 11 i 4 = 0)) (by decide +kernel) h0 h1)
  · exact of_decide_eq_true (allI (n := 8) (P := fun i => decide (t1 11 i 5 = 0)) (by decide +kernel) h0 h1)
  · exact of_decide_eq_true (allI (n := 8) (P := fun i => decide (t1 11 i 6 = 0)) (by decide +kernel) h0 h1)
theorem g12 {L : Nat} {xs : Nat → Int32} {i j : Int} (h0 : 0 ≤ i) (h1 : i < 8) (hj : j = 1 ∨ j = 2 ∨ j = 3 ∨ j = 4 ∨ j = 5) : tN L xs 12 i j = 0 := by
  rw [tN_v (c := 12) (by decide) h0 (show i < (8 : Int) from h1)]
  rcases hj with rfl | rfl | rfl | rfl | rfl
  · exact of_decide_eq_true (allI (n := 8) (P := fun i => decide (t1 12 i 1 = 0)) (by decide +kernel) h0 h1)
  · exact of_decide_eq_true (allI (n := 8) (P := fun i => decide (t1 12 i 2 = 0)) (by decide +kernel) h0 h1)
  · exact of_decide_eq_true (allI (n := 8) (P := fun i => decide (t1 12 i 3 = 0)) (by decide +kernel) h0 h1)
  · exact of_decide_eq_true (allI (n := 8) (P := fun i => decide (t1 12 i 4 = 0)) (by decide +kernel) h0 h1)
  · exact of_decide_eq_true (allI (n := 8) (P := fun i => decide (t1 12 i 5 = 0)) (by decide +kernel) h0 h1)
theorem g13 {L : Nat} {xs : Nat → Int32} {i j : Int} (h0 : 0 ≤ i) (h1 : i < 4) (hj : j = 1 ∨ j = 2 ∨ j = 3) : tN L xs 13 i j = 0 := by
  rw [tN_v (c := 13) (by decide) h0 (show i < (4 : Int) from h1)]
  rcases hj with rfl | rfl | rfl
  · exact of_decide_eq_true (allI (n := 4) (P := fun i => decide (t1 13 i 1 = 0)) (by decide +kernel) h0 h1)
  · exact of_decide_eq_true (allI (n := 4) (P := fun i => decide (t1 13 i 2 = 0)) (by decide +kernel) h0 h1)
  · exact of_decide_eq_true (allI (n := 4) (P := fun i => decide (t1 13 i 3 = 0)) (by decide +kernel) h0 h1)
theorem g120 {L : Nat} {xs : Nat → Int32} {i : Int} (h0 : 0 ≤ i) (h1 : i < 8) : tN L xs 12 i 0 = -1 := by
  rw [tN_v (c := 12) (by decide) h0 (show i < (8 : Int) from h1)]
  exact of_decide_eq_true (allI (n := 8) (P := fun i => decide (t1 12 i 0 = -1)) (by decide +kernel) h0 h1)
theorem g39 {L : Nat} {xs : Nat → Int32} {i : Int} (h0 : 0 ≤ i) (h1 : i < 8) : tN L xs 39 0 i = -1 := by
  rw [tN_v (by decide) (by decide) (by decide)]
  exact of_decide_eq_true (allI (n := 8) (P := fun i => decide (t1 39 0 i = -1)) (by decide +kernel) h0 h1)
theorem g36 {L : Nat} {xs : Nat → Int32} {i : Int} (h0 : 0 ≤ i) (h1 : i < 8) : tN L xs 36 0 i = tN L xs 16 0 i := by
  rw [tN_v (by decide) (by decide) (by decide), tN_v (by decide) (by decide) (by decide)]
  exact of_decide_eq_true (allI (n := 8) (P := fun i => decide (t1 36 0 i = t1 16 0 i)) (by decide +kernel) h0 h1)
theorem okN {L : Nat} {xs : Nat → Int32} (c : Nat) (i j : Int) : Okv c j (tN L xs c i j) := by
  unfold Okv
  split
  · refine ⟨fun h => ?_, fun h => ?_, fun h => ?_⟩
    · subst h; rw [f7 6 (by omega)]; omega
    · subst h; rw [f7 1 (by omega)]; omega
    · subst h; rw [f7 2 (by omega)]; omega
  · intro h
    subst h
    rw [f1 14 5 (by decide) rfl (by decide +kernel)]
    omega
  · rw [tz_9]; omega
  · rw [tz_33]; omega
  · rw [tz_15]; omega
  · rw [tz_35]; omega
  · rw [tz_22]; omega
  · rw [tz_52]; omega
  · rw [tz_40]; omega
  · rw [tz_47]; omega
  · rcases tN45 (L := L) (xs := xs) i j with h | h <;> rw [h] <;> omega
  · intro h
    subst h
    rw [f1 30 8 (by decide) rfl (by decide +kernel)]
    omega
  · rw [tz_31]; omega
  · trivial
theorem inFN {L : Nat} {xs : Nat → Int32} : InF (tN L xs) := by
  unfold InF
  rw [f1 14 5 (by decide) rfl (by decide +kernel)]
  omega
theorem abN {L : Nat} {xs : Nat → Int32} : Ab eT (tN L xs) (tN L xs) := ⟨fun _ _ _ _ => rfl, okN, fun _ => trivial, fun _ => inFN⟩
theorem rbN {L : Nat} {xs : Nat → Int32} : RB (tN L xs 0) (tN L xs) := by
  have h6 : ∀ i : Int, tN L xs 7 i 6 = 0 := fun i => f7 6 (by omega) i
  refine ⟨fun _ _ => rfl, ⟨⟨fun l a b => f7n l a b, fun l a b => ?_, fun l a b => ?_, fun l a b => ?_⟩, ⟨fun l a b j c d => ?_, fun l a b => ?_, fun l y a b c d => ?_, fun l a b => ?_, fun l a b c => ?_, fun l a b => ?_, fun w a b => ?_, fun j a b => ?_⟩, fun l a b => ?_⟩, ⟨⟨fun m u g x y z => ?_, fun m u g x y z => ?_, fun m u x y z w => ?_, fun w x y => ?_, fun w x y => ?_, fun w x y => ?_, fun w x y => ?_, fun c x y z => rfl⟩, fun l a b => ?_, fun l a b c => ?_⟩⟩
  · rw [h6]
    unfold FI
    rw [g11 a (by omega) (j := 0) (by omega), g11 a (by omega) (j := 1) (by omega), g11 a (by omega) (j := 2) (by omega), g11 a (by omega) (j := 3) (by omega)]
    omega
  · rw [h6, f7 3 (by omega), f7 4 (by omega)]
    unfold Rst
    omega
  · rw [f13 l a b]; omega
  · rw [h6] at d; omega
  · rw [f7 10 (by omega), f7 5 (by omega), f7 4 (by omega)]; omega
  · rw [tz_8, tz_9]; omega
  · rw [f7 1 (by omega), f7 2 (by omega)]; omega
  · rw [f7 1 (by omega)] at c; omega
  · left; exact f13 l a b
  · refine ⟨Or.inl (g120 a (by omega)), Or.inl (g12 a (by omega) (by omega))⟩
  · rw [tz_15]; omega
  · rw [h6, f7 15 (by omega)]; omega
  · rw [tz_31, f7 u (by unfold P7 at z; omega)]
  · rw [tz_31, g11 x (by omega) (by unfold P11 at z; omega)]
  · rw [tz_32, tz_33, tz_34, tz_8, tz_9, tz_10]; exact ⟨rfl, rfl, rfl⟩
  · rw [g39 x (by omega), g120 x (by omega), tz_40, tz_41, tz_42, tz_43, tz_44, g12 x (by omega) (j := 1) (by omega), g12 x (by omega) (j := 2) (by omega), g12 x (by omega) (j := 3) (by omega), g12 x (by omega) (j := 4) (by omega), g12 x (by omega) (j := 5) (by omega)]; exact ⟨rfl, rfl, rfl, rfl, rfl, rfl⟩
  · rw [f45 w x y, f13 w x y, tz_46, tz_47, tz_48, g13 x (by omega) (j := 1) (by omega), g13 x (by omega) (j := 2) (by omega), g13 x (by omega) (j := 3) (by omega)]; exact ⟨rfl, rfl, rfl, rfl⟩
  · rw [tz_35, tz_15]
  · exact g36 x (by omega)
  · rw [tz_31, tz_31, g11 a (by omega) (j := 3) (by omega)]; exact ⟨rfl, rfl⟩
  · rw [f7 1 (by omega)] at c; omega
