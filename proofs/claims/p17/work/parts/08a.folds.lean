-- B: the fold's steps, told whole
theorem x_floorMod {e : Ev} {d : Nat} {P : Option Vl → Mm → Prop} {σ : Mm} {a b : Int} (b_b : 1 ≤ b ∧ b ≤ 1000)  (k : 0 ≤ a % b ∧ a % b < b → P (some (vI (a % b))) σ) : WT e (d + 1) 262 [vI a, vI b] σ P := by
  refine WT_in fun K hK => ?_
  have hK : StpY e cJ9_floorMod_7cf53 RJ9 (some .int) (WT e (d + 0)) P K := hK
  have hM := hK.1
  have hC := hK.1.1
  show K 0 [some (vI a), some (vI b), none] [] σ
  refine r_rngz hC (fun g0 => ?_)
  have r_a : -2147483648 ≤ a ∧ a ≤ 2147483647 := inR_le (g0 (vI a) (by simp))
  refine r_iload_n hC dJ9_floorMod_7cf53_0 rfl ?_
  refine r_iload_n hC dJ9_floorMod_7cf53_1 rfl ?_
  refine r_irem hC dJ9_floorMod_7cf53_2 (by omega) ?_
  have f_v1 := tmod_fr (a := a) (b := b) (by omega)
  refine r_istore_n hC dJ9_floorMod_7cf53_3 rfl ?_
  refine r_iload_n hC dJ9_floorMod_7cf53_4 rfl ?_
  refine r_iload_n hC dJ9_floorMod_7cf53_5 rfl ?_
  refine r_ixorS hC dJ9_floorMod_7cf53_6 (by omega) (by omega) (fun v2 h_v2 s_v2 => ?_)
  refine r_if_ge (tgt := 18) hC dJ9_floorMod_7cf53_7 rfl (fun h3 => ?_) (fun h3 => ?_)
  · refine r_iload_n hC dJ9_floorMod_7cf53_18 rfl ?_
    refine y_iret hK rfl dJ9_floorMod_7cf53_19 ?_
    have e := emod_tm (a := a) (b := b) (by omega)
    have e2 : a % b = (Int.tmod a b) := by omega
    rw [e2] at k
    exact k (by omega)
  · refine r_iload_n hC dJ9_floorMod_7cf53_10 rfl ?_
    refine r_if_eq (tgt := 18) hC dJ9_floorMod_7cf53_11 rfl (fun h4 => ?_) (fun h4 => ?_)
    · refine r_iload_n hC dJ9_floorMod_7cf53_18 rfl ?_
      refine y_iret hK rfl dJ9_floorMod_7cf53_19 ?_
      have e := emod_tm (a := a) (b := b) (by omega)
      have e2 : a % b = (Int.tmod a b) := by omega
      rw [e2] at k
      exact k (by omega)
    · refine r_iload_n hC dJ9_floorMod_7cf53_14 rfl ?_
      refine r_iload_n hC dJ9_floorMod_7cf53_15 rfl ?_
      refine r_iaddE hC (((Int.tmod a b) + b)) dJ9_floorMod_7cf53_16 (by omega) (by unfold inR; omega) ?_
      refine y_iret hK rfl dJ9_floorMod_7cf53_17 ?_
      have e := emod_tm (a := a) (b := b) (by omega)
      have e2 : a % b = ((Int.tmod a b) + b) := by omega
      rw [e2] at k
      exact k (by omega)
theorem x_abs {e : Ev} {d : Nat} {P : Option Vl → Mm → Prop} {σ : Mm} {a : Int} (b_a : -1000 ≤ a ∧ a ≤ 1000)  (k : ∀ r : Int, 0 ≤ r ∧ r ≤ 1000 → r = a ∨ r = -a → P (some (vI r)) σ) : WT e (d + 1) 263 [vI a] σ P := by
  refine WT_in fun K hK => ?_
  have hK : StpY e cJ9_abs_0f7a4 RJ9 (some .int) (WT e (d + 0)) P K := hK
  have hM := hK.1
  have hC := hK.1.1
  show K 0 [some (vI a)] [] σ
  refine r_iload_n hC dJ9_abs_0f7a4_0 rfl ?_
  refine r_if_ge (tgt := 9) hC dJ9_abs_0f7a4_1 rfl (fun h1 => ?_) (fun h1 => ?_)
  · refine r_iload_n hC dJ9_abs_0f7a4_9 rfl ?_
    refine y_iret hK rfl dJ9_abs_0f7a4_10 ?_
    exact k _ (by omega) (by omega)
  · refine r_iload_n hC dJ9_abs_0f7a4_4 rfl ?_
    refine r_inegS hC dJ9_abs_0f7a4_5 (by unfold inR; omega) ?_
    refine r_goto (tgt := 10) hC dJ9_abs_0f7a4_6 rfl ?_
    refine y_iret hK rfl dJ9_abs_0f7a4_10 ?_
    exact k _ (by omega) (by omega)
theorem x_max {e : Ev} {d : Nat} {P : Option Vl → Mm → Prop} {σ : Mm} {a b : Int}   (k : ∀ r : Int, (a ≤ r ∧ b ≤ r ∧ (r = a ∨ r = b)) → P (some (vI r)) σ) : WT e (d + 1) 264 [vI a, vI b] σ P := by
  refine WT_in fun K hK => ?_
  have hK : StpY e cJ9_max_7cf53 RJ9 (some .int) (WT e (d + 0)) P K := hK
  have hM := hK.1
  have hC := hK.1.1
  show K 0 [some (vI a), some (vI b)] [] σ
  refine r_rngz hC (fun g0 => ?_)
  have r_a : -2147483648 ≤ a ∧ a ≤ 2147483647 := inR_le (g0 (vI a) (by simp))
  have r_b : -2147483648 ≤ b ∧ b ≤ 2147483647 := inR_le (g0 (vI b) (by simp))
  refine r_iload_n hC dJ9_max_7cf53_0 rfl ?_
  refine r_iload_n hC dJ9_max_7cf53_1 rfl ?_
  refine r_icmp_lt (tgt := 9) hC dJ9_max_7cf53_2 rfl (fun h1 => ?_) (fun h1 => ?_)
  · refine r_iload_n hC dJ9_max_7cf53_9 rfl ?_
    refine y_iret hK rfl dJ9_max_7cf53_10 ?_
    exact k _ (by omega)
  · refine r_iload_n hC dJ9_max_7cf53_5 rfl ?_
    refine r_goto (tgt := 10) hC dJ9_max_7cf53_6 rfl ?_
    refine y_iret hK rfl dJ9_max_7cf53_10 ?_
    exact k _ (by omega)
theorem x_min {e : Ev} {d : Nat} {P : Option Vl → Mm → Prop} {σ : Mm} {a b : Int}   (k : ∀ r : Int, (r ≤ a ∧ r ≤ b ∧ (r = a ∨ r = b)) → P (some (vI r)) σ) : WT e (d + 1) 265 [vI a, vI b] σ P := by
  refine WT_in fun K hK => ?_
  have hK : StpY e cJ9_min_7cf53 RJ9 (some .int) (WT e (d + 0)) P K := hK
  have hM := hK.1
  have hC := hK.1.1
  show K 0 [some (vI a), some (vI b)] [] σ
  refine r_rngz hC (fun g0 => ?_)
  have r_a : -2147483648 ≤ a ∧ a ≤ 2147483647 := inR_le (g0 (vI a) (by simp))
  have r_b : -2147483648 ≤ b ∧ b ≤ 2147483647 := inR_le (g0 (vI b) (by simp))
  refine r_iload_n hC dJ9_min_7cf53_0 rfl ?_
  refine r_iload_n hC dJ9_min_7cf53_1 rfl ?_
  refine r_icmp_gt (tgt := 9) hC dJ9_min_7cf53_2 rfl (fun h1 => ?_) (fun h1 => ?_)
  · refine r_iload_n hC dJ9_min_7cf53_9 rfl ?_
    refine y_iret hK rfl dJ9_min_7cf53_10 ?_
    exact k _ (by omega)
  · refine r_iload_n hC dJ9_min_7cf53_5 rfl ?_
    refine r_goto (tgt := 10) hC dJ9_min_7cf53_6 rfl ?_
    refine y_iret hK rfl dJ9_min_7cf53_10 ?_
    exact k _ (by omega)
-- what bitCount computes, as it computes it (one walk for all sixteen numbers)
def bcA (a : Int) : Int := wr (a - iand (iushr a 1) 1431655765)
def bcB (x : Int) : Int := wr (iand x 858993459 + iand (iushr x 2) 858993459)
def bcC (x : Int) : Int := iand (wr (x + iushr x 4)) 252645135
def bcD (x : Int) : Int := wr (x + iushr x 8)
def bcE (x : Int) : Int := wr (x + iushr x 16)
def bcF (a : Int) : Int := iand (bcE (bcD (bcC (bcB (bcA a))))) 63
theorem x_bcW {e : Ev} {d : Nat} {P : Option Vl → Mm → Prop} {σ : Mm} {a : Int} (k : P (some (vI (bcF a))) σ) : WT e (d + 1) 261 [vI a] σ P := by
  refine WT_in fun K hK => ?_
  have hK : StpY e cJ6_bitCount_0f7a4 RJ6 (some .int) (WT e (d + 0)) P K := hK
  have hM := hK.1
  have hC := hK.1.1
  show K 0 [some (vI a)] [] σ
  refine r_iload_n hC dJ6_bitCount_0f7a4_0 rfl ?_
  refine r_iload_n hC dJ6_bitCount_0f7a4_1 rfl ?_
  refine r_iconst hC dJ6_bitCount_0f7a4_2 rfl ?_
  refine r_iushr hC dJ6_bitCount_0f7a4_3 ?_
  refine r_ldcw hC dJ6_bitCount_0f7a4_4 co_RJ6_265 rfl ?_
  refine r_iand hC dJ6_bitCount_0f7a4_7 ?_
  refine r_isub hC dJ6_bitCount_0f7a4_8 ?_
  refine r_istore_n hC dJ6_bitCount_0f7a4_9 rfl ?_
  show K _ [some (vI (bcA a))] [] σ
  refine r_iload_n hC dJ6_bitCount_0f7a4_10 rfl ?_
  refine r_ldcw hC dJ6_bitCount_0f7a4_11 co_RJ6_266 rfl ?_
  refine r_iand hC dJ6_bitCount_0f7a4_14 ?_
  refine r_iload_n hC dJ6_bitCount_0f7a4_15 rfl ?_
  refine r_iconst hC dJ6_bitCount_0f7a4_16 rfl ?_
  refine r_iushr hC dJ6_bitCount_0f7a4_17 ?_
  refine r_ldcw hC dJ6_bitCount_0f7a4_18 co_RJ6_266 rfl ?_
  refine r_iand hC dJ6_bitCount_0f7a4_21 ?_
  refine r_iadd hC dJ6_bitCount_0f7a4_22 ?_
  refine r_istore_n hC dJ6_bitCount_0f7a4_23 rfl ?_
  show K _ [some (vI (bcB (bcA a)))] [] σ
  refine r_iload_n hC dJ6_bitCount_0f7a4_24 rfl ?_
  refine r_iload_n hC dJ6_bitCount_0f7a4_25 rfl ?_
  refine r_iconst hC dJ6_bitCount_0f7a4_26 rfl ?_
  refine r_iushr hC dJ6_bitCount_0f7a4_27 ?_
  refine r_iadd hC dJ6_bitCount_0f7a4_28 ?_
  refine r_ldcw hC dJ6_bitCount_0f7a4_29 co_RJ6_267 rfl ?_
  refine r_iand hC dJ6_bitCount_0f7a4_32 ?_
  refine r_istore_n hC dJ6_bitCount_0f7a4_33 rfl ?_
  show K _ [some (vI (bcC (bcB (bcA a))))] [] σ
  refine r_iload_n hC dJ6_bitCount_0f7a4_34 rfl ?_
  refine r_iload_n hC dJ6_bitCount_0f7a4_35 rfl ?_
  refine r_bipush hC dJ6_bitCount_0f7a4_36 rfl ?_
  refine r_iushr hC dJ6_bitCount_0f7a4_38 ?_
  refine r_iadd hC dJ6_bitCount_0f7a4_39 ?_
  refine r_istore_n hC dJ6_bitCount_0f7a4_40 rfl ?_
  show K _ [some (vI (bcD (bcC (bcB (bcA a)))))] [] σ
  refine r_iload_n hC dJ6_bitCount_0f7a4_41 rfl ?_
  refine r_iload_n hC dJ6_bitCount_0f7a4_42 rfl ?_
  refine r_bipush hC dJ6_bitCount_0f7a4_43 rfl ?_
  refine r_iushr hC dJ6_bitCount_0f7a4_45 ?_
  refine r_iadd hC dJ6_bitCount_0f7a4_46 ?_
  refine r_istore_n hC dJ6_bitCount_0f7a4_47 rfl ?_
  show K _ [some (vI (bcE (bcD (bcC (bcB (bcA a))))))] [] σ
  refine r_iload_n hC dJ6_bitCount_0f7a4_48 rfl ?_
  refine r_bipush hC dJ6_bitCount_0f7a4_49 rfl ?_
  refine r_iand hC dJ6_bitCount_0f7a4_51 ?_
  refine y_iret hK rfl dJ6_bitCount_0f7a4_52 ?_
  exact k
theorem bcA_0 : bcA 0 = 0 := by decide +kernel
theorem bcB_0 : bcB 0 = 0 := by decide +kernel
theorem bcC_0 : bcC 0 = 0 := by decide +kernel
theorem bcD_0 : bcD 0 = 0 := by decide +kernel
theorem bcE_0 : bcE 0 = 0 := by decide +kernel
theorem bcZ_0 : iand 0 63 = 0 := by decide +kernel
theorem bcF_0 : bcF 0 = 0 := by
  unfold bcF
  rw [bcA_0, bcB_0, bcC_0, bcD_0, bcE_0, bcZ_0]
theorem bcA_1 : bcA 1 = 1 := by decide +kernel
theorem bcB_1 : bcB 1 = 1 := by decide +kernel
theorem bcC_1 : bcC 1 = 1 := by decide +kernel
theorem bcD_1 : bcD 1 = 1 := by decide +kernel
theorem bcE_1 : bcE 1 = 1 := by decide +kernel
theorem bcZ_1 : iand 1 63 = 1 := by decide +kernel
theorem bcF_1 : bcF 1 = 1 := by
  unfold bcF
  rw [bcA_1, bcB_1, bcC_1, bcD_1, bcE_1, bcZ_1]
theorem bcA_2 : bcA 2 = 1 := by decide +kernel
theorem bcF_2 : bcF 2 = 1 := by
  unfold bcF
  rw [bcA_2, bcB_1, bcC_1, bcD_1, bcE_1, bcZ_1]
theorem bcA_3 : bcA 3 = 2 := by decide +kernel
theorem bcB_2 : bcB 2 = 2 := by decide +kernel
theorem bcC_2 : bcC 2 = 2 := by decide +kernel
theorem bcD_2 : bcD 2 = 2 := by decide +kernel
theorem bcE_2 : bcE 2 = 2 := by decide +kernel
theorem bcZ_2 : iand 2 63 = 2 := by decide +kernel
theorem bcF_3 : bcF 3 = 2 := by
  unfold bcF
  rw [bcA_3, bcB_2, bcC_2, bcD_2, bcE_2, bcZ_2]
theorem bcA_4 : bcA 4 = 4 := by decide +kernel
theorem bcB_4 : bcB 4 = 1 := by decide +kernel
theorem bcF_4 : bcF 4 = 1 := by
  unfold bcF
  rw [bcA_4, bcB_4, bcC_1, bcD_1, bcE_1, bcZ_1]
theorem bcA_5 : bcA 5 = 5 := by decide +kernel
theorem bcB_5 : bcB 5 = 2 := by decide +kernel
theorem bcF_5 : bcF 5 = 2 := by
  unfold bcF
  rw [bcA_5, bcB_5, bcC_2, bcD_2, bcE_2, bcZ_2]
theorem bcA_6 : bcA 6 = 5 := by decide +kernel
theorem bcF_6 : bcF 6 = 2 := by
  unfold bcF
  rw [bcA_6, bcB_5, bcC_2, bcD_2, bcE_2, bcZ_2]
theorem bcA_7 : bcA 7 = 6 := by decide +kernel
theorem bcB_6 : bcB 6 = 3 := by decide +kernel
theorem bcC_3 : bcC 3 = 3 := by decide +kernel
theorem bcD_3 : bcD 3 = 3 := by decide +kernel
theorem bcE_3 : bcE 3 = 3 := by decide +kernel
theorem bcZ_3 : iand 3 63 = 3 := by decide +kernel
theorem bcF_7 : bcF 7 = 3 := by
  unfold bcF
  rw [bcA_7, bcB_6, bcC_3, bcD_3, bcE_3, bcZ_3]
theorem bcA_8 : bcA 8 = 4 := by decide +kernel
theorem bcF_8 : bcF 8 = 1 := by
  unfold bcF
  rw [bcA_8, bcB_4, bcC_1, bcD_1, bcE_1, bcZ_1]
theorem bcA_9 : bcA 9 = 5 := by decide +kernel
theorem bcF_9 : bcF 9 = 2 := by
  unfold bcF
  rw [bcA_9, bcB_5, bcC_2, bcD_2, bcE_2, bcZ_2]
theorem bcA_10 : bcA 10 = 5 := by decide +kernel
theorem bcF_10 : bcF 10 = 2 := by
  unfold bcF
  rw [bcA_10, bcB_5, bcC_2, bcD_2, bcE_2, bcZ_2]
theorem bcA_11 : bcA 11 = 6 := by decide +kernel
theorem bcF_11 : bcF 11 = 3 := by
  unfold bcF
  rw [bcA_11, bcB_6, bcC_3, bcD_3, bcE_3, bcZ_3]
theorem bcA_12 : bcA 12 = 8 := by decide +kernel
theorem bcB_8 : bcB 8 = 2 := by decide +kernel
theorem bcF_12 : bcF 12 = 2 := by
  unfold bcF
  rw [bcA_12, bcB_8, bcC_2, bcD_2, bcE_2, bcZ_2]
theorem bcA_13 : bcA 13 = 9 := by decide +kernel
theorem bcB_9 : bcB 9 = 3 := by decide +kernel
theorem bcF_13 : bcF 13 = 3 := by
  unfold bcF
  rw [bcA_13, bcB_9, bcC_3, bcD_3, bcE_3, bcZ_3]
theorem bcA_14 : bcA 14 = 9 := by decide +kernel
theorem bcF_14 : bcF 14 = 3 := by
  unfold bcF
  rw [bcA_14, bcB_9, bcC_3, bcD_3, bcE_3, bcZ_3]
theorem bcA_15 : bcA 15 = 10 := by decide +kernel
theorem bcB_10 : bcB 10 = 4 := by decide +kernel
theorem bcC_4 : bcC 4 = 4 := by decide +kernel
theorem bcD_4 : bcD 4 = 4 := by decide +kernel
theorem bcE_4 : bcE 4 = 4 := by decide +kernel
theorem bcZ_4 : iand 4 63 = 4 := by decide +kernel
theorem bcF_15 : bcF 15 = 4 := by
  unfold bcF
  rw [bcA_15, bcB_10, bcC_4, bcD_4, bcE_4, bcZ_4]
theorem bcF_eq {a : Int} (b_a : 0 ≤ a ∧ a ≤ 15) : bcF a = a % 2 + a / 2 % 2 + a / 4 % 2 + a / 8 % 2 := by
  rcases (by omega : a = 0 ∨ a = 1 ∨ a = 2 ∨ a = 3 ∨ a = 4 ∨ a = 5 ∨ a = 6 ∨ a = 7 ∨ a = 8 ∨ a = 9 ∨ a = 10 ∨ a = 11 ∨ a = 12 ∨ a = 13 ∨ a = 14 ∨ a = 15) with rfl | rfl | rfl | rfl | rfl | rfl | rfl | rfl | rfl | rfl | rfl | rfl | rfl | rfl | rfl | rfl
  · exact bcF_0
  · exact bcF_1
  · exact bcF_2
  · exact bcF_3
  · exact bcF_4
  · exact bcF_5
  · exact bcF_6
  · exact bcF_7
  · exact bcF_8
  · exact bcF_9
  · exact bcF_10
  · exact bcF_11
  · exact bcF_12
  · exact bcF_13
  · exact bcF_14
  · exact bcF_15
theorem x_bitCount {e : Ev} {d : Nat} {P : Option Vl → Mm → Prop} {σ : Mm} {a : Int} (b_a : 0 ≤ a ∧ a ≤ 15) (k : P (some (vI (a % 2 + a / 2 % 2 + a / 4 % 2 + a / 8 % 2))) σ) : WT e (d + 1) 261 [vI a] σ P := by
  refine x_bcW ?_
  rw [bcF_eq b_a]
  exact k
theorem x_addGreatest {eb : Bool} {d : Nat} {P : Option Vl → Mm → Prop} {σ : Mm} {v n0 n1 n2 n3 n : Int} (b_v : -1000 ≤ v ∧ v ≤ 1000) (qg0 : σ 17 0 0 = n0) (b_n1 : 0 ≤ n1 ∧ n1 ≤ 1000) (qg1 : σ 17 0 1 = n1) (qg2 : σ 17 0 2 = n2) (qg3 : σ 17 0 3 = n3) (b_n : 0 ≤ n ∧ n ≤ 1000) (qg4 : σ 14 0 6 = n)  (k : ∀ ρ : Mm, Gx (fun c x y => c = 17 ∧ x = 0 ∨ c = 14 ∧ x = 0 ∧ y = 7) σ ρ → ρ 17 0 0 = (if n = 0 ∨ v > n0 then v else n0) → ρ 17 0 1 = (if n = 0 ∨ v > n0 then 1 else if v = n0 then n1 + 1 else n1) → ρ 17 0 2 = (if n = 0 ∨ v > n0 then n else n2) → ρ 17 0 3 = (n + 1) → P none ρ) : WT (true, true, eb) (d + 1) 15 [vR 14 0, vI v] σ P := by
  refine WT_in fun K hK => ?_
  have hK : StpY (true, true, eb) cX1_addGreatest RX1 (none) (WT (true, true, eb) (d + 0)) P K := hK
  have hM := hK.1
  have hC := hK.1.1
  show K 0 [some (vR 14 0), some (vI v)] [] σ
  refine r_aload_n hC dX1_addGreatest_0 rfl ?_
  refine z_getI (jz := 6) hM dX1_addGreatest_1 fl_RX1_34 rfl rfl rfl (fun v1 h_v1 o_v1 t_v1 => ?_)
  have e_v1 : n = v1 := ((t_v1 ((by simp [Tk, Tb, DL, DF, DX]))).trans qg4).symm
  subst e_v1
  refine r_if_eq (tgt := 17) hC dX1_addGreatest_4 rfl (fun h2 => ?_) (fun h2 => ?_)
  · refine r_aload_n hC dX1_addGreatest_17 rfl ?_
    refine z_getR hM dX1_addGreatest_18 fl_RX1_24 rfl rfl (vld_of (n := 1) rfl (by omega) (by omega)) ?_
    refine r_iconst hC dX1_addGreatest_21 rfl ?_
    refine r_iload_n hC dX1_addGreatest_22 rfl ?_
    refine z_iastG hM dX1_addGreatest_23 rfl (by omega) (by omega) (by simp [Tl, DL, DF]) (by first | trivial | (simp only [Okv]; omega) | (simp [Okv]; try omega)) (fun ρ3 a_ρ3 q_ρ3 => ?_)
    refine r_aload_n hC dX1_addGreatest_24 rfl ?_
    refine z_getR hM dX1_addGreatest_25 fl_RX1_24 rfl rfl (vld_of (n := 1) rfl (by omega) (by omega)) ?_
    refine r_iconst hC dX1_addGreatest_28 rfl ?_
    refine r_iconst hC dX1_addGreatest_29 rfl ?_
    refine z_iastG hM dX1_addGreatest_30 rfl (by omega) (by omega) (by simp [Tl, DL, DF]) (by first | trivial | (simp only [Okv]; omega) | (simp [Okv]; try omega)) (fun ρ4 a_ρ4 q_ρ4 => ?_)
    refine r_aload_n hC dX1_addGreatest_31 rfl ?_
    refine z_getR hM dX1_addGreatest_32 fl_RX1_24 rfl rfl (vld_of (n := 1) rfl (by omega) (by omega)) ?_
    refine r_iconst hC dX1_addGreatest_35 rfl ?_
    refine r_aload_n hC dX1_addGreatest_36 rfl ?_
    refine z_getI (jz := 6) hM dX1_addGreatest_37 fl_RX1_34 rfl rfl rfl (fun v5 h_v5 o_v5 t_v5 => ?_)
    have e_v5 : n = v5 := ((t_v5 ((by simp [Tk, Tb, DL, DF, DX]))).trans ((a_ρ4 _ _ _ (by omega)).trans ((a_ρ3 _ _ _ (by omega)).trans qg4))).symm
    subst e_v5
    refine z_iastG hM dX1_addGreatest_40 rfl (by omega) (by omega) (by simp [Tl, DL, DF]) (by first | trivial | (simp only [Okv]; omega) | (simp [Okv]; try omega)) (fun ρ6 a_ρ6 q_ρ6 => ?_)
    refine r_goto (tgt := 64) hC dX1_addGreatest_41 rfl ?_
    refine r_aload_n hC dX1_addGreatest_64 rfl ?_
    refine z_getR hM dX1_addGreatest_65 fl_RX1_24 rfl rfl (vld_of (n := 1) rfl (by omega) (by omega)) ?_
    refine r_iconst hC dX1_addGreatest_68 rfl ?_
    refine r_aload_n hC dX1_addGreatest_69 rfl ?_
    refine z_getI (jz := 6) hM dX1_addGreatest_70 fl_RX1_34 rfl rfl rfl (fun v7 h_v7 o_v7 t_v7 => ?_)
    have e_v7 : n = v7 := ((t_v7 ((by simp [Tk, Tb, DL, DF, DX]))).trans ((a_ρ6 _ _ _ (by omega)).trans ((a_ρ4 _ _ _ (by omega)).trans ((a_ρ3 _ _ _ (by omega)).trans qg4)))).symm
    subst e_v7
    refine r_iconst hC dX1_addGreatest_73 rfl ?_
    refine r_iaddE hC ((n + 1)) dX1_addGreatest_74 (by omega) (by unfold inR; omega) ?_
    refine z_iastG hM dX1_addGreatest_75 rfl (by omega) (by omega) (by simp [Tl, DL, DF]) (by first | trivial | (simp only [Okv]; omega) | (simp [Okv]; try omega)) (fun ρ8 a_ρ8 q_ρ8 => ?_)
    refine y_vret hK rfl dX1_addGreatest_76 ?_
    exact k _ (((((Gx.rf).al a_ρ3 (by first | (simp; done) | omega | (simp; omega))).al a_ρ4 (by first | (simp; done) | omega | (simp; omega))).al a_ρ6 (by first | (simp; done) | omega | (simp; omega))).al a_ρ8 (by first | (simp; done) | omega | (simp; omega))) (by have hq := ((a_ρ8 _ _ _ (by omega)).trans ((a_ρ6 _ _ _ (by omega)).trans ((a_ρ4 _ _ _ (by omega)).trans q_ρ3))); (repeat' split) <;> omega) (by have hq := ((a_ρ8 _ _ _ (by omega)).trans ((a_ρ6 _ _ _ (by omega)).trans q_ρ4)); (repeat' split) <;> omega) (by have hq := ((a_ρ8 _ _ _ (by omega)).trans q_ρ6); (repeat' split) <;> omega) (by have hq := q_ρ8; (repeat' split) <;> omega)
  · refine r_iload_n hC dX1_addGreatest_7 rfl ?_
    refine r_aload_n hC dX1_addGreatest_8 rfl ?_
    refine z_getR hM dX1_addGreatest_9 fl_RX1_24 rfl rfl (vld_of (n := 1) rfl (by omega) (by omega)) ?_
    refine r_iconst hC dX1_addGreatest_12 rfl ?_
    refine z_iald hM dX1_addGreatest_13 rfl (by omega) (by omega) (fun v9 h_v9 o_v9 t_v9 => ?_)
    have e_v9 : n0 = v9 := ((t_v9 ((by simp [Tk, Tb, DL, DF, DX]))).trans qg0).symm
    subst e_v9
    refine r_icmp_le (tgt := 44) hC dX1_addGreatest_14 rfl (fun h10 => ?_) (fun h10 => ?_)
    · refine r_iload_n hC dX1_addGreatest_44 rfl ?_
      refine r_aload_n hC dX1_addGreatest_45 rfl ?_
      refine z_getR hM dX1_addGreatest_46 fl_RX1_24 rfl rfl (vld_of (n := 1) rfl (by omega) (by omega)) ?_
      refine r_iconst hC dX1_addGreatest_49 rfl ?_
      refine z_iald hM dX1_addGreatest_50 rfl (by omega) (by omega) (fun v11 h_v11 o_v11 t_v11 => ?_)
      have e_v11 : n0 = v11 := ((t_v11 ((by simp [Tk, Tb, DL, DF, DX]))).trans qg0).symm
      subst e_v11
      refine r_icmp_ne (tgt := 64) hC dX1_addGreatest_51 rfl (fun h12 => ?_) (fun h12 => ?_)
      · refine r_aload_n hC dX1_addGreatest_64 rfl ?_
        refine z_getR hM dX1_addGreatest_65 fl_RX1_24 rfl rfl (vld_of (n := 1) rfl (by omega) (by omega)) ?_
        refine r_iconst hC dX1_addGreatest_68 rfl ?_
        refine r_aload_n hC dX1_addGreatest_69 rfl ?_
        refine z_getI (jz := 6) hM dX1_addGreatest_70 fl_RX1_34 rfl rfl rfl (fun v13 h_v13 o_v13 t_v13 => ?_)
        have e_v13 : n = v13 := ((t_v13 ((by simp [Tk, Tb, DL, DF, DX]))).trans qg4).symm
        subst e_v13
        refine r_iconst hC dX1_addGreatest_73 rfl ?_
        refine r_iaddE hC ((n + 1)) dX1_addGreatest_74 (by omega) (by unfold inR; omega) ?_
        refine z_iastG hM dX1_addGreatest_75 rfl (by omega) (by omega) (by simp [Tl, DL, DF]) (by first | trivial | (simp only [Okv]; omega) | (simp [Okv]; try omega)) (fun ρ14 a_ρ14 q_ρ14 => ?_)
        refine y_vret hK rfl dX1_addGreatest_76 ?_
        exact k _ ((Gx.rf).al a_ρ14 (by first | (simp; done) | omega | (simp; omega))) (by have hq := ((a_ρ14 _ _ _ (by omega)).trans qg0); (repeat' split) <;> omega) (by have hq := ((a_ρ14 _ _ _ (by omega)).trans qg1); (repeat' split) <;> omega) (by have hq := ((a_ρ14 _ _ _ (by omega)).trans qg2); (repeat' split) <;> omega) (by have hq := q_ρ14; (repeat' split) <;> omega)
      · refine r_aload_n hC dX1_addGreatest_54 rfl ?_
        refine z_getR hM dX1_addGreatest_55 fl_RX1_24 rfl rfl (vld_of (n := 1) rfl (by omega) (by omega)) ?_
        refine r_iconst hC dX1_addGreatest_58 rfl ?_
        refine r_dup2 hC dX1_addGreatest_59 rfl rfl ?_
        refine z_iald hM dX1_addGreatest_60 rfl (by omega) (by omega) (fun v15 h_v15 o_v15 t_v15 => ?_)
        have e_v15 : n1 = v15 := ((t_v15 ((by simp [Tk, Tb, DL, DF, DX]))).trans qg1).symm
        subst e_v15
        refine r_iconst hC dX1_addGreatest_61 rfl ?_
        refine r_iaddE hC ((n1 + 1)) dX1_addGreatest_62 (by omega) (by unfold inR; omega) ?_
        refine z_iastG hM dX1_addGreatest_63 rfl (by omega) (by omega) (by simp [Tl, DL, DF]) (by first | trivial | (simp only [Okv]; omega) | (simp [Okv]; try omega)) (fun ρ16 a_ρ16 q_ρ16 => ?_)
        refine r_aload_n hC dX1_addGreatest_64 rfl ?_
        refine z_getR hM dX1_addGreatest_65 fl_RX1_24 rfl rfl (vld_of (n := 1) rfl (by omega) (by omega)) ?_
        refine r_iconst hC dX1_addGreatest_68 rfl ?_
        refine r_aload_n hC dX1_addGreatest_69 rfl ?_
        refine z_getI (jz := 6) hM dX1_addGreatest_70 fl_RX1_34 rfl rfl rfl (fun v17 h_v17 o_v17 t_v17 => ?_)
        have e_v17 : n = v17 := ((t_v17 ((by simp [Tk, Tb, DL, DF, DX]))).trans ((a_ρ16 _ _ _ (by omega)).trans qg4)).symm
        subst e_v17
        refine r_iconst hC dX1_addGreatest_73 rfl ?_
        refine r_iaddE hC ((n + 1)) dX1_addGreatest_74 (by omega) (by unfold inR; omega) ?_
        refine z_iastG hM dX1_addGreatest_75 rfl (by omega) (by omega) (by simp [Tl, DL, DF]) (by first | trivial | (simp only [Okv]; omega) | (simp [Okv]; try omega)) (fun ρ18 a_ρ18 q_ρ18 => ?_)
        refine y_vret hK rfl dX1_addGreatest_76 ?_
        exact k _ (((Gx.rf).al a_ρ16 (by first | (simp; done) | omega | (simp; omega))).al a_ρ18 (by first | (simp; done) | omega | (simp; omega))) (by have hq := ((a_ρ18 _ _ _ (by omega)).trans ((a_ρ16 _ _ _ (by omega)).trans qg0)); (repeat' split) <;> omega) (by have hq := ((a_ρ18 _ _ _ (by omega)).trans q_ρ16); (repeat' split) <;> omega) (by have hq := ((a_ρ18 _ _ _ (by omega)).trans ((a_ρ16 _ _ _ (by omega)).trans qg2)); (repeat' split) <;> omega) (by have hq := q_ρ18; (repeat' split) <;> omega)
    · refine r_aload_n hC dX1_addGreatest_17 rfl ?_
      refine z_getR hM dX1_addGreatest_18 fl_RX1_24 rfl rfl (vld_of (n := 1) rfl (by omega) (by omega)) ?_
      refine r_iconst hC dX1_addGreatest_21 rfl ?_
      refine r_iload_n hC dX1_addGreatest_22 rfl ?_
      refine z_iastG hM dX1_addGreatest_23 rfl (by omega) (by omega) (by simp [Tl, DL, DF]) (by first | trivial | (simp only [Okv]; omega) | (simp [Okv]; try omega)) (fun ρ19 a_ρ19 q_ρ19 => ?_)
      refine r_aload_n hC dX1_addGreatest_24 rfl ?_
      refine z_getR hM dX1_addGreatest_25 fl_RX1_24 rfl rfl (vld_of (n := 1) rfl (by omega) (by omega)) ?_
      refine r_iconst hC dX1_addGreatest_28 rfl ?_
      refine r_iconst hC dX1_addGreatest_29 rfl ?_
      refine z_iastG hM dX1_addGreatest_30 rfl (by omega) (by omega) (by simp [Tl, DL, DF]) (by first | trivial | (simp only [Okv]; omega) | (simp [Okv]; try omega)) (fun ρ20 a_ρ20 q_ρ20 => ?_)
      refine r_aload_n hC dX1_addGreatest_31 rfl ?_
      refine z_getR hM dX1_addGreatest_32 fl_RX1_24 rfl rfl (vld_of (n := 1) rfl (by omega) (by omega)) ?_
      refine r_iconst hC dX1_addGreatest_35 rfl ?_
      refine r_aload_n hC dX1_addGreatest_36 rfl ?_
      refine z_getI (jz := 6) hM dX1_addGreatest_37 fl_RX1_34 rfl rfl rfl (fun v21 h_v21 o_v21 t_v21 => ?_)
      have e_v21 : n = v21 := ((t_v21 ((by simp [Tk, Tb, DL, DF, DX]))).trans ((a_ρ20 _ _ _ (by omega)).trans ((a_ρ19 _ _ _ (by omega)).trans qg4))).symm
      subst e_v21
      refine z_iastG hM dX1_addGreatest_40 rfl (by omega) (by omega) (by simp [Tl, DL, DF]) (by first | trivial | (simp only [Okv]; omega) | (simp [Okv]; try omega)) (fun ρ22 a_ρ22 q_ρ22 => ?_)
      refine r_goto (tgt := 64) hC dX1_addGreatest_41 rfl ?_
      refine r_aload_n hC dX1_addGreatest_64 rfl ?_
      refine z_getR hM dX1_addGreatest_65 fl_RX1_24 rfl rfl (vld_of (n := 1) rfl (by omega) (by omega)) ?_
      refine r_iconst hC dX1_addGreatest_68 rfl ?_
      refine r_aload_n hC dX1_addGreatest_69 rfl ?_
      refine z_getI (jz := 6) hM dX1_addGreatest_70 fl_RX1_34 rfl rfl rfl (fun v23 h_v23 o_v23 t_v23 => ?_)
      have e_v23 : n = v23 := ((t_v23 ((by simp [Tk, Tb, DL, DF, DX]))).trans ((a_ρ22 _ _ _ (by omega)).trans ((a_ρ20 _ _ _ (by omega)).trans ((a_ρ19 _ _ _ (by omega)).trans qg4)))).symm
      subst e_v23
      refine r_iconst hC dX1_addGreatest_73 rfl ?_
      refine r_iaddE hC ((n + 1)) dX1_addGreatest_74 (by omega) (by unfold inR; omega) ?_
      refine z_iastG hM dX1_addGreatest_75 rfl (by omega) (by omega) (by simp [Tl, DL, DF]) (by first | trivial | (simp only [Okv]; omega) | (simp [Okv]; try omega)) (fun ρ24 a_ρ24 q_ρ24 => ?_)
      refine y_vret hK rfl dX1_addGreatest_76 ?_
      exact k _ (((((Gx.rf).al a_ρ19 (by first | (simp; done) | omega | (simp; omega))).al a_ρ20 (by first | (simp; done) | omega | (simp; omega))).al a_ρ22 (by first | (simp; done) | omega | (simp; omega))).al a_ρ24 (by first | (simp; done) | omega | (simp; omega))) (by have hq := ((a_ρ24 _ _ _ (by omega)).trans ((a_ρ22 _ _ _ (by omega)).trans ((a_ρ20 _ _ _ (by omega)).trans q_ρ19))); (repeat' split) <;> omega) (by have hq := ((a_ρ24 _ _ _ (by omega)).trans ((a_ρ22 _ _ _ (by omega)).trans q_ρ20)); (repeat' split) <;> omega) (by have hq := ((a_ρ24 _ _ _ (by omega)).trans q_ρ22); (repeat' split) <;> omega) (by have hq := q_ρ24; (repeat' split) <;> omega)
theorem x_addShare {eb : Bool} {d : Nat} {P : Option Vl → Mm → Prop} {σ : Mm} {v n0 n1 : Int} (b_v : -1000 ≤ v ∧ v ≤ 1000) (b_n0 : 0 ≤ n0) (qg0 : σ 17 0 0 = n0) (b_n1 : 0 ≤ n1 ∧ n1 ≤ 1000) (qg1 : σ 17 0 1 = n1)  (k : ∀ ρ : Mm, Gx (fun c x y => c = 17 ∧ x = 0 ∨ c = 14 ∧ x = 0 ∧ y = 7) σ ρ → ρ 17 0 0 = (((Int.gcd n0 v : Nat) : Int)) → ρ 17 0 1 = (n1 + (if v = 0 then 0 else 1)) → P none ρ) : WT (true, true, eb) (d + 2) 16 [vR 14 0, vI v] σ P := by
  refine WT_in fun K hK => ?_
  have hK : StpY (true, true, eb) cX1_addShare RX1 (none) (WT (true, true, eb) (d + 1)) P K := hK
  have hM := hK.1
  have hC := hK.1.1
  show K 0 [some (vR 14 0), some (vI v), none, none, none, none] [] σ
  refine r_aload_n hC dX1_addShare_0 rfl ?_
  refine z_getR hM dX1_addShare_1 fl_RX1_24 rfl rfl (vld_of (n := 1) rfl (by omega) (by omega)) ?_
  refine r_iconst hC dX1_addShare_4 rfl ?_
  refine z_iald hM dX1_addShare_5 rfl (by omega) (by omega) (fun v1 h_v1 o_v1 t_v1 => ?_)
  have e_v1 : n0 = v1 := ((t_v1 ((by simp [Tk, Tb, DL, DF, DX]))).trans qg0).symm
  subst e_v1
  refine r_istore_n hC dX1_addShare_6 rfl ?_
  refine r_iload_n hC dX1_addShare_7 rfl ?_
  refine z_ins1 hM dX1_addShare_8 tl_RX1_88 rfl (Nat.le_of_ble_eq_true rfl) (Nat.le_of_ble_eq_true rfl) ?_
  refine x_abs (by omega) (fun v2 h_v2 a_v2 => ?_)
  refine r_istore_n hC dX1_addShare_11 rfl ?_
  refine r_iconst hC dX1_addShare_12 rfl ?_
  refine r_istore hC dX1_addShare_13 rfl ?_
  have L15 : ∀ (n15 : Nat) (w3 w4 w5 : Int) (ρ6 : Mm), 0 ≤ w3 ∧ w3 ≤ 9223372036854775808 → 0 ≤ w4 ∧ w4 ≤ 1000 → 0 ≤ w5 ∧ w5 ≤ 1001 → (((Int.gcd (w3) (w4) : Nat) : Int) = ((Int.gcd n0 v : Nat) : Int)) → ((w4) ≤ 1000 - (w5)) → 1001 - w5 < (n15 : Int) → Gx (fun c x y => c = 17 ∧ x = 0 ∨ c = 14 ∧ x = 0 ∧ y = 7) σ ρ6 → ρ6 17 0 0 = n0 → ρ6 17 0 1 = n1 → K 15 [some (vR 14 0), some (vI v), some (vI w3), some (vI w4), some (vI w5), none] [] ρ6 := by
    intro n15
    induction n15 with
    | zero => intro w3 w4 w5 ρ6 f_w3 f_w4 f_w5 i0_15 i1_15 hm g_ρ6 q0_ρ6 q1_ρ6 ; omega
    | succ n15 ih15 =>
      intro w3 w4 w5 ρ6 f_w3 f_w4 f_w5 i0_15 i1_15 hm15 g_ρ6 q0_ρ6 q1_ρ6 
      refine r_iload_n hC dX1_addShare_15 rfl ?_
      refine r_if_eq (tgt := 43) hC dX1_addShare_16 rfl (fun h7 => ?_) (fun h7 => ?_)
      · refine r_aload_n hC dX1_addShare_43 rfl ?_
        refine z_getR hM dX1_addShare_44 fl_RX1_24 rfl rfl (vld_of (n := 1) rfl (by omega) (by omega)) ?_
        refine r_iconst hC dX1_addShare_47 rfl ?_
        refine r_iload_n hC dX1_addShare_48 rfl ?_
        refine z_iastG hM dX1_addShare_49 rfl (by omega) (by omega) (by simp [Tl, DL, DF]) (by first | trivial | (simp only [Okv]; omega) | (simp [Okv]; try omega)) (fun ρ8 a_ρ8 q_ρ8 => ?_)
        refine r_aload_n hC dX1_addShare_50 rfl ?_
        refine z_getR hM dX1_addShare_51 fl_RX1_24 rfl rfl (vld_of (n := 1) rfl (by omega) (by omega)) ?_
        refine r_iconst hC dX1_addShare_54 rfl ?_
        refine r_dup2 hC dX1_addShare_55 rfl rfl ?_
        refine z_iald hM dX1_addShare_56 rfl (by omega) (by omega) (fun v9 h_v9 o_v9 t_v9 => ?_)
        have e_v9 : n1 = v9 := ((t_v9 ((by simp [Tk, Tb, DL, DF, DX]))).trans ((a_ρ8 _ _ _ (by omega)).trans q1_ρ6)).symm
        subst e_v9
        refine r_iload_n hC dX1_addShare_57 rfl ?_
        refine r_if_eq (tgt := 65) hC dX1_addShare_58 rfl (fun h10 => ?_) (fun h10 => ?_)
        · refine r_iconst hC dX1_addShare_65 rfl ?_
          refine r_iaddE hC (n1) dX1_addShare_66 (by omega) (by unfold inR; omega) ?_
          refine z_iastG hM dX1_addShare_67 rfl (by omega) (by omega) (by simp [Tl, DL, DF]) (by first | trivial | (simp only [Okv]; omega) | (simp [Okv]; try omega)) (fun ρ11 a_ρ11 q_ρ11 => ?_)
          refine y_vret hK rfl dX1_addShare_68 ?_
          exact k _ (((g_ρ6).al a_ρ8 (by first | (simp; done) | omega | (simp; omega))).al a_ρ11 (by first | (simp; done) | omega | (simp; omega))) (by have hq := ((a_ρ11 _ _ _ (by omega)).trans q_ρ8); have hi := i0_15; rw [show w4 = (0 : Int) from by omega, gcd_z (by omega)] at hi; omega) (by have hq := q_ρ11; (repeat' split) <;> omega)
        · refine r_iconst hC dX1_addShare_61 rfl ?_
          refine r_goto (tgt := 66) hC dX1_addShare_62 rfl ?_
          refine r_iaddE hC ((n1 + 1)) dX1_addShare_66 (by omega) (by unfold inR; omega) ?_
          refine z_iastG hM dX1_addShare_67 rfl (by omega) (by omega) (by simp [Tl, DL, DF]) (by first | trivial | (simp only [Okv]; omega) | (simp [Okv]; try omega)) (fun ρ12 a_ρ12 q_ρ12 => ?_)
          refine y_vret hK rfl dX1_addShare_68 ?_
          exact k _ (((g_ρ6).al a_ρ8 (by first | (simp; done) | omega | (simp; omega))).al a_ρ12 (by first | (simp; done) | omega | (simp; omega))) (by have hq := ((a_ρ12 _ _ _ (by omega)).trans q_ρ8); have hi := i0_15; rw [show w4 = (0 : Int) from by omega, gcd_z (by omega)] at hi; omega) (by have hq := q_ρ12; (repeat' split) <;> omega)
      · refine r_iload hC dX1_addShare_19 rfl ?_
        refine r_sipush hC dX1_addShare_21 rfl ?_
        refine r_icmp_gt (tgt := 43) hC dX1_addShare_24 rfl (fun h13 => ?_) (fun h13 => ?_)
        · refine r_aload_n hC dX1_addShare_43 rfl ?_
          refine z_getR hM dX1_addShare_44 fl_RX1_24 rfl rfl (vld_of (n := 1) rfl (by omega) (by omega)) ?_
          refine r_iconst hC dX1_addShare_47 rfl ?_
          refine r_iload_n hC dX1_addShare_48 rfl ?_
          refine z_iastG hM dX1_addShare_49 rfl (by omega) (by omega) (by simp [Tl, DL, DF]) (by first | trivial | (simp only [Okv]; omega) | (simp [Okv]; try omega)) (fun ρ14 a_ρ14 q_ρ14 => ?_)
          refine r_aload_n hC dX1_addShare_50 rfl ?_
          refine z_getR hM dX1_addShare_51 fl_RX1_24 rfl rfl (vld_of (n := 1) rfl (by omega) (by omega)) ?_
          refine r_iconst hC dX1_addShare_54 rfl ?_
          refine r_dup2 hC dX1_addShare_55 rfl rfl ?_
          refine z_iald hM dX1_addShare_56 rfl (by omega) (by omega) (fun v15 h_v15 o_v15 t_v15 => ?_)
          have e_v15 : n1 = v15 := ((t_v15 ((by simp [Tk, Tb, DL, DF, DX]))).trans ((a_ρ14 _ _ _ (by omega)).trans q1_ρ6)).symm
          subst e_v15
          refine r_iload_n hC dX1_addShare_57 rfl ?_
          refine r_if_eq (tgt := 65) hC dX1_addShare_58 rfl (fun h16 => ?_) (fun h16 => ?_)
          · refine r_iconst hC dX1_addShare_65 rfl ?_
            refine r_iaddE hC (n1) dX1_addShare_66 (by omega) (by unfold inR; omega) ?_
            refine z_iastG hM dX1_addShare_67 rfl (by omega) (by omega) (by simp [Tl, DL, DF]) (by first | trivial | (simp only [Okv]; omega) | (simp [Okv]; try omega)) (fun ρ17 a_ρ17 q_ρ17 => ?_)
            refine y_vret hK rfl dX1_addShare_68 ?_
            exact k _ (((g_ρ6).al a_ρ14 (by first | (simp; done) | omega | (simp; omega))).al a_ρ17 (by first | (simp; done) | omega | (simp; omega))) (by have hq := ((a_ρ17 _ _ _ (by omega)).trans q_ρ14); have hi := i0_15; rw [show w4 = (0 : Int) from by omega, gcd_z (by omega)] at hi; omega) (by have hq := q_ρ17; (repeat' split) <;> omega)
          · refine r_iconst hC dX1_addShare_61 rfl ?_
            refine r_goto (tgt := 66) hC dX1_addShare_62 rfl ?_
            refine r_iaddE hC ((n1 + 1)) dX1_addShare_66 (by omega) (by unfold inR; omega) ?_
            refine z_iastG hM dX1_addShare_67 rfl (by omega) (by omega) (by simp [Tl, DL, DF]) (by first | trivial | (simp only [Okv]; omega) | (simp [Okv]; try omega)) (fun ρ18 a_ρ18 q_ρ18 => ?_)
            refine y_vret hK rfl dX1_addShare_68 ?_
            exact k _ (((g_ρ6).al a_ρ14 (by first | (simp; done) | omega | (simp; omega))).al a_ρ18 (by first | (simp; done) | omega | (simp; omega))) (by have hq := ((a_ρ18 _ _ _ (by omega)).trans q_ρ14); have hi := i0_15; rw [show w4 = (0 : Int) from by omega, gcd_z (by omega)] at hi; omega) (by have hq := q_ρ18; (repeat' split) <;> omega)
        · refine r_iload_n hC dX1_addShare_27 rfl ?_
          refine r_iload_n hC dX1_addShare_28 rfl ?_
          refine r_iremN hC dX1_addShare_29 (by omega) (by omega) ?_
          have f_v19 := emod_fr (a := w3) (b := w4) (by omega)
          refine r_istore hC dX1_addShare_30 rfl ?_
          refine r_iload_n hC dX1_addShare_32 rfl ?_
          refine r_istore_n hC dX1_addShare_33 rfl ?_
          refine r_iload hC dX1_addShare_34 rfl ?_
          refine r_istore_n hC dX1_addShare_36 rfl ?_
          show K _ [_, _, _, _, _, _] _ _
          refine r_iincE hC ((w5 + 1)) dX1_addShare_37 rfl rfl (by omega) (by unfold inR; omega) ?_
          refine r_goto (tgt := 15) hC dX1_addShare_40 rfl ?_
          refine r_forget hC (ls2 := [some (vR 14 0), some (vI v), some (vI w4), some (vI (w3 % w4)), some (vI (w5 + 1)), none]) (lsub_some (lsub_some (lsub_some (lsub_some (lsub_some (lsub_none lsub_nil)))))) ?_
          exact ih15 (w4) ((w3 % w4)) ((w5 + 1)) ρ6 (by omega) (by omega) (by omega) (by first | exact congrArg _ (gcd_ab (by omega)) | (rw [gcd_st (by omega) (by omega)]; exact i0_15)) (by omega) (by omega) (g_ρ6) (by have hq := q0_ρ6; omega) (by have hq := q1_ρ6; omega) 
  exact L15 1003 (n0) (v2) (0) σ (by omega) (by omega) (by omega) (by first | exact congrArg _ (gcd_ab (by omega)) | (rw [gcd_st (by omega) (by omega)]; exact i0_15)) (by omega) (by omega) (Gx.rf) (by have hq := qg0; omega) (by have hq := qg1; omega) 
theorem x_addLine {eb : Bool} {d : Nat} {P : Option Vl → Mm → Prop} {σ : Mm} {v n0 n1 : Int} (b_v : -1000 ≤ v ∧ v ≤ 1000) (b_n0 : 0 ≤ n0 ∧ n0 ≤ 996) (qg0 : σ 17 0 0 = n0) (b_n1 : 0 ≤ n1 ∧ n1 ≤ 996) (qg1 : σ 17 0 1 = n1)  (k : ∀ ρ : Mm, Gx (fun c x y => c = 17 ∧ x = 0 ∨ c = 14 ∧ x = 0 ∧ y = 7) σ ρ → ρ 17 0 0 = (v % 997 * n0 % 997) → ρ 17 0 1 = ((v % 997 * n1 + (7 * v + 1) % 997) % 997) → P none ρ) : WT (true, true, eb) (d + 2) 17 [vR 14 0, vI v] σ P := by
  refine WT_in fun K hK => ?_
  have hK : StpY (true, true, eb) cX1_addLine RX1 (none) (WT (true, true, eb) (d + 1)) P K := hK
  have hM := hK.1
  have hC := hK.1.1
  show K 0 [some (vR 14 0), some (vI v), none, none] [] σ
  refine r_iload_n hC dX1_addLine_0 rfl ?_
  refine r_sipush hC dX1_addLine_1 rfl ?_
  refine z_ins2 hM dX1_addLine_4 tl_RX1_93 rfl (Nat.le_of_ble_eq_true rfl) (Nat.le_of_ble_eq_true rfl) ?_
  refine x_floorMod (by omega) (fun h1 => ?_)
  refine r_istore_n hC dX1_addLine_7 rfl ?_
  refine r_bipush hC dX1_addLine_8 rfl ?_
  refine r_iload_n hC dX1_addLine_10 rfl ?_
  refine r_imulE hC ((7 * v)) dX1_addLine_11 (by omega) (by unfold inR; omega) ?_
  refine r_iconst hC dX1_addLine_12 rfl ?_
  refine r_iaddE hC (((7 * v) + 1)) dX1_addLine_13 (by omega) (by unfold inR; omega) ?_
  refine r_sipush hC dX1_addLine_14 rfl ?_
  refine z_ins2 hM dX1_addLine_17 tl_RX1_93 rfl (Nat.le_of_ble_eq_true rfl) (Nat.le_of_ble_eq_true rfl) ?_
  refine x_floorMod (by omega) (fun h2 => ?_)
  refine r_istore_n hC dX1_addLine_20 rfl ?_
  refine r_aload_n hC dX1_addLine_21 rfl ?_
  refine z_getR hM dX1_addLine_22 fl_RX1_24 rfl rfl (vld_of (n := 1) rfl (by omega) (by omega)) ?_
  refine r_iconst hC dX1_addLine_25 rfl ?_
  refine r_iload_n hC dX1_addLine_26 rfl ?_
  refine r_aload_n hC dX1_addLine_27 rfl ?_
  refine z_getR hM dX1_addLine_28 fl_RX1_24 rfl rfl (vld_of (n := 1) rfl (by omega) (by omega)) ?_
  refine r_iconst hC dX1_addLine_31 rfl ?_
  refine z_iald hM dX1_addLine_32 rfl (by omega) (by omega) (fun v3 h_v3 o_v3 t_v3 => ?_)
  have e_v3 : n0 = v3 := ((t_v3 ((by simp [Tk, Tb, DL, DF, DX]))).trans qg0).symm
  subst e_v3
  have m4 := mul_nn (a := (v % 997)) (b := n0) (A := 996) (B := 996) (by omega) (by omega) (by omega) (by omega)
  refine r_imulE hC (((v % 997) * n0)) dX1_addLine_33 (by omega) (by unfold inR; omega) ?_
  refine r_sipush hC dX1_addLine_34 rfl ?_
  refine r_iremN hC dX1_addLine_37 (by omega) (by omega) ?_
  refine z_iastG hM dX1_addLine_38 rfl (by omega) (by omega) (by simp [Tl, DL, DF]) (by first | trivial | (simp only [Okv]; omega) | (simp [Okv]; try omega)) (fun ρ5 a_ρ5 q_ρ5 => ?_)
  refine r_aload_n hC dX1_addLine_39 rfl ?_
  refine z_getR hM dX1_addLine_40 fl_RX1_24 rfl rfl (vld_of (n := 1) rfl (by omega) (by omega)) ?_
  refine r_iconst hC dX1_addLine_43 rfl ?_
  refine r_iload_n hC dX1_addLine_44 rfl ?_
  refine r_aload_n hC dX1_addLine_45 rfl ?_
  refine z_getR hM dX1_addLine_46 fl_RX1_24 rfl rfl (vld_of (n := 1) rfl (by omega) (by omega)) ?_
  refine r_iconst hC dX1_addLine_49 rfl ?_
  refine z_iald hM dX1_addLine_50 rfl (by omega) (by omega) (fun v6 h_v6 o_v6 t_v6 => ?_)
  have e_v6 : n1 = v6 := ((t_v6 ((by simp [Tk, Tb, DL, DF, DX]))).trans ((a_ρ5 _ _ _ (by omega)).trans qg1)).symm
  subst e_v6
  have m7 := mul_nn (a := (v % 997)) (b := n1) (A := 996) (B := 996) (by omega) (by omega) (by omega) (by omega)
  refine r_imulE hC (((v % 997) * n1)) dX1_addLine_51 (by omega) (by unfold inR; omega) ?_
  refine r_iload_n hC dX1_addLine_52 rfl ?_
  refine r_iaddE hC ((((v % 997) * n1) + (((7 * v) + 1) % 997))) dX1_addLine_53 (by omega) (by unfold inR; omega) ?_
  refine r_sipush hC dX1_addLine_54 rfl ?_
  refine r_iremN hC dX1_addLine_57 (by omega) (by omega) ?_
  refine z_iastG hM dX1_addLine_58 rfl (by omega) (by omega) (by simp [Tl, DL, DF]) (by first | trivial | (simp only [Okv]; omega) | (simp [Okv]; try omega)) (fun ρ8 a_ρ8 q_ρ8 => ?_)
  refine y_vret hK rfl dX1_addLine_59 ?_
  exact k _ (((Gx.rf).al a_ρ5 (by first | (simp; done) | omega | (simp; omega))).al a_ρ8 (by first | (simp; done) | omega | (simp; omega))) (by have hq := ((a_ρ8 _ _ _ (by omega)).trans q_ρ5); exact hq) (by have hq := q_ρ8; exact hq)
theorem x_addRun {eb : Bool} {d : Nat} {P : Option Vl → Mm → Prop} {σ : Mm} {v n0 n1 n2 n3 n : Int} (b_v : -1000 ≤ v ∧ v ≤ 1000) (b_n0 : -300000 ≤ n0 ∧ n0 ≤ 300000) (qg0 : σ 17 0 0 = n0) (b_n1 : -300000 ≤ n1 ∧ n1 ≤ 300000) (qg1 : σ 17 0 1 = n1) (b_n2 : -300000 ≤ n2 ∧ n2 ≤ 300000) (qg2 : σ 17 0 2 = n2) (b_n3 : -300000 ≤ n3 ∧ n3 ≤ 300000) (qg3 : σ 17 0 3 = n3) (b_n : 0 ≤ n ∧ n ≤ 1000) (qg4 : σ 14 0 6 = n)  (k : ∀ ρ : Mm, Gx (fun c x y => c = 17 ∧ x = 0 ∨ c = 14 ∧ x = 0 ∧ y = 7) σ ρ → ρ 17 0 1 = (n1 + v) → ρ 17 0 2 = (if n = 0 then v else max n2 (n1 + v)) → ρ 17 0 3 = (if n = 0 then v else max (n3 + v) v) → ρ 17 0 0 = (if n = 0 then v else max n0 (max (n3 + v) v)) → P none ρ) : WT (true, true, eb) (d + 2) 18 [vR 14 0, vI v] σ P := by
  refine WT_in fun K hK => ?_
  have hK : StpY (true, true, eb) cX1_addRun RX1 (none) (WT (true, true, eb) (d + 1)) P K := hK
  have hM := hK.1
  have hC := hK.1.1
  show K 0 [some (vR 14 0), some (vI v), none] [] σ
  refine r_aload_n hC dX1_addRun_0 rfl ?_
  refine z_getI (jz := 6) hM dX1_addRun_1 fl_RX1_34 rfl rfl rfl (fun v1 h_v1 o_v1 t_v1 => ?_)
  have e_v1 : n = v1 := ((t_v1 ((by simp [Tk, Tb, DL, DF, DX]))).trans qg4).symm
  subst e_v1
  refine r_if_ne (tgt := 11) hC dX1_addRun_4 rfl (fun h2 => ?_) (fun h2 => ?_)
  · refine r_iconst hC dX1_addRun_11 rfl ?_
    refine r_istore_n hC dX1_addRun_12 rfl ?_
    refine r_aload_n hC dX1_addRun_13 rfl ?_
    refine z_getR hM dX1_addRun_14 fl_RX1_24 rfl rfl (vld_of (n := 1) rfl (by omega) (by omega)) ?_
    refine r_iconst hC dX1_addRun_17 rfl ?_
    refine r_dup2 hC dX1_addRun_18 rfl rfl ?_
    refine z_iald hM dX1_addRun_19 rfl (by omega) (by omega) (fun v3 h_v3 o_v3 t_v3 => ?_)
    have e_v3 : n1 = v3 := ((t_v3 ((by simp [Tk, Tb, DL, DF, DX]))).trans qg1).symm
    subst e_v3
    refine r_iload_n hC dX1_addRun_20 rfl ?_
    refine r_iaddE hC ((n1 + v)) dX1_addRun_21 (by omega) (by unfold inR; omega) ?_
    refine z_iastG hM dX1_addRun_22 rfl (by omega) (by omega) (by simp [Tl, DL, DF]) (by first | trivial | (simp only [Okv]; omega) | (simp [Okv]; try omega)) (fun ρ4 a_ρ4 q_ρ4 => ?_)
    refine r_aload_n hC dX1_addRun_23 rfl ?_
    refine z_getR hM dX1_addRun_24 fl_RX1_24 rfl rfl (vld_of (n := 1) rfl (by omega) (by omega)) ?_
    refine r_iconst hC dX1_addRun_27 rfl ?_
    refine r_iload_n hC dX1_addRun_28 rfl ?_
    refine r_if_eq (tgt := 36) hC dX1_addRun_29 rfl (fun h5 => ?_) (fun h5 => by omega)
    refine r_aload_n hC dX1_addRun_36 rfl ?_
    refine z_getR hM dX1_addRun_37 fl_RX1_24 rfl rfl (vld_of (n := 1) rfl (by omega) (by omega)) ?_
    refine r_iconst hC dX1_addRun_40 rfl ?_
    refine z_iald hM dX1_addRun_41 rfl (by omega) (by omega) (fun v6 h_v6 o_v6 t_v6 => ?_)
    have e_v6 : n2 = v6 := ((t_v6 ((by simp [Tk, Tb, DL, DF, DX]))).trans ((a_ρ4 _ _ _ (by omega)).trans qg2)).symm
    subst e_v6
    refine r_aload_n hC dX1_addRun_42 rfl ?_
    refine z_getR hM dX1_addRun_43 fl_RX1_24 rfl rfl (vld_of (n := 1) rfl (by omega) (by omega)) ?_
    refine r_iconst hC dX1_addRun_46 rfl ?_
    refine z_iald hM dX1_addRun_47 rfl (by omega) (by omega) (fun v7 h_v7 o_v7 t_v7 => ?_)
    have e_v7 : (n1 + v) = v7 := ((t_v7 ((by simp [Tk, Tb, DL, DF, DX]))).trans q_ρ4).symm
    subst e_v7
    refine z_ins2 hM dX1_addRun_48 tl_RX1_97 rfl (Nat.le_of_ble_eq_true rfl) (Nat.le_of_ble_eq_true rfl) ?_
    refine x_max (fun v8 h_v8 => ?_)
    refine z_iastG hM dX1_addRun_51 rfl (by omega) (by omega) (by simp [Tl, DL, DF]) (by first | trivial | (simp only [Okv]; omega) | (simp [Okv]; try omega)) (fun ρ9 a_ρ9 q_ρ9 => ?_)
    refine r_aload_n hC dX1_addRun_52 rfl ?_
    refine z_getR hM dX1_addRun_53 fl_RX1_24 rfl rfl (vld_of (n := 1) rfl (by omega) (by omega)) ?_
    refine r_iconst hC dX1_addRun_56 rfl ?_
    refine r_iload_n hC dX1_addRun_57 rfl ?_
    refine r_if_eq (tgt := 65) hC dX1_addRun_58 rfl (fun h10 => ?_) (fun h10 => by omega)
    refine r_aload_n hC dX1_addRun_65 rfl ?_
    refine z_getR hM dX1_addRun_66 fl_RX1_24 rfl rfl (vld_of (n := 1) rfl (by omega) (by omega)) ?_
    refine r_iconst hC dX1_addRun_69 rfl ?_
    refine z_iald hM dX1_addRun_70 rfl (by omega) (by omega) (fun v11 h_v11 o_v11 t_v11 => ?_)
    have e_v11 : n3 = v11 := ((t_v11 ((by simp [Tk, Tb, DL, DF, DX]))).trans ((a_ρ9 _ _ _ (by omega)).trans ((a_ρ4 _ _ _ (by omega)).trans qg3))).symm
    subst e_v11
    refine r_iload_n hC dX1_addRun_71 rfl ?_
    refine r_iaddE hC ((n3 + v)) dX1_addRun_72 (by omega) (by unfold inR; omega) ?_
    refine r_iload_n hC dX1_addRun_73 rfl ?_
    refine z_ins2 hM dX1_addRun_74 tl_RX1_97 rfl (Nat.le_of_ble_eq_true rfl) (Nat.le_of_ble_eq_true rfl) ?_
    refine x_max (fun v12 h_v12 => ?_)
    refine z_iastG hM dX1_addRun_77 rfl (by omega) (by omega) (by simp [Tl, DL, DF]) (by first | trivial | (simp only [Okv]; omega) | (simp [Okv]; try omega)) (fun ρ13 a_ρ13 q_ρ13 => ?_)
    refine r_aload_n hC dX1_addRun_78 rfl ?_
    refine z_getR hM dX1_addRun_79 fl_RX1_24 rfl rfl (vld_of (n := 1) rfl (by omega) (by omega)) ?_
    refine r_iconst hC dX1_addRun_82 rfl ?_
    refine r_iload_n hC dX1_addRun_83 rfl ?_
    refine r_if_eq (tgt := 91) hC dX1_addRun_84 rfl (fun h14 => ?_) (fun h14 => by omega)
    refine r_aload_n hC dX1_addRun_91 rfl ?_
    refine z_getR hM dX1_addRun_92 fl_RX1_24 rfl rfl (vld_of (n := 1) rfl (by omega) (by omega)) ?_
    refine r_iconst hC dX1_addRun_95 rfl ?_
    refine z_iald hM dX1_addRun_96 rfl (by omega) (by omega) (fun v15 h_v15 o_v15 t_v15 => ?_)
    have e_v15 : n0 = v15 := ((t_v15 ((by simp [Tk, Tb, DL, DF, DX]))).trans ((a_ρ13 _ _ _ (by omega)).trans ((a_ρ9 _ _ _ (by omega)).trans ((a_ρ4 _ _ _ (by omega)).trans qg0)))).symm
    subst e_v15
    refine r_aload_n hC dX1_addRun_97 rfl ?_
    refine z_getR hM dX1_addRun_98 fl_RX1_24 rfl rfl (vld_of (n := 1) rfl (by omega) (by omega)) ?_
    refine r_iconst hC dX1_addRun_101 rfl ?_
    refine z_iald hM dX1_addRun_102 rfl (by omega) (by omega) (fun v16 h_v16 o_v16 t_v16 => ?_)
    have e_v16 : v12 = v16 := ((t_v16 ((by simp [Tk, Tb, DL, DF, DX]))).trans q_ρ13).symm
    subst e_v16
    refine z_ins2 hM dX1_addRun_103 tl_RX1_97 rfl (Nat.le_of_ble_eq_true rfl) (Nat.le_of_ble_eq_true rfl) ?_
    refine x_max (fun v17 h_v17 => ?_)
    refine z_iastG hM dX1_addRun_106 rfl (by omega) (by omega) (by simp [Tl, DL, DF]) (by first | trivial | (simp only [Okv]; omega) | (simp [Okv]; try omega)) (fun ρ18 a_ρ18 q_ρ18 => ?_)
    refine y_vret hK rfl dX1_addRun_107 ?_
    exact k _ (((((Gx.rf).al a_ρ4 (by first | (simp; done) | omega | (simp; omega))).al a_ρ9 (by first | (simp; done) | omega | (simp; omega))).al a_ρ13 (by first | (simp; done) | omega | (simp; omega))).al a_ρ18 (by first | (simp; done) | omega | (simp; omega))) (by have hq := ((a_ρ18 _ _ _ (by omega)).trans ((a_ρ13 _ _ _ (by omega)).trans ((a_ρ9 _ _ _ (by omega)).trans q_ρ4))); (repeat' split) <;> omega) (by have hq := ((a_ρ18 _ _ _ (by omega)).trans ((a_ρ13 _ _ _ (by omega)).trans q_ρ9)); (repeat' split) <;> omega) (by have hq := ((a_ρ18 _ _ _ (by omega)).trans q_ρ13); (repeat' split) <;> omega) (by have hq := q_ρ18; (repeat' split) <;> omega)
  · refine r_iconst hC dX1_addRun_7 rfl ?_
    refine r_goto (tgt := 12) hC dX1_addRun_8 rfl ?_
    refine r_istore_n hC dX1_addRun_12 rfl ?_
    refine r_aload_n hC dX1_addRun_13 rfl ?_
    refine z_getR hM dX1_addRun_14 fl_RX1_24 rfl rfl (vld_of (n := 1) rfl (by omega) (by omega)) ?_
    refine r_iconst hC dX1_addRun_17 rfl ?_
    refine r_dup2 hC dX1_addRun_18 rfl rfl ?_
    refine z_iald hM dX1_addRun_19 rfl (by omega) (by omega) (fun v19 h_v19 o_v19 t_v19 => ?_)
    have e_v19 : n1 = v19 := ((t_v19 ((by simp [Tk, Tb, DL, DF, DX]))).trans qg1).symm
    subst e_v19
    refine r_iload_n hC dX1_addRun_20 rfl ?_
    refine r_iaddE hC ((n1 + v)) dX1_addRun_21 (by omega) (by unfold inR; omega) ?_
    refine z_iastG hM dX1_addRun_22 rfl (by omega) (by omega) (by simp [Tl, DL, DF]) (by first | trivial | (simp only [Okv]; omega) | (simp [Okv]; try omega)) (fun ρ20 a_ρ20 q_ρ20 => ?_)
    refine r_aload_n hC dX1_addRun_23 rfl ?_
    refine z_getR hM dX1_addRun_24 fl_RX1_24 rfl rfl (vld_of (n := 1) rfl (by omega) (by omega)) ?_
    refine r_iconst hC dX1_addRun_27 rfl ?_
    refine r_iload_n hC dX1_addRun_28 rfl ?_
    refine r_if_eq (tgt := 36) hC dX1_addRun_29 rfl (fun h21 => by omega) (fun h21 => ?_)
    refine r_iload_n hC dX1_addRun_32 rfl ?_
    refine r_goto (tgt := 51) hC dX1_addRun_33 rfl ?_
    refine z_iastG hM dX1_addRun_51 rfl (by omega) (by omega) (by simp [Tl, DL, DF]) (by first | trivial | (simp only [Okv]; omega) | (simp [Okv]; try omega)) (fun ρ22 a_ρ22 q_ρ22 => ?_)
    refine r_aload_n hC dX1_addRun_52 rfl ?_
    refine z_getR hM dX1_addRun_53 fl_RX1_24 rfl rfl (vld_of (n := 1) rfl (by omega) (by omega)) ?_
    refine r_iconst hC dX1_addRun_56 rfl ?_
    refine r_iload_n hC dX1_addRun_57 rfl ?_
    refine r_if_eq (tgt := 65) hC dX1_addRun_58 rfl (fun h23 => by omega) (fun h23 => ?_)
    refine r_iload_n hC dX1_addRun_61 rfl ?_
    refine r_goto (tgt := 77) hC dX1_addRun_62 rfl ?_
    refine z_iastG hM dX1_addRun_77 rfl (by omega) (by omega) (by simp [Tl, DL, DF]) (by first | trivial | (simp only [Okv]; omega) | (simp [Okv]; try omega)) (fun ρ24 a_ρ24 q_ρ24 => ?_)
    refine r_aload_n hC dX1_addRun_78 rfl ?_
    refine z_getR hM dX1_addRun_79 fl_RX1_24 rfl rfl (vld_of (n := 1) rfl (by omega) (by omega)) ?_
    refine r_iconst hC dX1_addRun_82 rfl ?_
    refine r_iload_n hC dX1_addRun_83 rfl ?_
    refine r_if_eq (tgt := 91) hC dX1_addRun_84 rfl (fun h25 => by omega) (fun h25 => ?_)
    refine r_iload_n hC dX1_addRun_87 rfl ?_
    refine r_goto (tgt := 106) hC dX1_addRun_88 rfl ?_
    refine z_iastG hM dX1_addRun_106 rfl (by omega) (by omega) (by simp [Tl, DL, DF]) (by first | trivial | (simp only [Okv]; omega) | (simp [Okv]; try omega)) (fun ρ26 a_ρ26 q_ρ26 => ?_)
    refine y_vret hK rfl dX1_addRun_107 ?_
    exact k _ (((((Gx.rf).al a_ρ20 (by first | (simp; done) | omega | (simp; omega))).al a_ρ22 (by first | (simp; done) | omega | (simp; omega))).al a_ρ24 (by first | (simp; done) | omega | (simp; omega))).al a_ρ26 (by first | (simp; done) | omega | (simp; omega))) (by have hq := ((a_ρ26 _ _ _ (by omega)).trans ((a_ρ24 _ _ _ (by omega)).trans ((a_ρ22 _ _ _ (by omega)).trans q_ρ20))); (repeat' split) <;> omega) (by have hq := ((a_ρ26 _ _ _ (by omega)).trans ((a_ρ24 _ _ _ (by omega)).trans q_ρ22)); (repeat' split) <;> omega) (by have hq := ((a_ρ26 _ _ _ (by omega)).trans q_ρ24); (repeat' split) <;> omega) (by have hq := q_ρ26; (repeat' split) <;> omega)
theorem x_addLetter {eb : Bool} {d : Nat} {P : Option Vl → Mm → Prop} {σ : Mm} {v n0 n1 n2 n3 n4 : Int} (b_v : -1000 ≤ v ∧ v ≤ 1000) (b_n0 : 0 ≤ n0 ∧ n0 ≤ 3) (qg0 : σ 17 0 0 = n0) (b_n1 : 0 ≤ n1 ∧ n1 ≤ 3) (qg1 : σ 17 0 1 = n1) (b_n2 : 0 ≤ n2 ∧ n2 ≤ 3) (qg2 : σ 17 0 2 = n2) (b_n3 : 0 ≤ n3 ∧ n3 ≤ 3) (qg3 : σ 17 0 3 = n3) (qg4 : σ 17 0 4 = n4)  (k : ∀ ρ : Mm, Gx (fun c x y => c = 17 ∧ x = 0 ∨ c = 14 ∧ x = 0 ∧ y = 7) σ ρ → ρ 17 0 0 = (lnx (σ 16 0) v n0) → ρ 17 0 1 = (lnx (σ 16 0) v n1) → ρ 17 0 2 = (lnx (σ 16 0) v n2) → ρ 17 0 3 = (lnx (σ 16 0) v n3) → ρ 17 0 4 = (apt (lnx (σ 16 0) v n0) (lnx (σ 16 0) v n1) (lnx (σ 16 0) v n2) (lnx (σ 16 0) v n3)) → P none ρ) : WT (true, true, eb) (d + 2) 19 [vR 14 0, vI v] σ P := by
  refine WT_in fun K hK => ?_
  have hK : StpY (true, true, eb) cX1_addLetter RX1 (none) (WT (true, true, eb) (d + 1)) P K := hK
  have hM := hK.1
  have hC := hK.1.1
  show K 0 [some (vR 14 0), some (vI v), none, none, none] [] σ
  refine r_aload_n hC dX1_addLetter_0 rfl ?_
  refine z_getR hM dX1_addLetter_1 fl_RX1_15 rfl rfl (vld_of (n := 1) rfl (by omega) (by omega)) ?_
  refine r_iload_n hC dX1_addLetter_4 rfl ?_
  refine r_bipush hC dX1_addLetter_5 rfl ?_
  refine z_ins2 hM dX1_addLetter_7 tl_RX1_93 rfl (Nat.le_of_ble_eq_true rfl) (Nat.le_of_ble_eq_true rfl) ?_
  refine x_floorMod (by omega) (fun h1 => ?_)
  refine z_iald hM dX1_addLetter_10 rfl (by omega) (by omega) (fun v2 h_v2 o_v2 t_v2 => ?_)
  have w_v2 := t_v2 (Or.inl trivial)
  subst w_v2
  refine r_istore_n hC dX1_addLetter_11 rfl ?_
  refine r_iconst hC dX1_addLetter_12 rfl ?_
  refine r_istore_n hC dX1_addLetter_13 rfl ?_
  refine r_iconst hC dX1_addLetter_14 rfl ?_
  refine r_istore hC dX1_addLetter_15 rfl ?_
  show K _ [_, _, _, _, _] _ _
  refine r_iload hC dX1_addLetter_17 rfl ?_
  refine r_iconst hC dX1_addLetter_19 rfl ?_
  refine r_icmp_ge (tgt := 61) hC dX1_addLetter_20 rfl (fun h3 => by omega) (fun h3 => ?_)
  refine r_aload_n hC dX1_addLetter_23 rfl ?_
  refine z_getR hM dX1_addLetter_24 fl_RX1_24 rfl rfl (vld_of (n := 1) rfl (by omega) (by omega)) ?_
  refine r_iload hC dX1_addLetter_27 rfl ?_
  refine r_iload_n hC dX1_addLetter_29 rfl ?_
  refine r_iconst hC dX1_addLetter_30 rfl ?_
  refine r_aload_n hC dX1_addLetter_31 rfl ?_
  refine z_getR hM dX1_addLetter_32 fl_RX1_24 rfl rfl (vld_of (n := 1) rfl (by omega) (by omega)) ?_
  refine r_iload hC dX1_addLetter_35 rfl ?_
  refine z_iald hM dX1_addLetter_37 rfl (by omega) (by omega) (fun v4 h_v4 o_v4 t_v4 => ?_)
  have e_v4 : n0 = v4 := ((t_v4 ((by simp [Tk, Tb, DL, DF, DX]))).trans qg0).symm
  subst e_v4
  refine r_imulE hC ((2 * n0)) dX1_addLetter_38 (by omega) (by unfold inR; omega) ?_
  refine r_ishr hC dX1_addLetter_39 ?_
  have f_v5 := ishr_fr (σ 16 0 (v % 8)) (2 * n0)
  refine r_iconst hC dX1_addLetter_40 rfl ?_
  refine r_iand hC dX1_addLetter_41 ?_
  have f_v6 := iand_rng (a := (ishr (σ 16 0 (v % 8)) (2 * n0))) (b := 3) (by omega) (inR_lit rfl)
  refine z_iastG hM dX1_addLetter_42 rfl (by omega) (by omega) (by simp [Tl, DL, DF]) (by first | trivial | (simp only [Okv]; omega) | (simp [Okv]; try omega)) (fun ρ7 a_ρ7 q_ρ7 => ?_)
  refine r_iload_n hC dX1_addLetter_43 rfl ?_
  refine r_iconst hC dX1_addLetter_44 rfl ?_
  refine r_aload_n hC dX1_addLetter_45 rfl ?_
  refine z_getR hM dX1_addLetter_46 fl_RX1_24 rfl rfl (vld_of (n := 1) rfl (by omega) (by omega)) ?_
  refine r_iload hC dX1_addLetter_49 rfl ?_
  refine z_iald hM dX1_addLetter_51 rfl (by omega) (by omega) (fun v8 h_v8 o_v8 t_v8 => ?_)
  have e_v8 : (iand (ishr (σ 16 0 (v % 8)) (2 * n0)) 3) = v8 := ((t_v8 ((by simp [Tk, Tb, DL, DF, DX]))).trans q_ρ7).symm
  subst e_v8
  refine r_ishl hC dX1_addLetter_52 ?_
  have f_v9 := ishl_fr 1 (iand (ishr (σ 16 0 (v % 8)) (2 * n0)) 3)
  refine r_ior hC dX1_addLetter_53 ?_
  have f_v10 := ior_fr 0 (ishl 1 (iand (ishr (σ 16 0 (v % 8)) (2 * n0)) 3))
  refine r_istore_n hC dX1_addLetter_54 rfl ?_
  refine r_iincE hC (1) dX1_addLetter_55 rfl rfl (by omega) (by unfold inR; omega) ?_
  refine r_goto (tgt := 17) hC dX1_addLetter_58 rfl ?_
  refine r_iload hC dX1_addLetter_17 rfl ?_
  refine r_iconst hC dX1_addLetter_19 rfl ?_
  refine r_icmp_ge (tgt := 61) hC dX1_addLetter_20 rfl (fun h11 => by omega) (fun h11 => ?_)
  refine r_aload_n hC dX1_addLetter_23 rfl ?_
  refine z_getR hM dX1_addLetter_24 fl_RX1_24 rfl rfl (vld_of (n := 1) rfl (by omega) (by omega)) ?_
  refine r_iload hC dX1_addLetter_27 rfl ?_
  refine r_iload_n hC dX1_addLetter_29 rfl ?_
  refine r_iconst hC dX1_addLetter_30 rfl ?_
  refine r_aload_n hC dX1_addLetter_31 rfl ?_
  refine z_getR hM dX1_addLetter_32 fl_RX1_24 rfl rfl (vld_of (n := 1) rfl (by omega) (by omega)) ?_
  refine r_iload hC dX1_addLetter_35 rfl ?_
  refine z_iald hM dX1_addLetter_37 rfl (by omega) (by omega) (fun v12 h_v12 o_v12 t_v12 => ?_)
  have e_v12 : n1 = v12 := ((t_v12 ((by simp [Tk, Tb, DL, DF, DX]))).trans ((a_ρ7 _ _ _ (by omega)).trans qg1)).symm
  subst e_v12
  refine r_imulE hC ((2 * n1)) dX1_addLetter_38 (by omega) (by unfold inR; omega) ?_
  refine r_ishr hC dX1_addLetter_39 ?_
  have f_v13 := ishr_fr (σ 16 0 (v % 8)) (2 * n1)
  refine r_iconst hC dX1_addLetter_40 rfl ?_
  refine r_iand hC dX1_addLetter_41 ?_
  have f_v14 := iand_rng (a := (ishr (σ 16 0 (v % 8)) (2 * n1))) (b := 3) (by omega) (inR_lit rfl)
  refine z_iastG hM dX1_addLetter_42 rfl (by omega) (by omega) (by simp [Tl, DL, DF]) (by first | trivial | (simp only [Okv]; omega) | (simp [Okv]; try omega)) (fun ρ15 a_ρ15 q_ρ15 => ?_)
  refine r_iload_n hC dX1_addLetter_43 rfl ?_
  refine r_iconst hC dX1_addLetter_44 rfl ?_
  refine r_aload_n hC dX1_addLetter_45 rfl ?_
  refine z_getR hM dX1_addLetter_46 fl_RX1_24 rfl rfl (vld_of (n := 1) rfl (by omega) (by omega)) ?_
  refine r_iload hC dX1_addLetter_49 rfl ?_
  refine z_iald hM dX1_addLetter_51 rfl (by omega) (by omega) (fun v16 h_v16 o_v16 t_v16 => ?_)
  have e_v16 : (iand (ishr (σ 16 0 (v % 8)) (2 * n1)) 3) = v16 := ((t_v16 ((by simp [Tk, Tb, DL, DF, DX]))).trans q_ρ15).symm
  subst e_v16
  refine r_ishl hC dX1_addLetter_52 ?_
  have f_v17 := ishl_fr 1 (iand (ishr (σ 16 0 (v % 8)) (2 * n1)) 3)
  refine r_ior hC dX1_addLetter_53 ?_
  have f_v18 := ior_fr (ior 0 (ishl 1 (iand (ishr (σ 16 0 (v % 8)) (2 * n0)) 3))) (ishl 1 (iand (ishr (σ 16 0 (v % 8)) (2 * n1)) 3))
  refine r_istore_n hC dX1_addLetter_54 rfl ?_
  show K _ [_, _, _, _, _] _ _
  refine r_iincE hC (2) dX1_addLetter_55 rfl rfl (by omega) (by unfold inR; omega) ?_
  refine r_goto (tgt := 17) hC dX1_addLetter_58 rfl ?_
  refine r_iload hC dX1_addLetter_17 rfl ?_
  refine r_iconst hC dX1_addLetter_19 rfl ?_
  refine r_icmp_ge (tgt := 61) hC dX1_addLetter_20 rfl (fun h19 => by omega) (fun h19 => ?_)
  refine r_aload_n hC dX1_addLetter_23 rfl ?_
  refine z_getR hM dX1_addLetter_24 fl_RX1_24 rfl rfl (vld_of (n := 1) rfl (by omega) (by omega)) ?_
  refine r_iload hC dX1_addLetter_27 rfl ?_
  refine r_iload_n hC dX1_addLetter_29 rfl ?_
  refine r_iconst hC dX1_addLetter_30 rfl ?_
  refine r_aload_n hC dX1_addLetter_31 rfl ?_
  refine z_getR hM dX1_addLetter_32 fl_RX1_24 rfl rfl (vld_of (n := 1) rfl (by omega) (by omega)) ?_
  refine r_iload hC dX1_addLetter_35 rfl ?_
  refine z_iald hM dX1_addLetter_37 rfl (by omega) (by omega) (fun v20 h_v20 o_v20 t_v20 => ?_)
  have e_v20 : n2 = v20 := ((t_v20 ((by simp [Tk, Tb, DL, DF, DX]))).trans ((a_ρ15 _ _ _ (by omega)).trans ((a_ρ7 _ _ _ (by omega)).trans qg2))).symm
  subst e_v20
  refine r_imulE hC ((2 * n2)) dX1_addLetter_38 (by omega) (by unfold inR; omega) ?_
  refine r_ishr hC dX1_addLetter_39 ?_
  have f_v21 := ishr_fr (σ 16 0 (v % 8)) (2 * n2)
  refine r_iconst hC dX1_addLetter_40 rfl ?_
  refine r_iand hC dX1_addLetter_41 ?_
  have f_v22 := iand_rng (a := (ishr (σ 16 0 (v % 8)) (2 * n2))) (b := 3) (by omega) (inR_lit rfl)
  refine z_iastG hM dX1_addLetter_42 rfl (by omega) (by omega) (by simp [Tl, DL, DF]) (by first | trivial | (simp only [Okv]; omega) | (simp [Okv]; try omega)) (fun ρ23 a_ρ23 q_ρ23 => ?_)
  refine r_iload_n hC dX1_addLetter_43 rfl ?_
  refine r_iconst hC dX1_addLetter_44 rfl ?_
  refine r_aload_n hC dX1_addLetter_45 rfl ?_
  refine z_getR hM dX1_addLetter_46 fl_RX1_24 rfl rfl (vld_of (n := 1) rfl (by omega) (by omega)) ?_
  refine r_iload hC dX1_addLetter_49 rfl ?_
  refine z_iald hM dX1_addLetter_51 rfl (by omega) (by omega) (fun v24 h_v24 o_v24 t_v24 => ?_)
  have e_v24 : (iand (ishr (σ 16 0 (v % 8)) (2 * n2)) 3) = v24 := ((t_v24 ((by simp [Tk, Tb, DL, DF, DX]))).trans q_ρ23).symm
  subst e_v24
  refine r_ishl hC dX1_addLetter_52 ?_
  have f_v25 := ishl_fr 1 (iand (ishr (σ 16 0 (v % 8)) (2 * n2)) 3)
  refine r_ior hC dX1_addLetter_53 ?_
  have f_v26 := ior_fr (ior (ior 0 (ishl 1 (iand (ishr (σ 16 0 (v % 8)) (2 * n0)) 3))) (ishl 1 (iand (ishr (σ 16 0 (v % 8)) (2 * n1)) 3))) (ishl 1 (iand (ishr (σ 16 0 (v % 8)) (2 * n2)) 3))
  refine r_istore_n hC dX1_addLetter_54 rfl ?_
  refine r_iincE hC (3) dX1_addLetter_55 rfl rfl (by omega) (by unfold inR; omega) ?_
  show K _ [_, _, _, _, _] _ _
  refine r_goto (tgt := 17) hC dX1_addLetter_58 rfl ?_
  refine r_iload hC dX1_addLetter_17 rfl ?_
  refine r_iconst hC dX1_addLetter_19 rfl ?_
  refine r_icmp_ge (tgt := 61) hC dX1_addLetter_20 rfl (fun h27 => by omega) (fun h27 => ?_)
  refine r_aload_n hC dX1_addLetter_23 rfl ?_
  refine z_getR hM dX1_addLetter_24 fl_RX1_24 rfl rfl (vld_of (n := 1) rfl (by omega) (by omega)) ?_
  refine r_iload hC dX1_addLetter_27 rfl ?_
  refine r_iload_n hC dX1_addLetter_29 rfl ?_
  refine r_iconst hC dX1_addLetter_30 rfl ?_
  refine r_aload_n hC dX1_addLetter_31 rfl ?_
  refine z_getR hM dX1_addLetter_32 fl_RX1_24 rfl rfl (vld_of (n := 1) rfl (by omega) (by omega)) ?_
  refine r_iload hC dX1_addLetter_35 rfl ?_
  refine z_iald hM dX1_addLetter_37 rfl (by omega) (by omega) (fun v28 h_v28 o_v28 t_v28 => ?_)
  have e_v28 : n3 = v28 := ((t_v28 ((by simp [Tk, Tb, DL, DF, DX]))).trans ((a_ρ23 _ _ _ (by omega)).trans ((a_ρ15 _ _ _ (by omega)).trans ((a_ρ7 _ _ _ (by omega)).trans qg3)))).symm
  subst e_v28
  refine r_imulE hC ((2 * n3)) dX1_addLetter_38 (by omega) (by unfold inR; omega) ?_
  refine r_ishr hC dX1_addLetter_39 ?_
  have f_v29 := ishr_fr (σ 16 0 (v % 8)) (2 * n3)
  refine r_iconst hC dX1_addLetter_40 rfl ?_
  refine r_iand hC dX1_addLetter_41 ?_
  have f_v30 := iand_rng (a := (ishr (σ 16 0 (v % 8)) (2 * n3))) (b := 3) (by omega) (inR_lit rfl)
  refine z_iastG hM dX1_addLetter_42 rfl (by omega) (by omega) (by simp [Tl, DL, DF]) (by first | trivial | (simp only [Okv]; omega) | (simp [Okv]; try omega)) (fun ρ31 a_ρ31 q_ρ31 => ?_)
  refine r_iload_n hC dX1_addLetter_43 rfl ?_
  refine r_iconst hC dX1_addLetter_44 rfl ?_
  refine r_aload_n hC dX1_addLetter_45 rfl ?_
  refine z_getR hM dX1_addLetter_46 fl_RX1_24 rfl rfl (vld_of (n := 1) rfl (by omega) (by omega)) ?_
  refine r_iload hC dX1_addLetter_49 rfl ?_
  refine z_iald hM dX1_addLetter_51 rfl (by omega) (by omega) (fun v32 h_v32 o_v32 t_v32 => ?_)
  have e_v32 : (iand (ishr (σ 16 0 (v % 8)) (2 * n3)) 3) = v32 := ((t_v32 ((by simp [Tk, Tb, DL, DF, DX]))).trans q_ρ31).symm
  subst e_v32
  refine r_ishl hC dX1_addLetter_52 ?_
  have f_v33 := ishl_fr 1 (iand (ishr (σ 16 0 (v % 8)) (2 * n3)) 3)
  refine r_ior hC dX1_addLetter_53 ?_
  have f_v34 := ior_fr (ior (ior (ior 0 (ishl 1 (iand (ishr (σ 16 0 (v % 8)) (2 * n0)) 3))) (ishl 1 (iand (ishr (σ 16 0 (v % 8)) (2 * n1)) 3))) (ishl 1 (iand (ishr (σ 16 0 (v % 8)) (2 * n2)) 3))) (ishl 1 (iand (ishr (σ 16 0 (v % 8)) (2 * n3)) 3))
  refine r_istore_n hC dX1_addLetter_54 rfl ?_
  refine r_iincE hC (4) dX1_addLetter_55 rfl rfl (by omega) (by unfold inR; omega) ?_
  refine r_goto (tgt := 17) hC dX1_addLetter_58 rfl ?_
  refine r_iload hC dX1_addLetter_17 rfl ?_
  refine r_iconst hC dX1_addLetter_19 rfl ?_
  refine r_icmp_ge (tgt := 61) hC dX1_addLetter_20 rfl (fun h35 => ?_) (fun h35 => by omega)
  refine r_aload_n hC dX1_addLetter_61 rfl ?_
  refine z_getR hM dX1_addLetter_62 fl_RX1_24 rfl rfl (vld_of (n := 1) rfl (by omega) (by omega)) ?_
  refine r_iconst hC dX1_addLetter_65 rfl ?_
  refine r_iload_n hC dX1_addLetter_66 rfl ?_
  refine z_ins1 hM dX1_addLetter_67 tl_RX1_100 rfl (Nat.le_of_ble_eq_true rfl) (Nat.le_of_ble_eq_true rfl) ?_
  have hE := reach_ok (by omega : 0 ≤ (iand (ishr (σ 16 0 (v % 8)) (2 * n0)) 3) ∧ (iand (ishr (σ 16 0 (v % 8)) (2 * n0)) 3) ≤ 3) (by omega : 0 ≤ (iand (ishr (σ 16 0 (v % 8)) (2 * n1)) 3) ∧ (iand (ishr (σ 16 0 (v % 8)) (2 * n1)) 3) ≤ 3) (by omega : 0 ≤ (iand (ishr (σ 16 0 (v % 8)) (2 * n2)) 3) ∧ (iand (ishr (σ 16 0 (v % 8)) (2 * n2)) 3) ≤ 3) (by omega : 0 ≤ (iand (ishr (σ 16 0 (v % 8)) (2 * n3)) 3) ∧ (iand (ishr (σ 16 0 (v % 8)) (2 * n3)) 3) ≤ 3)
  refine x_bitCount ⟨hE.1, hE.2.1⟩ ?_
  refine z_iastG hM dX1_addLetter_70 rfl (by omega) (by omega) (by simp [Tl, DL, DF]) (by first | trivial | (simp only [Okv]; omega) | (simp [Okv]; try omega)) (fun ρ36 a_ρ36 q_ρ36 => ?_)
  refine y_vret hK rfl dX1_addLetter_71 ?_
  exact k _ ((((((Gx.rf).al a_ρ7 (by first | (simp; done) | omega | (simp; omega))).al a_ρ15 (by first | (simp; done) | omega | (simp; omega))).al a_ρ23 (by first | (simp; done) | omega | (simp; omega))).al a_ρ31 (by first | (simp; done) | omega | (simp; omega))).al a_ρ36 (by first | (simp; done) | omega | (simp; omega))) (by have hq := ((a_ρ36 _ _ _ (by omega)).trans ((a_ρ31 _ _ _ (by omega)).trans ((a_ρ23 _ _ _ (by omega)).trans ((a_ρ15 _ _ _ (by omega)).trans q_ρ7)))); exact hq) (by have hq := ((a_ρ36 _ _ _ (by omega)).trans ((a_ρ31 _ _ _ (by omega)).trans ((a_ρ23 _ _ _ (by omega)).trans q_ρ15))); exact hq) (by have hq := ((a_ρ36 _ _ _ (by omega)).trans ((a_ρ31 _ _ _ (by omega)).trans q_ρ23)); exact hq) (by have hq := ((a_ρ36 _ _ _ (by omega)).trans q_ρ31); exact hq) (by have hq := q_ρ36; exact hq.trans hE.2.2)
theorem x_addNest {eb : Bool} {d : Nat} {P : Option Vl → Mm → Prop} {σ : Mm} {v n0 n1 n2 n3 : Int} (b_v : -1000 ≤ v ∧ v ≤ 1000) (b_n0 : 0 ≤ n0 ∧ n0 ≤ 1000) (qg0 : σ 17 0 0 = n0) (b_n1 : 0 ≤ n1 ∧ n1 ≤ 1000) (qg1 : σ 17 0 1 = n1) (b_n2 : 0 ≤ n2 ∧ n2 ≤ 1000) (qg2 : σ 17 0 2 = n2) (b_n3 : -1000 ≤ n3 ∧ n3 ≤ 1000) (qg3 : σ 17 0 3 = n3)  (k : ∀ ρ : Mm, Gx (fun c x y => c = 17 ∧ x = 0 ∨ c = 14 ∧ x = 0 ∧ y = 7) σ ρ → ρ 17 0 0 = (if 0 ≤ v then n0 else if 0 < n1 then n0 else n0 + 1) → ρ 17 0 1 = (if 0 ≤ v then n1 + 1 else if 0 < n1 then n1 - 1 else n1) → ρ 17 0 2 = (if 0 ≤ v then n2 else if 0 < n1 then n2 + 1 else n2) → ρ 17 0 3 = (max n3 ((if 0 ≤ v then n1 + 1 else if 0 < n1 then n1 - 1 else n1) - (if 0 ≤ v then n0 else if 0 < n1 then n0 else n0 + 1))) → P none ρ) : WT (true, true, eb) (d + 2) 20 [vR 14 0, vI v] σ P := by
  refine WT_in fun K hK => ?_
  have hK : StpY (true, true, eb) cX1_addNest RX1 (none) (WT (true, true, eb) (d + 1)) P K := hK
  have hM := hK.1
  have hC := hK.1.1
  show K 0 [some (vR 14 0), some (vI v)] [] σ
  refine r_iload_n hC dX1_addNest_0 rfl ?_
  refine r_if_lt (tgt := 17) hC dX1_addNest_1 rfl (fun h1 => ?_) (fun h1 => ?_)
  · refine r_aload_n hC dX1_addNest_17 rfl ?_
    refine z_getR hM dX1_addNest_18 fl_RX1_24 rfl rfl (vld_of (n := 1) rfl (by omega) (by omega)) ?_
    refine r_iconst hC dX1_addNest_21 rfl ?_
    refine z_iald hM dX1_addNest_22 rfl (by omega) (by omega) (fun v2 h_v2 o_v2 t_v2 => ?_)
    have e_v2 : n1 = v2 := ((t_v2 ((by simp [Tk, Tb, DL, DF, DX]))).trans qg1).symm
    subst e_v2
    refine r_if_le (tgt := 49) hC dX1_addNest_23 rfl (fun h3 => ?_) (fun h3 => ?_)
    · refine r_aload_n hC dX1_addNest_49 rfl ?_
      refine z_getR hM dX1_addNest_50 fl_RX1_24 rfl rfl (vld_of (n := 1) rfl (by omega) (by omega)) ?_
      refine r_iconst hC dX1_addNest_53 rfl ?_
      refine r_dup2 hC dX1_addNest_54 rfl rfl ?_
      refine z_iald hM dX1_addNest_55 rfl (by omega) (by omega) (fun v4 h_v4 o_v4 t_v4 => ?_)
      have e_v4 : n0 = v4 := ((t_v4 ((by simp [Tk, Tb, DL, DF, DX]))).trans qg0).symm
      subst e_v4
      refine r_iconst hC dX1_addNest_56 rfl ?_
      refine r_iaddE hC ((n0 + 1)) dX1_addNest_57 (by omega) (by unfold inR; omega) ?_
      refine z_iastG hM dX1_addNest_58 rfl (by omega) (by omega) (by simp [Tl, DL, DF]) (by first | trivial | (simp only [Okv]; omega) | (simp [Okv]; try omega)) (fun ρ5 a_ρ5 q_ρ5 => ?_)
      refine r_aload_n hC dX1_addNest_59 rfl ?_
      refine z_getR hM dX1_addNest_60 fl_RX1_24 rfl rfl (vld_of (n := 1) rfl (by omega) (by omega)) ?_
      refine r_iconst hC dX1_addNest_63 rfl ?_
      refine r_aload_n hC dX1_addNest_64 rfl ?_
      refine z_getR hM dX1_addNest_65 fl_RX1_24 rfl rfl (vld_of (n := 1) rfl (by omega) (by omega)) ?_
      refine r_iconst hC dX1_addNest_68 rfl ?_
      refine z_iald hM dX1_addNest_69 rfl (by omega) (by omega) (fun v6 h_v6 o_v6 t_v6 => ?_)
      have e_v6 : n3 = v6 := ((t_v6 ((by simp [Tk, Tb, DL, DF, DX]))).trans ((a_ρ5 _ _ _ (by omega)).trans qg3)).symm
      subst e_v6
      refine r_aload_n hC dX1_addNest_70 rfl ?_
      refine z_getR hM dX1_addNest_71 fl_RX1_24 rfl rfl (vld_of (n := 1) rfl (by omega) (by omega)) ?_
      refine r_iconst hC dX1_addNest_74 rfl ?_
      refine z_iald hM dX1_addNest_75 rfl (by omega) (by omega) (fun v7 h_v7 o_v7 t_v7 => ?_)
      have e_v7 : n1 = v7 := ((t_v7 ((by simp [Tk, Tb, DL, DF, DX]))).trans ((a_ρ5 _ _ _ (by omega)).trans qg1)).symm
      subst e_v7
      refine r_aload_n hC dX1_addNest_76 rfl ?_
      refine z_getR hM dX1_addNest_77 fl_RX1_24 rfl rfl (vld_of (n := 1) rfl (by omega) (by omega)) ?_
      refine r_iconst hC dX1_addNest_80 rfl ?_
      refine z_iald hM dX1_addNest_81 rfl (by omega) (by omega) (fun v8 h_v8 o_v8 t_v8 => ?_)
      have e_v8 : (n0 + 1) = v8 := ((t_v8 ((by simp [Tk, Tb, DL, DF, DX]))).trans q_ρ5).symm
      subst e_v8
      refine r_isubE hC ((n1 - (n0 + 1))) dX1_addNest_82 (by omega) (by unfold inR; omega) ?_
      refine z_ins2 hM dX1_addNest_83 tl_RX1_97 rfl (Nat.le_of_ble_eq_true rfl) (Nat.le_of_ble_eq_true rfl) ?_
      refine x_max (fun v9 h_v9 => ?_)
      refine z_iastG hM dX1_addNest_86 rfl (by omega) (by omega) (by simp [Tl, DL, DF]) (by first | trivial | (simp only [Okv]; omega) | (simp [Okv]; try omega)) (fun ρ10 a_ρ10 q_ρ10 => ?_)
      refine y_vret hK rfl dX1_addNest_87 ?_
      exact k _ (((Gx.rf).al a_ρ5 (by first | (simp; done) | omega | (simp; omega))).al a_ρ10 (by first | (simp; done) | omega | (simp; omega))) (by have hq := ((a_ρ10 _ _ _ (by omega)).trans q_ρ5); (repeat' split) <;> omega) (by have hq := ((a_ρ10 _ _ _ (by omega)).trans ((a_ρ5 _ _ _ (by omega)).trans qg1)); (repeat' split) <;> omega) (by have hq := ((a_ρ10 _ _ _ (by omega)).trans ((a_ρ5 _ _ _ (by omega)).trans qg2)); (repeat' split) <;> omega) (by have hq := q_ρ10; (repeat' split) <;> omega)
    · refine r_aload_n hC dX1_addNest_26 rfl ?_
      refine z_getR hM dX1_addNest_27 fl_RX1_24 rfl rfl (vld_of (n := 1) rfl (by omega) (by omega)) ?_
      refine r_iconst hC dX1_addNest_30 rfl ?_
      refine r_dup2 hC dX1_addNest_31 rfl rfl ?_
      refine z_iald hM dX1_addNest_32 rfl (by omega) (by omega) (fun v11 h_v11 o_v11 t_v11 => ?_)
      have e_v11 : n1 = v11 := ((t_v11 ((by simp [Tk, Tb, DL, DF, DX]))).trans qg1).symm
      subst e_v11
      refine r_iconst hC dX1_addNest_33 rfl ?_
      refine r_isubE hC ((n1 - 1)) dX1_addNest_34 (by omega) (by unfold inR; omega) ?_
      refine z_iastG hM dX1_addNest_35 rfl (by omega) (by omega) (by simp [Tl, DL, DF]) (by first | trivial | (simp only [Okv]; omega) | (simp [Okv]; try omega)) (fun ρ12 a_ρ12 q_ρ12 => ?_)
      refine r_aload_n hC dX1_addNest_36 rfl ?_
      refine z_getR hM dX1_addNest_37 fl_RX1_24 rfl rfl (vld_of (n := 1) rfl (by omega) (by omega)) ?_
      refine r_iconst hC dX1_addNest_40 rfl ?_
      refine r_dup2 hC dX1_addNest_41 rfl rfl ?_
      refine z_iald hM dX1_addNest_42 rfl (by omega) (by omega) (fun v13 h_v13 o_v13 t_v13 => ?_)
      have e_v13 : n2 = v13 := ((t_v13 ((by simp [Tk, Tb, DL, DF, DX]))).trans ((a_ρ12 _ _ _ (by omega)).trans qg2)).symm
      subst e_v13
      refine r_iconst hC dX1_addNest_43 rfl ?_
      refine r_iaddE hC ((n2 + 1)) dX1_addNest_44 (by omega) (by unfold inR; omega) ?_
      refine z_iastG hM dX1_addNest_45 rfl (by omega) (by omega) (by simp [Tl, DL, DF]) (by first | trivial | (simp only [Okv]; omega) | (simp [Okv]; try omega)) (fun ρ14 a_ρ14 q_ρ14 => ?_)
      refine r_goto (tgt := 59) hC dX1_addNest_46 rfl ?_
      refine r_aload_n hC dX1_addNest_59 rfl ?_
      refine z_getR hM dX1_addNest_60 fl_RX1_24 rfl rfl (vld_of (n := 1) rfl (by omega) (by omega)) ?_
      refine r_iconst hC dX1_addNest_63 rfl ?_
      refine r_aload_n hC dX1_addNest_64 rfl ?_
      refine z_getR hM dX1_addNest_65 fl_RX1_24 rfl rfl (vld_of (n := 1) rfl (by omega) (by omega)) ?_
      refine r_iconst hC dX1_addNest_68 rfl ?_
      refine z_iald hM dX1_addNest_69 rfl (by omega) (by omega) (fun v15 h_v15 o_v15 t_v15 => ?_)
      have e_v15 : n3 = v15 := ((t_v15 ((by simp [Tk, Tb, DL, DF, DX]))).trans ((a_ρ14 _ _ _ (by omega)).trans ((a_ρ12 _ _ _ (by omega)).trans qg3))).symm
      subst e_v15
      refine r_aload_n hC dX1_addNest_70 rfl ?_
      refine z_getR hM dX1_addNest_71 fl_RX1_24 rfl rfl (vld_of (n := 1) rfl (by omega) (by omega)) ?_
      refine r_iconst hC dX1_addNest_74 rfl ?_
      refine z_iald hM dX1_addNest_75 rfl (by omega) (by omega) (fun v16 h_v16 o_v16 t_v16 => ?_)
      have e_v16 : (n1 - 1) = v16 := ((t_v16 ((by simp [Tk, Tb, DL, DF, DX]))).trans ((a_ρ14 _ _ _ (by omega)).trans q_ρ12)).symm
      subst e_v16
      refine r_aload_n hC dX1_addNest_76 rfl ?_
      refine z_getR hM dX1_addNest_77 fl_RX1_24 rfl rfl (vld_of (n := 1) rfl (by omega) (by omega)) ?_
      refine r_iconst hC dX1_addNest_80 rfl ?_
      refine z_iald hM dX1_addNest_81 rfl (by omega) (by omega) (fun v17 h_v17 o_v17 t_v17 => ?_)
      have e_v17 : n0 = v17 := ((t_v17 ((by simp [Tk, Tb, DL, DF, DX]))).trans ((a_ρ14 _ _ _ (by omega)).trans ((a_ρ12 _ _ _ (by omega)).trans qg0))).symm
      subst e_v17
      refine r_isubE hC (((n1 - 1) - n0)) dX1_addNest_82 (by omega) (by unfold inR; omega) ?_
      refine z_ins2 hM dX1_addNest_83 tl_RX1_97 rfl (Nat.le_of_ble_eq_true rfl) (Nat.le_of_ble_eq_true rfl) ?_
      refine x_max (fun v18 h_v18 => ?_)
      refine z_iastG hM dX1_addNest_86 rfl (by omega) (by omega) (by simp [Tl, DL, DF]) (by first | trivial | (simp only [Okv]; omega) | (simp [Okv]; try omega)) (fun ρ19 a_ρ19 q_ρ19 => ?_)
      refine y_vret hK rfl dX1_addNest_87 ?_
      exact k _ ((((Gx.rf).al a_ρ12 (by first | (simp; done) | omega | (simp; omega))).al a_ρ14 (by first | (simp; done) | omega | (simp; omega))).al a_ρ19 (by first | (simp; done) | omega | (simp; omega))) (by have hq := ((a_ρ19 _ _ _ (by omega)).trans ((a_ρ14 _ _ _ (by omega)).trans ((a_ρ12 _ _ _ (by omega)).trans qg0))); (repeat' split) <;> omega) (by have hq := ((a_ρ19 _ _ _ (by omega)).trans ((a_ρ14 _ _ _ (by omega)).trans q_ρ12)); (repeat' split) <;> omega) (by have hq := ((a_ρ19 _ _ _ (by omega)).trans q_ρ14); (repeat' split) <;> omega) (by have hq := q_ρ19; (repeat' split) <;> omega)
  · refine r_aload_n hC dX1_addNest_4 rfl ?_
    refine z_getR hM dX1_addNest_5 fl_RX1_24 rfl rfl (vld_of (n := 1) rfl (by omega) (by omega)) ?_
    refine r_iconst hC dX1_addNest_8 rfl ?_
    refine r_dup2 hC dX1_addNest_9 rfl rfl ?_
    refine z_iald hM dX1_addNest_10 rfl (by omega) (by omega) (fun v20 h_v20 o_v20 t_v20 => ?_)
    have e_v20 : n1 = v20 := ((t_v20 ((by simp [Tk, Tb, DL, DF, DX]))).trans qg1).symm
    subst e_v20
    refine r_iconst hC dX1_addNest_11 rfl ?_
    refine r_iaddE hC ((n1 + 1)) dX1_addNest_12 (by omega) (by unfold inR; omega) ?_
    refine z_iastG hM dX1_addNest_13 rfl (by omega) (by omega) (by simp [Tl, DL, DF]) (by first | trivial | (simp only [Okv]; omega) | (simp [Okv]; try omega)) (fun ρ21 a_ρ21 q_ρ21 => ?_)
    refine r_goto (tgt := 59) hC dX1_addNest_14 rfl ?_
    refine r_aload_n hC dX1_addNest_59 rfl ?_
    refine z_getR hM dX1_addNest_60 fl_RX1_24 rfl rfl (vld_of (n := 1) rfl (by omega) (by omega)) ?_
    refine r_iconst hC dX1_addNest_63 rfl ?_
    refine r_aload_n hC dX1_addNest_64 rfl ?_
    refine z_getR hM dX1_addNest_65 fl_RX1_24 rfl rfl (vld_of (n := 1) rfl (by omega) (by omega)) ?_
    refine r_iconst hC dX1_addNest_68 rfl ?_
    refine z_iald hM dX1_addNest_69 rfl (by omega) (by omega) (fun v22 h_v22 o_v22 t_v22 => ?_)
    have e_v22 : n3 = v22 := ((t_v22 ((by simp [Tk, Tb, DL, DF, DX]))).trans ((a_ρ21 _ _ _ (by omega)).trans qg3)).symm
    subst e_v22
    refine r_aload_n hC dX1_addNest_70 rfl ?_
    refine z_getR hM dX1_addNest_71 fl_RX1_24 rfl rfl (vld_of (n := 1) rfl (by omega) (by omega)) ?_
    refine r_iconst hC dX1_addNest_74 rfl ?_
    refine z_iald hM dX1_addNest_75 rfl (by omega) (by omega) (fun v23 h_v23 o_v23 t_v23 => ?_)
    have e_v23 : (n1 + 1) = v23 := ((t_v23 ((by simp [Tk, Tb, DL, DF, DX]))).trans q_ρ21).symm
    subst e_v23
    refine r_aload_n hC dX1_addNest_76 rfl ?_
    refine z_getR hM dX1_addNest_77 fl_RX1_24 rfl rfl (vld_of (n := 1) rfl (by omega) (by omega)) ?_
    refine r_iconst hC dX1_addNest_80 rfl ?_
    refine z_iald hM dX1_addNest_81 rfl (by omega) (by omega) (fun v24 h_v24 o_v24 t_v24 => ?_)
    have e_v24 : n0 = v24 := ((t_v24 ((by simp [Tk, Tb, DL, DF, DX]))).trans ((a_ρ21 _ _ _ (by omega)).trans qg0)).symm
    subst e_v24
    refine r_isubE hC (((n1 + 1) - n0)) dX1_addNest_82 (by omega) (by unfold inR; omega) ?_
    refine z_ins2 hM dX1_addNest_83 tl_RX1_97 rfl (Nat.le_of_ble_eq_true rfl) (Nat.le_of_ble_eq_true rfl) ?_
    refine x_max (fun v25 h_v25 => ?_)
    refine z_iastG hM dX1_addNest_86 rfl (by omega) (by omega) (by simp [Tl, DL, DF]) (by first | trivial | (simp only [Okv]; omega) | (simp [Okv]; try omega)) (fun ρ26 a_ρ26 q_ρ26 => ?_)
    refine y_vret hK rfl dX1_addNest_87 ?_
    exact k _ (((Gx.rf).al a_ρ21 (by first | (simp; done) | omega | (simp; omega))).al a_ρ26 (by first | (simp; done) | omega | (simp; omega))) (by have hq := ((a_ρ26 _ _ _ (by omega)).trans ((a_ρ21 _ _ _ (by omega)).trans qg0)); (repeat' split) <;> omega) (by have hq := ((a_ρ26 _ _ _ (by omega)).trans q_ρ21); (repeat' split) <;> omega) (by have hq := ((a_ρ26 _ _ _ (by omega)).trans ((a_ρ21 _ _ _ (by omega)).trans qg2)); (repeat' split) <;> omega) (by have hq := q_ρ26; (repeat' split) <;> omega)
theorem x_addLike {eb : Bool} {d : Nat} {P : Option Vl → Mm → Prop} {σ : Mm} {v n0 n1 n2 n3 n4 n5 n6 n : Int} (b_v : -1000 ≤ v ∧ v ≤ 1000) (qg0 : σ 17 0 0 = n0) (qg1 : σ 17 0 1 = n1) (b_n2 : 0 ≤ n2 ∧ n2 ≤ 1000) (qg2 : σ 17 0 2 = n2) (qg3 : σ 17 0 3 = n3) (b_n4 : 0 ≤ n4 ∧ n4 ≤ 1000) (qg4 : σ 17 0 4 = n4) (qg5 : σ 17 0 5 = n5) (qg6 : σ 17 0 6 = n6) (b_n : 0 ≤ n ∧ n ≤ 1000) (qg7 : σ 14 0 6 = n)  (k : ∀ ρ : Mm, Gx (fun c x y => c = 17 ∧ x = 0 ∨ c = 14 ∧ x = 0 ∧ y = 7) σ ρ → ρ 17 0 4 = (if (0 < n ∧ v = n6) then n4 + 1 else 1) → ρ 17 0 2 = (if (0 < n ∧ v = n6) then n2 else n2 + 1) → ρ 17 0 3 = (if (if (0 < n ∧ v = n6) then n2 else n2 + 1) = 1 then (if (0 < n ∧ v = n6) then n4 + 1 else 1) else n3) → ρ 17 0 0 = (if (if (0 < n ∧ v = n6) then n4 + 1 else 1) > n0 then (if (0 < n ∧ v = n6) then n4 + 1 else 1) else n0) → ρ 17 0 1 = (if (if (0 < n ∧ v = n6) then n4 + 1 else 1) > n0 then v else n1) → ρ 17 0 5 = (if n = 0 then v else n5) → ρ 17 0 6 = (v) → P none ρ) : WT (true, true, eb) (d + 1) 21 [vR 14 0, vI v] σ P := by
  refine WT_in fun K hK => ?_
  have hK : StpY (true, true, eb) cX1_addLike RX1 (none) (WT (true, true, eb) (d + 0)) P K := hK
  have hM := hK.1
  have hC := hK.1.1
  show K 0 [some (vR 14 0), some (vI v)] [] σ
  refine r_aload_n hC dX1_addLike_0 rfl ?_
  refine z_getI (jz := 6) hM dX1_addLike_1 fl_RX1_34 rfl rfl rfl (fun v1 h_v1 o_v1 t_v1 => ?_)
  have e_v1 : n = v1 := ((t_v1 ((by simp [Tk, Tb, DL, DF, DX]))).trans qg7).symm
  subst e_v1
  refine r_if_le (tgt := 31) hC dX1_addLike_4 rfl (fun h2 => ?_) (fun h2 => ?_)
  · refine r_aload_n hC dX1_addLike_31 rfl ?_
    refine z_getR hM dX1_addLike_32 fl_RX1_24 rfl rfl (vld_of (n := 1) rfl (by omega) (by omega)) ?_
    refine r_iconst hC dX1_addLike_35 rfl ?_
    refine r_dup2 hC dX1_addLike_36 rfl rfl ?_
    refine z_iald hM dX1_addLike_37 rfl (by omega) (by omega) (fun v3 h_v3 o_v3 t_v3 => ?_)
    have e_v3 : n2 = v3 := ((t_v3 ((by simp [Tk, Tb, DL, DF, DX]))).trans qg2).symm
    subst e_v3
    refine r_iconst hC dX1_addLike_38 rfl ?_
    refine r_iaddE hC ((n2 + 1)) dX1_addLike_39 (by omega) (by unfold inR; omega) ?_
    refine z_iastG hM dX1_addLike_40 rfl (by omega) (by omega) (by simp [Tl, DL, DF]) (by first | trivial | (simp only [Okv]; omega) | (simp [Okv]; try omega)) (fun ρ4 a_ρ4 q_ρ4 => ?_)
    refine r_aload_n hC dX1_addLike_41 rfl ?_
    refine z_getR hM dX1_addLike_42 fl_RX1_24 rfl rfl (vld_of (n := 1) rfl (by omega) (by omega)) ?_
    refine r_iconst hC dX1_addLike_45 rfl ?_
    refine r_iconst hC dX1_addLike_46 rfl ?_
    refine z_iastG hM dX1_addLike_47 rfl (by omega) (by omega) (by simp [Tl, DL, DF]) (by first | trivial | (simp only [Okv]; omega) | (simp [Okv]; try omega)) (fun ρ5 a_ρ5 q_ρ5 => ?_)
    refine r_aload_n hC dX1_addLike_48 rfl ?_
    refine z_getI (jz := 6) hM dX1_addLike_49 fl_RX1_34 rfl rfl rfl (fun v6 h_v6 o_v6 t_v6 => ?_)
    have e_v6 : n = v6 := ((t_v6 ((by simp [Tk, Tb, DL, DF, DX]))).trans ((a_ρ5 _ _ _ (by omega)).trans ((a_ρ4 _ _ _ (by omega)).trans qg7))).symm
    subst e_v6
    refine r_if_ne (tgt := 62) hC dX1_addLike_52 rfl (fun h7 => by omega) (fun h7 => ?_)
    refine r_aload_n hC dX1_addLike_55 rfl ?_
    refine z_getR hM dX1_addLike_56 fl_RX1_24 rfl rfl (vld_of (n := 1) rfl (by omega) (by omega)) ?_
    refine r_iconst hC dX1_addLike_59 rfl ?_
    refine r_iload_n hC dX1_addLike_60 rfl ?_
    refine z_iastG hM dX1_addLike_61 rfl (by omega) (by omega) (by simp [Tl, DL, DF]) (by first | trivial | (simp only [Okv]; omega) | (simp [Okv]; try omega)) (fun ρ8 a_ρ8 q_ρ8 => ?_)
    refine r_aload_n hC dX1_addLike_62 rfl ?_
    refine z_getR hM dX1_addLike_63 fl_RX1_24 rfl rfl (vld_of (n := 1) rfl (by omega) (by omega)) ?_
    refine r_iconst hC dX1_addLike_66 rfl ?_
    refine z_iald hM dX1_addLike_67 rfl (by omega) (by omega) (fun v9 h_v9 o_v9 t_v9 => ?_)
    have e_v9 : (n2 + 1) = v9 := ((t_v9 ((by simp [Tk, Tb, DL, DF, DX]))).trans ((a_ρ8 _ _ _ (by omega)).trans ((a_ρ5 _ _ _ (by omega)).trans q_ρ4))).symm
    subst e_v9
    refine r_iconst hC dX1_addLike_68 rfl ?_
    refine r_icmp_ne (tgt := 84) hC dX1_addLike_69 rfl (fun h10 => ?_) (fun h10 => ?_)
    · refine r_aload_n hC dX1_addLike_84 rfl ?_
      refine z_getR hM dX1_addLike_85 fl_RX1_24 rfl rfl (vld_of (n := 1) rfl (by omega) (by omega)) ?_
      refine r_iconst hC dX1_addLike_88 rfl ?_
      refine z_iald hM dX1_addLike_89 rfl (by omega) (by omega) (fun v11 h_v11 o_v11 t_v11 => ?_)
      have e_v11 : 1 = v11 := ((t_v11 ((by simp [Tk, Tb, DL, DF, DX]))).trans ((a_ρ8 _ _ _ (by omega)).trans q_ρ5)).symm
      subst e_v11
      refine r_aload_n hC dX1_addLike_90 rfl ?_
      refine z_getR hM dX1_addLike_91 fl_RX1_24 rfl rfl (vld_of (n := 1) rfl (by omega) (by omega)) ?_
      refine r_iconst hC dX1_addLike_94 rfl ?_
      refine z_iald hM dX1_addLike_95 rfl (by omega) (by omega) (fun v12 h_v12 o_v12 t_v12 => ?_)
      have e_v12 : n0 = v12 := ((t_v12 ((by simp [Tk, Tb, DL, DF, DX]))).trans ((a_ρ8 _ _ _ (by omega)).trans ((a_ρ5 _ _ _ (by omega)).trans ((a_ρ4 _ _ _ (by omega)).trans qg0)))).symm
      subst e_v12
      refine r_icmp_le (tgt := 118) hC dX1_addLike_96 rfl (fun h13 => ?_) (fun h13 => ?_)
      · refine r_aload_n hC dX1_addLike_118 rfl ?_
        refine z_getR hM dX1_addLike_119 fl_RX1_24 rfl rfl (vld_of (n := 1) rfl (by omega) (by omega)) ?_
        refine r_bipush hC dX1_addLike_122 rfl ?_
        refine r_iload_n hC dX1_addLike_124 rfl ?_
        refine z_iastG hM dX1_addLike_125 rfl (by omega) (by omega) (by simp [Tl, DL, DF]) (by first | trivial | (simp only [Okv]; omega) | (simp [Okv]; try omega)) (fun ρ14 a_ρ14 q_ρ14 => ?_)
        refine y_vret hK rfl dX1_addLike_126 ?_
        exact k _ (((((Gx.rf).al a_ρ4 (by first | (simp; done) | omega | (simp; omega))).al a_ρ5 (by first | (simp; done) | omega | (simp; omega))).al a_ρ8 (by first | (simp; done) | omega | (simp; omega))).al a_ρ14 (by first | (simp; done) | omega | (simp; omega))) (by have hq := ((a_ρ14 _ _ _ (by omega)).trans ((a_ρ8 _ _ _ (by omega)).trans q_ρ5)); (repeat' split) <;> omega) (by have hq := ((a_ρ14 _ _ _ (by omega)).trans ((a_ρ8 _ _ _ (by omega)).trans ((a_ρ5 _ _ _ (by omega)).trans q_ρ4))); (repeat' split) <;> omega) (by have hq := ((a_ρ14 _ _ _ (by omega)).trans ((a_ρ8 _ _ _ (by omega)).trans ((a_ρ5 _ _ _ (by omega)).trans ((a_ρ4 _ _ _ (by omega)).trans qg3)))); (repeat' split) <;> omega) (by have hq := ((a_ρ14 _ _ _ (by omega)).trans ((a_ρ8 _ _ _ (by omega)).trans ((a_ρ5 _ _ _ (by omega)).trans ((a_ρ4 _ _ _ (by omega)).trans qg0)))); (repeat' split) <;> omega) (by have hq := ((a_ρ14 _ _ _ (by omega)).trans ((a_ρ8 _ _ _ (by omega)).trans ((a_ρ5 _ _ _ (by omega)).trans ((a_ρ4 _ _ _ (by omega)).trans qg1)))); (repeat' split) <;> omega) (by have hq := ((a_ρ14 _ _ _ (by omega)).trans q_ρ8); (repeat' split) <;> omega) (by have hq := q_ρ14; (repeat' split) <;> omega)
      · refine r_aload_n hC dX1_addLike_99 rfl ?_
        refine z_getR hM dX1_addLike_100 fl_RX1_24 rfl rfl (vld_of (n := 1) rfl (by omega) (by omega)) ?_
        refine r_iconst hC dX1_addLike_103 rfl ?_
        refine r_aload_n hC dX1_addLike_104 rfl ?_
        refine z_getR hM dX1_addLike_105 fl_RX1_24 rfl rfl (vld_of (n := 1) rfl (by omega) (by omega)) ?_
        refine r_iconst hC dX1_addLike_108 rfl ?_
        refine z_iald hM dX1_addLike_109 rfl (by omega) (by omega) (fun v15 h_v15 o_v15 t_v15 => ?_)
        have e_v15 : 1 = v15 := ((t_v15 ((by simp [Tk, Tb, DL, DF, DX]))).trans ((a_ρ8 _ _ _ (by omega)).trans q_ρ5)).symm
        subst e_v15
        refine z_iastG hM dX1_addLike_110 rfl (by omega) (by omega) (by simp [Tl, DL, DF]) (by first | trivial | (simp only [Okv]; omega) | (simp [Okv]; try omega)) (fun ρ16 a_ρ16 q_ρ16 => ?_)
        refine r_aload_n hC dX1_addLike_111 rfl ?_
        refine z_getR hM dX1_addLike_112 fl_RX1_24 rfl rfl (vld_of (n := 1) rfl (by omega) (by omega)) ?_
        refine r_iconst hC dX1_addLike_115 rfl ?_
        refine r_iload_n hC dX1_addLike_116 rfl ?_
        refine z_iastG hM dX1_addLike_117 rfl (by omega) (by omega) (by simp [Tl, DL, DF]) (by first | trivial | (simp only [Okv]; omega) | (simp [Okv]; try omega)) (fun ρ17 a_ρ17 q_ρ17 => ?_)
        refine r_aload_n hC dX1_addLike_118 rfl ?_
        refine z_getR hM dX1_addLike_119 fl_RX1_24 rfl rfl (vld_of (n := 1) rfl (by omega) (by omega)) ?_
        refine r_bipush hC dX1_addLike_122 rfl ?_
        refine r_iload_n hC dX1_addLike_124 rfl ?_
        refine z_iastG hM dX1_addLike_125 rfl (by omega) (by omega) (by simp [Tl, DL, DF]) (by first | trivial | (simp only [Okv]; omega) | (simp [Okv]; try omega)) (fun ρ18 a_ρ18 q_ρ18 => ?_)
        refine y_vret hK rfl dX1_addLike_126 ?_
        exact k _ (((((((Gx.rf).al a_ρ4 (by first | (simp; done) | omega | (simp; omega))).al a_ρ5 (by first | (simp; done) | omega | (simp; omega))).al a_ρ8 (by first | (simp; done) | omega | (simp; omega))).al a_ρ16 (by first | (simp; done) | omega | (simp; omega))).al a_ρ17 (by first | (simp; done) | omega | (simp; omega))).al a_ρ18 (by first | (simp; done) | omega | (simp; omega))) (by have hq := ((a_ρ18 _ _ _ (by omega)).trans ((a_ρ17 _ _ _ (by omega)).trans ((a_ρ16 _ _ _ (by omega)).trans ((a_ρ8 _ _ _ (by omega)).trans q_ρ5)))); (repeat' split) <;> omega) (by have hq := ((a_ρ18 _ _ _ (by omega)).trans ((a_ρ17 _ _ _ (by omega)).trans ((a_ρ16 _ _ _ (by omega)).trans ((a_ρ8 _ _ _ (by omega)).trans ((a_ρ5 _ _ _ (by omega)).trans q_ρ4))))); (repeat' split) <;> omega) (by have hq := ((a_ρ18 _ _ _ (by omega)).trans ((a_ρ17 _ _ _ (by omega)).trans ((a_ρ16 _ _ _ (by omega)).trans ((a_ρ8 _ _ _ (by omega)).trans ((a_ρ5 _ _ _ (by omega)).trans ((a_ρ4 _ _ _ (by omega)).trans qg3)))))); (repeat' split) <;> omega) (by have hq := ((a_ρ18 _ _ _ (by omega)).trans ((a_ρ17 _ _ _ (by omega)).trans q_ρ16)); (repeat' split) <;> omega) (by have hq := ((a_ρ18 _ _ _ (by omega)).trans q_ρ17); (repeat' split) <;> omega) (by have hq := ((a_ρ18 _ _ _ (by omega)).trans ((a_ρ17 _ _ _ (by omega)).trans ((a_ρ16 _ _ _ (by omega)).trans q_ρ8))); (repeat' split) <;> omega) (by have hq := q_ρ18; (repeat' split) <;> omega)
    · refine r_aload_n hC dX1_addLike_72 rfl ?_
      refine z_getR hM dX1_addLike_73 fl_RX1_24 rfl rfl (vld_of (n := 1) rfl (by omega) (by omega)) ?_
      refine r_iconst hC dX1_addLike_76 rfl ?_
      refine r_aload_n hC dX1_addLike_77 rfl ?_
      refine z_getR hM dX1_addLike_78 fl_RX1_24 rfl rfl (vld_of (n := 1) rfl (by omega) (by omega)) ?_
      refine r_iconst hC dX1_addLike_81 rfl ?_
      refine z_iald hM dX1_addLike_82 rfl (by omega) (by omega) (fun v19 h_v19 o_v19 t_v19 => ?_)
      have e_v19 : 1 = v19 := ((t_v19 ((by simp [Tk, Tb, DL, DF, DX]))).trans ((a_ρ8 _ _ _ (by omega)).trans q_ρ5)).symm
      subst e_v19
      refine z_iastG hM dX1_addLike_83 rfl (by omega) (by omega) (by simp [Tl, DL, DF]) (by first | trivial | (simp only [Okv]; omega) | (simp [Okv]; try omega)) (fun ρ20 a_ρ20 q_ρ20 => ?_)
      refine r_aload_n hC dX1_addLike_84 rfl ?_
      refine z_getR hM dX1_addLike_85 fl_RX1_24 rfl rfl (vld_of (n := 1) rfl (by omega) (by omega)) ?_
      refine r_iconst hC dX1_addLike_88 rfl ?_
      refine z_iald hM dX1_addLike_89 rfl (by omega) (by omega) (fun v21 h_v21 o_v21 t_v21 => ?_)
      have e_v21 : 1 = v21 := ((t_v21 ((by simp [Tk, Tb, DL, DF, DX]))).trans ((a_ρ20 _ _ _ (by omega)).trans ((a_ρ8 _ _ _ (by omega)).trans q_ρ5))).symm
      subst e_v21
      refine r_aload_n hC dX1_addLike_90 rfl ?_
      refine z_getR hM dX1_addLike_91 fl_RX1_24 rfl rfl (vld_of (n := 1) rfl (by omega) (by omega)) ?_
      refine r_iconst hC dX1_addLike_94 rfl ?_
      refine z_iald hM dX1_addLike_95 rfl (by omega) (by omega) (fun v22 h_v22 o_v22 t_v22 => ?_)
      have e_v22 : n0 = v22 := ((t_v22 ((by simp [Tk, Tb, DL, DF, DX]))).trans ((a_ρ20 _ _ _ (by omega)).trans ((a_ρ8 _ _ _ (by omega)).trans ((a_ρ5 _ _ _ (by omega)).trans ((a_ρ4 _ _ _ (by omega)).trans qg0))))).symm
      subst e_v22
      refine r_icmp_le (tgt := 118) hC dX1_addLike_96 rfl (fun h23 => ?_) (fun h23 => ?_)
      · refine r_aload_n hC dX1_addLike_118 rfl ?_
        refine z_getR hM dX1_addLike_119 fl_RX1_24 rfl rfl (vld_of (n := 1) rfl (by omega) (by omega)) ?_
        refine r_bipush hC dX1_addLike_122 rfl ?_
        refine r_iload_n hC dX1_addLike_124 rfl ?_
        refine z_iastG hM dX1_addLike_125 rfl (by omega) (by omega) (by simp [Tl, DL, DF]) (by first | trivial | (simp only [Okv]; omega) | (simp [Okv]; try omega)) (fun ρ24 a_ρ24 q_ρ24 => ?_)
        refine y_vret hK rfl dX1_addLike_126 ?_
        exact k _ ((((((Gx.rf).al a_ρ4 (by first | (simp; done) | omega | (simp; omega))).al a_ρ5 (by first | (simp; done) | omega | (simp; omega))).al a_ρ8 (by first | (simp; done) | omega | (simp; omega))).al a_ρ20 (by first | (simp; done) | omega | (simp; omega))).al a_ρ24 (by first | (simp; done) | omega | (simp; omega))) (by have hq := ((a_ρ24 _ _ _ (by omega)).trans ((a_ρ20 _ _ _ (by omega)).trans ((a_ρ8 _ _ _ (by omega)).trans q_ρ5))); (repeat' split) <;> omega) (by have hq := ((a_ρ24 _ _ _ (by omega)).trans ((a_ρ20 _ _ _ (by omega)).trans ((a_ρ8 _ _ _ (by omega)).trans ((a_ρ5 _ _ _ (by omega)).trans q_ρ4)))); (repeat' split) <;> omega) (by have hq := ((a_ρ24 _ _ _ (by omega)).trans q_ρ20); (repeat' split) <;> omega) (by have hq := ((a_ρ24 _ _ _ (by omega)).trans ((a_ρ20 _ _ _ (by omega)).trans ((a_ρ8 _ _ _ (by omega)).trans ((a_ρ5 _ _ _ (by omega)).trans ((a_ρ4 _ _ _ (by omega)).trans qg0))))); (repeat' split) <;> omega) (by have hq := ((a_ρ24 _ _ _ (by omega)).trans ((a_ρ20 _ _ _ (by omega)).trans ((a_ρ8 _ _ _ (by omega)).trans ((a_ρ5 _ _ _ (by omega)).trans ((a_ρ4 _ _ _ (by omega)).trans qg1))))); (repeat' split) <;> omega) (by have hq := ((a_ρ24 _ _ _ (by omega)).trans ((a_ρ20 _ _ _ (by omega)).trans q_ρ8)); (repeat' split) <;> omega) (by have hq := q_ρ24; (repeat' split) <;> omega)
      · refine r_aload_n hC dX1_addLike_99 rfl ?_
        refine z_getR hM dX1_addLike_100 fl_RX1_24 rfl rfl (vld_of (n := 1) rfl (by omega) (by omega)) ?_
        refine r_iconst hC dX1_addLike_103 rfl ?_
        refine r_aload_n hC dX1_addLike_104 rfl ?_
        refine z_getR hM dX1_addLike_105 fl_RX1_24 rfl rfl (vld_of (n := 1) rfl (by omega) (by omega)) ?_
        refine r_iconst hC dX1_addLike_108 rfl ?_
        refine z_iald hM dX1_addLike_109 rfl (by omega) (by omega) (fun v25 h_v25 o_v25 t_v25 => ?_)
        have e_v25 : 1 = v25 := ((t_v25 ((by simp [Tk, Tb, DL, DF, DX]))).trans ((a_ρ20 _ _ _ (by omega)).trans ((a_ρ8 _ _ _ (by omega)).trans q_ρ5))).symm
        subst e_v25
        refine z_iastG hM dX1_addLike_110 rfl (by omega) (by omega) (by simp [Tl, DL, DF]) (by first | trivial | (simp only [Okv]; omega) | (simp [Okv]; try omega)) (fun ρ26 a_ρ26 q_ρ26 => ?_)
        refine r_aload_n hC dX1_addLike_111 rfl ?_
        refine z_getR hM dX1_addLike_112 fl_RX1_24 rfl rfl (vld_of (n := 1) rfl (by omega) (by omega)) ?_
        refine r_iconst hC dX1_addLike_115 rfl ?_
        refine r_iload_n hC dX1_addLike_116 rfl ?_
        refine z_iastG hM dX1_addLike_117 rfl (by omega) (by omega) (by simp [Tl, DL, DF]) (by first | trivial | (simp only [Okv]; omega) | (simp [Okv]; try omega)) (fun ρ27 a_ρ27 q_ρ27 => ?_)
        refine r_aload_n hC dX1_addLike_118 rfl ?_
        refine z_getR hM dX1_addLike_119 fl_RX1_24 rfl rfl (vld_of (n := 1) rfl (by omega) (by omega)) ?_
        refine r_bipush hC dX1_addLike_122 rfl ?_
        refine r_iload_n hC dX1_addLike_124 rfl ?_
        refine z_iastG hM dX1_addLike_125 rfl (by omega) (by omega) (by simp [Tl, DL, DF]) (by first | trivial | (simp only [Okv]; omega) | (simp [Okv]; try omega)) (fun ρ28 a_ρ28 q_ρ28 => ?_)
        refine y_vret hK rfl dX1_addLike_126 ?_
        exact k _ ((((((((Gx.rf).al a_ρ4 (by first | (simp; done) | omega | (simp; omega))).al a_ρ5 (by first | (simp; done) | omega | (simp; omega))).al a_ρ8 (by first | (simp; done) | omega | (simp; omega))).al a_ρ20 (by first | (simp; done) | omega | (simp; omega))).al a_ρ26 (by first | (simp; done) | omega | (simp; omega))).al a_ρ27 (by first | (simp; done) | omega | (simp; omega))).al a_ρ28 (by first | (simp; done) | omega | (simp; omega))) (by have hq := ((a_ρ28 _ _ _ (by omega)).trans ((a_ρ27 _ _ _ (by omega)).trans ((a_ρ26 _ _ _ (by omega)).trans ((a_ρ20 _ _ _ (by omega)).trans ((a_ρ8 _ _ _ (by omega)).trans q_ρ5))))); (repeat' split) <;> omega) (by have hq := ((a_ρ28 _ _ _ (by omega)).trans ((a_ρ27 _ _ _ (by omega)).trans ((a_ρ26 _ _ _ (by omega)).trans ((a_ρ20 _ _ _ (by omega)).trans ((a_ρ8 _ _ _ (by omega)).trans ((a_ρ5 _ _ _ (by omega)).trans q_ρ4)))))); (repeat' split) <;> omega) (by have hq := ((a_ρ28 _ _ _ (by omega)).trans ((a_ρ27 _ _ _ (by omega)).trans ((a_ρ26 _ _ _ (by omega)).trans q_ρ20))); (repeat' split) <;> omega) (by have hq := ((a_ρ28 _ _ _ (by omega)).trans ((a_ρ27 _ _ _ (by omega)).trans q_ρ26)); (repeat' split) <;> omega) (by have hq := ((a_ρ28 _ _ _ (by omega)).trans q_ρ27); (repeat' split) <;> omega) (by have hq := ((a_ρ28 _ _ _ (by omega)).trans ((a_ρ27 _ _ _ (by omega)).trans ((a_ρ26 _ _ _ (by omega)).trans ((a_ρ20 _ _ _ (by omega)).trans q_ρ8)))); (repeat' split) <;> omega) (by have hq := q_ρ28; (repeat' split) <;> omega)
  · refine r_iload_n hC dX1_addLike_7 rfl ?_
    refine r_aload_n hC dX1_addLike_8 rfl ?_
    refine z_getR hM dX1_addLike_9 fl_RX1_24 rfl rfl (vld_of (n := 1) rfl (by omega) (by omega)) ?_
    refine r_bipush hC dX1_addLike_12 rfl ?_
    refine z_iald hM dX1_addLike_14 rfl (by omega) (by omega) (fun v29 h_v29 o_v29 t_v29 => ?_)
    have e_v29 : n6 = v29 := ((t_v29 ((by simp [Tk, Tb, DL, DF, DX]))).trans qg6).symm
    subst e_v29
    refine r_icmp_ne (tgt := 31) hC dX1_addLike_15 rfl (fun h30 => ?_) (fun h30 => ?_)
    · refine r_aload_n hC dX1_addLike_31 rfl ?_
      refine z_getR hM dX1_addLike_32 fl_RX1_24 rfl rfl (vld_of (n := 1) rfl (by omega) (by omega)) ?_
      refine r_iconst hC dX1_addLike_35 rfl ?_
      refine r_dup2 hC dX1_addLike_36 rfl rfl ?_
      refine z_iald hM dX1_addLike_37 rfl (by omega) (by omega) (fun v31 h_v31 o_v31 t_v31 => ?_)
      have e_v31 : n2 = v31 := ((t_v31 ((by simp [Tk, Tb, DL, DF, DX]))).trans qg2).symm
      subst e_v31
      refine r_iconst hC dX1_addLike_38 rfl ?_
      refine r_iaddE hC ((n2 + 1)) dX1_addLike_39 (by omega) (by unfold inR; omega) ?_
      refine z_iastG hM dX1_addLike_40 rfl (by omega) (by omega) (by simp [Tl, DL, DF]) (by first | trivial | (simp only [Okv]; omega) | (simp [Okv]; try omega)) (fun ρ32 a_ρ32 q_ρ32 => ?_)
      refine r_aload_n hC dX1_addLike_41 rfl ?_
      refine z_getR hM dX1_addLike_42 fl_RX1_24 rfl rfl (vld_of (n := 1) rfl (by omega) (by omega)) ?_
      refine r_iconst hC dX1_addLike_45 rfl ?_
      refine r_iconst hC dX1_addLike_46 rfl ?_
      refine z_iastG hM dX1_addLike_47 rfl (by omega) (by omega) (by simp [Tl, DL, DF]) (by first | trivial | (simp only [Okv]; omega) | (simp [Okv]; try omega)) (fun ρ33 a_ρ33 q_ρ33 => ?_)
      refine r_aload_n hC dX1_addLike_48 rfl ?_
      refine z_getI (jz := 6) hM dX1_addLike_49 fl_RX1_34 rfl rfl rfl (fun v34 h_v34 o_v34 t_v34 => ?_)
      have e_v34 : n = v34 := ((t_v34 ((by simp [Tk, Tb, DL, DF, DX]))).trans ((a_ρ33 _ _ _ (by omega)).trans ((a_ρ32 _ _ _ (by omega)).trans qg7))).symm
      subst e_v34
      refine r_if_ne (tgt := 62) hC dX1_addLike_52 rfl (fun h35 => ?_) (fun h35 => by omega)
      refine r_aload_n hC dX1_addLike_62 rfl ?_
      refine z_getR hM dX1_addLike_63 fl_RX1_24 rfl rfl (vld_of (n := 1) rfl (by omega) (by omega)) ?_
      refine r_iconst hC dX1_addLike_66 rfl ?_
      refine z_iald hM dX1_addLike_67 rfl (by omega) (by omega) (fun v36 h_v36 o_v36 t_v36 => ?_)
      have e_v36 : (n2 + 1) = v36 := ((t_v36 ((by simp [Tk, Tb, DL, DF, DX]))).trans ((a_ρ33 _ _ _ (by omega)).trans q_ρ32)).symm
      subst e_v36
      refine r_iconst hC dX1_addLike_68 rfl ?_
      refine r_icmp_ne (tgt := 84) hC dX1_addLike_69 rfl (fun h37 => ?_) (fun h37 => ?_)
      · refine r_aload_n hC dX1_addLike_84 rfl ?_
        refine z_getR hM dX1_addLike_85 fl_RX1_24 rfl rfl (vld_of (n := 1) rfl (by omega) (by omega)) ?_
        refine r_iconst hC dX1_addLike_88 rfl ?_
        refine z_iald hM dX1_addLike_89 rfl (by omega) (by omega) (fun v38 h_v38 o_v38 t_v38 => ?_)
        have e_v38 : 1 = v38 := ((t_v38 ((by simp [Tk, Tb, DL, DF, DX]))).trans q_ρ33).symm
        subst e_v38
        refine r_aload_n hC dX1_addLike_90 rfl ?_
        refine z_getR hM dX1_addLike_91 fl_RX1_24 rfl rfl (vld_of (n := 1) rfl (by omega) (by omega)) ?_
        refine r_iconst hC dX1_addLike_94 rfl ?_
        refine z_iald hM dX1_addLike_95 rfl (by omega) (by omega) (fun v39 h_v39 o_v39 t_v39 => ?_)
        have e_v39 : n0 = v39 := ((t_v39 ((by simp [Tk, Tb, DL, DF, DX]))).trans ((a_ρ33 _ _ _ (by omega)).trans ((a_ρ32 _ _ _ (by omega)).trans qg0))).symm
        subst e_v39
        refine r_icmp_le (tgt := 118) hC dX1_addLike_96 rfl (fun h40 => ?_) (fun h40 => ?_)
        · refine r_aload_n hC dX1_addLike_118 rfl ?_
          refine z_getR hM dX1_addLike_119 fl_RX1_24 rfl rfl (vld_of (n := 1) rfl (by omega) (by omega)) ?_
          refine r_bipush hC dX1_addLike_122 rfl ?_
          refine r_iload_n hC dX1_addLike_124 rfl ?_
          refine z_iastG hM dX1_addLike_125 rfl (by omega) (by omega) (by simp [Tl, DL, DF]) (by first | trivial | (simp only [Okv]; omega) | (simp [Okv]; try omega)) (fun ρ41 a_ρ41 q_ρ41 => ?_)
          refine y_vret hK rfl dX1_addLike_126 ?_
          exact k _ ((((Gx.rf).al a_ρ32 (by first | (simp; done) | omega | (simp; omega))).al a_ρ33 (by first | (simp; done) | omega | (simp; omega))).al a_ρ41 (by first | (simp; done) | omega | (simp; omega))) (by have hq := ((a_ρ41 _ _ _ (by omega)).trans q_ρ33); (repeat' split) <;> omega) (by have hq := ((a_ρ41 _ _ _ (by omega)).trans ((a_ρ33 _ _ _ (by omega)).trans q_ρ32)); (repeat' split) <;> omega) (by have hq := ((a_ρ41 _ _ _ (by omega)).trans ((a_ρ33 _ _ _ (by omega)).trans ((a_ρ32 _ _ _ (by omega)).trans qg3))); (repeat' split) <;> omega) (by have hq := ((a_ρ41 _ _ _ (by omega)).trans ((a_ρ33 _ _ _ (by omega)).trans ((a_ρ32 _ _ _ (by omega)).trans qg0))); (repeat' split) <;> omega) (by have hq := ((a_ρ41 _ _ _ (by omega)).trans ((a_ρ33 _ _ _ (by omega)).trans ((a_ρ32 _ _ _ (by omega)).trans qg1))); (repeat' split) <;> omega) (by have hq := ((a_ρ41 _ _ _ (by omega)).trans ((a_ρ33 _ _ _ (by omega)).trans ((a_ρ32 _ _ _ (by omega)).trans qg5))); (repeat' split) <;> omega) (by have hq := q_ρ41; (repeat' split) <;> omega)
        · refine r_aload_n hC dX1_addLike_99 rfl ?_
          refine z_getR hM dX1_addLike_100 fl_RX1_24 rfl rfl (vld_of (n := 1) rfl (by omega) (by omega)) ?_
          refine r_iconst hC dX1_addLike_103 rfl ?_
          refine r_aload_n hC dX1_addLike_104 rfl ?_
          refine z_getR hM dX1_addLike_105 fl_RX1_24 rfl rfl (vld_of (n := 1) rfl (by omega) (by omega)) ?_
          refine r_iconst hC dX1_addLike_108 rfl ?_
          refine z_iald hM dX1_addLike_109 rfl (by omega) (by omega) (fun v42 h_v42 o_v42 t_v42 => ?_)
          have e_v42 : 1 = v42 := ((t_v42 ((by simp [Tk, Tb, DL, DF, DX]))).trans q_ρ33).symm
          subst e_v42
          refine z_iastG hM dX1_addLike_110 rfl (by omega) (by omega) (by simp [Tl, DL, DF]) (by first | trivial | (simp only [Okv]; omega) | (simp [Okv]; try omega)) (fun ρ43 a_ρ43 q_ρ43 => ?_)
          refine r_aload_n hC dX1_addLike_111 rfl ?_
          refine z_getR hM dX1_addLike_112 fl_RX1_24 rfl rfl (vld_of (n := 1) rfl (by omega) (by omega)) ?_
          refine r_iconst hC dX1_addLike_115 rfl ?_
          refine r_iload_n hC dX1_addLike_116 rfl ?_
          refine z_iastG hM dX1_addLike_117 rfl (by omega) (by omega) (by simp [Tl, DL, DF]) (by first | trivial | (simp only [Okv]; omega) | (simp [Okv]; try omega)) (fun ρ44 a_ρ44 q_ρ44 => ?_)
          refine r_aload_n hC dX1_addLike_118 rfl ?_
          refine z_getR hM dX1_addLike_119 fl_RX1_24 rfl rfl (vld_of (n := 1) rfl (by omega) (by omega)) ?_
          refine r_bipush hC dX1_addLike_122 rfl ?_
          refine r_iload_n hC dX1_addLike_124 rfl ?_
          refine z_iastG hM dX1_addLike_125 rfl (by omega) (by omega) (by simp [Tl, DL, DF]) (by first | trivial | (simp only [Okv]; omega) | (simp [Okv]; try omega)) (fun ρ45 a_ρ45 q_ρ45 => ?_)
          refine y_vret hK rfl dX1_addLike_126 ?_
          exact k _ ((((((Gx.rf).al a_ρ32 (by first | (simp; done) | omega | (simp; omega))).al a_ρ33 (by first | (simp; done) | omega | (simp; omega))).al a_ρ43 (by first | (simp; done) | omega | (simp; omega))).al a_ρ44 (by first | (simp; done) | omega | (simp; omega))).al a_ρ45 (by first | (simp; done) | omega | (simp; omega))) (by have hq := ((a_ρ45 _ _ _ (by omega)).trans ((a_ρ44 _ _ _ (by omega)).trans ((a_ρ43 _ _ _ (by omega)).trans q_ρ33))); (repeat' split) <;> omega) (by have hq := ((a_ρ45 _ _ _ (by omega)).trans ((a_ρ44 _ _ _ (by omega)).trans ((a_ρ43 _ _ _ (by omega)).trans ((a_ρ33 _ _ _ (by omega)).trans q_ρ32)))); (repeat' split) <;> omega) (by have hq := ((a_ρ45 _ _ _ (by omega)).trans ((a_ρ44 _ _ _ (by omega)).trans ((a_ρ43 _ _ _ (by omega)).trans ((a_ρ33 _ _ _ (by omega)).trans ((a_ρ32 _ _ _ (by omega)).trans qg3))))); (repeat' split) <;> omega) (by have hq := ((a_ρ45 _ _ _ (by omega)).trans ((a_ρ44 _ _ _ (by omega)).trans q_ρ43)); (repeat' split) <;> omega) (by have hq := ((a_ρ45 _ _ _ (by omega)).trans q_ρ44); (repeat' split) <;> omega) (by have hq := ((a_ρ45 _ _ _ (by omega)).trans ((a_ρ44 _ _ _ (by omega)).trans ((a_ρ43 _ _ _ (by omega)).trans ((a_ρ33 _ _ _ (by omega)).trans ((a_ρ32 _ _ _ (by omega)).trans qg5))))); (repeat' split) <;> omega) (by have hq := q_ρ45; (repeat' split) <;> omega)
      · refine r_aload_n hC dX1_addLike_72 rfl ?_
        refine z_getR hM dX1_addLike_73 fl_RX1_24 rfl rfl (vld_of (n := 1) rfl (by omega) (by omega)) ?_
        refine r_iconst hC dX1_addLike_76 rfl ?_
        refine r_aload_n hC dX1_addLike_77 rfl ?_
        refine z_getR hM dX1_addLike_78 fl_RX1_24 rfl rfl (vld_of (n := 1) rfl (by omega) (by omega)) ?_
        refine r_iconst hC dX1_addLike_81 rfl ?_
        refine z_iald hM dX1_addLike_82 rfl (by omega) (by omega) (fun v46 h_v46 o_v46 t_v46 => ?_)
        have e_v46 : 1 = v46 := ((t_v46 ((by simp [Tk, Tb, DL, DF, DX]))).trans q_ρ33).symm
        subst e_v46
        refine z_iastG hM dX1_addLike_83 rfl (by omega) (by omega) (by simp [Tl, DL, DF]) (by first | trivial | (simp only [Okv]; omega) | (simp [Okv]; try omega)) (fun ρ47 a_ρ47 q_ρ47 => ?_)
        refine r_aload_n hC dX1_addLike_84 rfl ?_
        refine z_getR hM dX1_addLike_85 fl_RX1_24 rfl rfl (vld_of (n := 1) rfl (by omega) (by omega)) ?_
        refine r_iconst hC dX1_addLike_88 rfl ?_
        refine z_iald hM dX1_addLike_89 rfl (by omega) (by omega) (fun v48 h_v48 o_v48 t_v48 => ?_)
        have e_v48 : 1 = v48 := ((t_v48 ((by simp [Tk, Tb, DL, DF, DX]))).trans ((a_ρ47 _ _ _ (by omega)).trans q_ρ33)).symm
        subst e_v48
        refine r_aload_n hC dX1_addLike_90 rfl ?_
        refine z_getR hM dX1_addLike_91 fl_RX1_24 rfl rfl (vld_of (n := 1) rfl (by omega) (by omega)) ?_
        refine r_iconst hC dX1_addLike_94 rfl ?_
        refine z_iald hM dX1_addLike_95 rfl (by omega) (by omega) (fun v49 h_v49 o_v49 t_v49 => ?_)
        have e_v49 : n0 = v49 := ((t_v49 ((by simp [Tk, Tb, DL, DF, DX]))).trans ((a_ρ47 _ _ _ (by omega)).trans ((a_ρ33 _ _ _ (by omega)).trans ((a_ρ32 _ _ _ (by omega)).trans qg0)))).symm
        subst e_v49
        refine r_icmp_le (tgt := 118) hC dX1_addLike_96 rfl (fun h50 => ?_) (fun h50 => ?_)
        · refine r_aload_n hC dX1_addLike_118 rfl ?_
          refine z_getR hM dX1_addLike_119 fl_RX1_24 rfl rfl (vld_of (n := 1) rfl (by omega) (by omega)) ?_
          refine r_bipush hC dX1_addLike_122 rfl ?_
          refine r_iload_n hC dX1_addLike_124 rfl ?_
          refine z_iastG hM dX1_addLike_125 rfl (by omega) (by omega) (by simp [Tl, DL, DF]) (by first | trivial | (simp only [Okv]; omega) | (simp [Okv]; try omega)) (fun ρ51 a_ρ51 q_ρ51 => ?_)
          refine y_vret hK rfl dX1_addLike_126 ?_
          exact k _ (((((Gx.rf).al a_ρ32 (by first | (simp; done) | omega | (simp; omega))).al a_ρ33 (by first | (simp; done) | omega | (simp; omega))).al a_ρ47 (by first | (simp; done) | omega | (simp; omega))).al a_ρ51 (by first | (simp; done) | omega | (simp; omega))) (by have hq := ((a_ρ51 _ _ _ (by omega)).trans ((a_ρ47 _ _ _ (by omega)).trans q_ρ33)); (repeat' split) <;> omega) (by have hq := ((a_ρ51 _ _ _ (by omega)).trans ((a_ρ47 _ _ _ (by omega)).trans ((a_ρ33 _ _ _ (by omega)).trans q_ρ32))); (repeat' split) <;> omega) (by have hq := ((a_ρ51 _ _ _ (by omega)).trans q_ρ47); (repeat' split) <;> omega) (by have hq := ((a_ρ51 _ _ _ (by omega)).trans ((a_ρ47 _ _ _ (by omega)).trans ((a_ρ33 _ _ _ (by omega)).trans ((a_ρ32 _ _ _ (by omega)).trans qg0)))); (repeat' split) <;> omega) (by have hq := ((a_ρ51 _ _ _ (by omega)).trans ((a_ρ47 _ _ _ (by omega)).trans ((a_ρ33 _ _ _ (by omega)).trans ((a_ρ32 _ _ _ (by omega)).trans qg1)))); (repeat' split) <;> omega) (by have hq := ((a_ρ51 _ _ _ (by omega)).trans ((a_ρ47 _ _ _ (by omega)).trans ((a_ρ33 _ _ _ (by omega)).trans ((a_ρ32 _ _ _ (by omega)).trans qg5)))); (repeat' split) <;> omega) (by have hq := q_ρ51; (repeat' split) <;> omega)
        · refine r_aload_n hC dX1_addLike_99 rfl ?_
          refine z_getR hM dX1_addLike_100 fl_RX1_24 rfl rfl (vld_of (n := 1) rfl (by omega) (by omega)) ?_
          refine r_iconst hC dX1_addLike_103 rfl ?_
          refine r_aload_n hC dX1_addLike_104 rfl ?_
          refine z_getR hM dX1_addLike_105 fl_RX1_24 rfl rfl (vld_of (n := 1) rfl (by omega) (by omega)) ?_
          refine r_iconst hC dX1_addLike_108 rfl ?_
          refine z_iald hM dX1_addLike_109 rfl (by omega) (by omega) (fun v52 h_v52 o_v52 t_v52 => ?_)
          have e_v52 : 1 = v52 := ((t_v52 ((by simp [Tk, Tb, DL, DF, DX]))).trans ((a_ρ47 _ _ _ (by omega)).trans q_ρ33)).symm
          subst e_v52
          refine z_iastG hM dX1_addLike_110 rfl (by omega) (by omega) (by simp [Tl, DL, DF]) (by first | trivial | (simp only [Okv]; omega) | (simp [Okv]; try omega)) (fun ρ53 a_ρ53 q_ρ53 => ?_)
          refine r_aload_n hC dX1_addLike_111 rfl ?_
          refine z_getR hM dX1_addLike_112 fl_RX1_24 rfl rfl (vld_of (n := 1) rfl (by omega) (by omega)) ?_
          refine r_iconst hC dX1_addLike_115 rfl ?_
          refine r_iload_n hC dX1_addLike_116 rfl ?_
          refine z_iastG hM dX1_addLike_117 rfl (by omega) (by omega) (by simp [Tl, DL, DF]) (by first | trivial | (simp only [Okv]; omega) | (simp [Okv]; try omega)) (fun ρ54 a_ρ54 q_ρ54 => ?_)
          refine r_aload_n hC dX1_addLike_118 rfl ?_
          refine z_getR hM dX1_addLike_119 fl_RX1_24 rfl rfl (vld_of (n := 1) rfl (by omega) (by omega)) ?_
          refine r_bipush hC dX1_addLike_122 rfl ?_
          refine r_iload_n hC dX1_addLike_124 rfl ?_
          refine z_iastG hM dX1_addLike_125 rfl (by omega) (by omega) (by simp [Tl, DL, DF]) (by first | trivial | (simp only [Okv]; omega) | (simp [Okv]; try omega)) (fun ρ55 a_ρ55 q_ρ55 => ?_)
          refine y_vret hK rfl dX1_addLike_126 ?_
          exact k _ (((((((Gx.rf).al a_ρ32 (by first | (simp; done) | omega | (simp; omega))).al a_ρ33 (by first | (simp; done) | omega | (simp; omega))).al a_ρ47 (by first | (simp; done) | omega | (simp; omega))).al a_ρ53 (by first | (simp; done) | omega | (simp; omega))).al a_ρ54 (by first | (simp; done) | omega | (simp; omega))).al a_ρ55 (by first | (simp; done) | omega | (simp; omega))) (by have hq := ((a_ρ55 _ _ _ (by omega)).trans ((a_ρ54 _ _ _ (by omega)).trans ((a_ρ53 _ _ _ (by omega)).trans ((a_ρ47 _ _ _ (by omega)).trans q_ρ33)))); (repeat' split) <;> omega) (by have hq := ((a_ρ55 _ _ _ (by omega)).trans ((a_ρ54 _ _ _ (by omega)).trans ((a_ρ53 _ _ _ (by omega)).trans ((a_ρ47 _ _ _ (by omega)).trans ((a_ρ33 _ _ _ (by omega)).trans q_ρ32))))); (repeat' split) <;> omega) (by have hq := ((a_ρ55 _ _ _ (by omega)).trans ((a_ρ54 _ _ _ (by omega)).trans ((a_ρ53 _ _ _ (by omega)).trans q_ρ47))); (repeat' split) <;> omega) (by have hq := ((a_ρ55 _ _ _ (by omega)).trans ((a_ρ54 _ _ _ (by omega)).trans q_ρ53)); (repeat' split) <;> omega) (by have hq := ((a_ρ55 _ _ _ (by omega)).trans q_ρ54); (repeat' split) <;> omega) (by have hq := ((a_ρ55 _ _ _ (by omega)).trans ((a_ρ54 _ _ _ (by omega)).trans ((a_ρ53 _ _ _ (by omega)).trans ((a_ρ47 _ _ _ (by omega)).trans ((a_ρ33 _ _ _ (by omega)).trans ((a_ρ32 _ _ _ (by omega)).trans qg5)))))); (repeat' split) <;> omega) (by have hq := q_ρ55; (repeat' split) <;> omega)
    · refine r_aload_n hC dX1_addLike_18 rfl ?_
      refine z_getR hM dX1_addLike_19 fl_RX1_24 rfl rfl (vld_of (n := 1) rfl (by omega) (by omega)) ?_
      refine r_iconst hC dX1_addLike_22 rfl ?_
      refine r_dup2 hC dX1_addLike_23 rfl rfl ?_
      refine z_iald hM dX1_addLike_24 rfl (by omega) (by omega) (fun v56 h_v56 o_v56 t_v56 => ?_)
      have e_v56 : n4 = v56 := ((t_v56 ((by simp [Tk, Tb, DL, DF, DX]))).trans qg4).symm
      subst e_v56
      refine r_iconst hC dX1_addLike_25 rfl ?_
      refine r_iaddE hC ((n4 + 1)) dX1_addLike_26 (by omega) (by unfold inR; omega) ?_
      refine z_iastG hM dX1_addLike_27 rfl (by omega) (by omega) (by simp [Tl, DL, DF]) (by first | trivial | (simp only [Okv]; omega) | (simp [Okv]; try omega)) (fun ρ57 a_ρ57 q_ρ57 => ?_)
      refine r_goto (tgt := 48) hC dX1_addLike_28 rfl ?_
      refine r_aload_n hC dX1_addLike_48 rfl ?_
      refine z_getI (jz := 6) hM dX1_addLike_49 fl_RX1_34 rfl rfl rfl (fun v58 h_v58 o_v58 t_v58 => ?_)
      have e_v58 : n = v58 := ((t_v58 ((by simp [Tk, Tb, DL, DF, DX]))).trans ((a_ρ57 _ _ _ (by omega)).trans qg7)).symm
      subst e_v58
      refine r_if_ne (tgt := 62) hC dX1_addLike_52 rfl (fun h59 => ?_) (fun h59 => by omega)
      refine r_aload_n hC dX1_addLike_62 rfl ?_
      refine z_getR hM dX1_addLike_63 fl_RX1_24 rfl rfl (vld_of (n := 1) rfl (by omega) (by omega)) ?_
      refine r_iconst hC dX1_addLike_66 rfl ?_
      refine z_iald hM dX1_addLike_67 rfl (by omega) (by omega) (fun v60 h_v60 o_v60 t_v60 => ?_)
      have e_v60 : n2 = v60 := ((t_v60 ((by simp [Tk, Tb, DL, DF, DX]))).trans ((a_ρ57 _ _ _ (by omega)).trans qg2)).symm
      subst e_v60
      refine r_iconst hC dX1_addLike_68 rfl ?_
      refine r_icmp_ne (tgt := 84) hC dX1_addLike_69 rfl (fun h61 => ?_) (fun h61 => ?_)
      · refine r_aload_n hC dX1_addLike_84 rfl ?_
        refine z_getR hM dX1_addLike_85 fl_RX1_24 rfl rfl (vld_of (n := 1) rfl (by omega) (by omega)) ?_
        refine r_iconst hC dX1_addLike_88 rfl ?_
        refine z_iald hM dX1_addLike_89 rfl (by omega) (by omega) (fun v62 h_v62 o_v62 t_v62 => ?_)
        have e_v62 : (n4 + 1) = v62 := ((t_v62 ((by simp [Tk, Tb, DL, DF, DX]))).trans q_ρ57).symm
        subst e_v62
        refine r_aload_n hC dX1_addLike_90 rfl ?_
        refine z_getR hM dX1_addLike_91 fl_RX1_24 rfl rfl (vld_of (n := 1) rfl (by omega) (by omega)) ?_
        refine r_iconst hC dX1_addLike_94 rfl ?_
        refine z_iald hM dX1_addLike_95 rfl (by omega) (by omega) (fun v63 h_v63 o_v63 t_v63 => ?_)
        have e_v63 : n0 = v63 := ((t_v63 ((by simp [Tk, Tb, DL, DF, DX]))).trans ((a_ρ57 _ _ _ (by omega)).trans qg0)).symm
        subst e_v63
        refine r_icmp_le (tgt := 118) hC dX1_addLike_96 rfl (fun h64 => ?_) (fun h64 => ?_)
        · refine r_aload_n hC dX1_addLike_118 rfl ?_
          refine z_getR hM dX1_addLike_119 fl_RX1_24 rfl rfl (vld_of (n := 1) rfl (by omega) (by omega)) ?_
          refine r_bipush hC dX1_addLike_122 rfl ?_
          refine r_iload_n hC dX1_addLike_124 rfl ?_
          refine z_iastG hM dX1_addLike_125 rfl (by omega) (by omega) (by simp [Tl, DL, DF]) (by first | trivial | (simp only [Okv]; omega) | (simp [Okv]; try omega)) (fun ρ65 a_ρ65 q_ρ65 => ?_)
          refine y_vret hK rfl dX1_addLike_126 ?_
          exact k _ (((Gx.rf).al a_ρ57 (by first | (simp; done) | omega | (simp; omega))).al a_ρ65 (by first | (simp; done) | omega | (simp; omega))) (by have hq := ((a_ρ65 _ _ _ (by omega)).trans q_ρ57); (repeat' split) <;> omega) (by have hq := ((a_ρ65 _ _ _ (by omega)).trans ((a_ρ57 _ _ _ (by omega)).trans qg2)); (repeat' split) <;> omega) (by have hq := ((a_ρ65 _ _ _ (by omega)).trans ((a_ρ57 _ _ _ (by omega)).trans qg3)); (repeat' split) <;> omega) (by have hq := ((a_ρ65 _ _ _ (by omega)).trans ((a_ρ57 _ _ _ (by omega)).trans qg0)); (repeat' split) <;> omega) (by have hq := ((a_ρ65 _ _ _ (by omega)).trans ((a_ρ57 _ _ _ (by omega)).trans qg1)); (repeat' split) <;> omega) (by have hq := ((a_ρ65 _ _ _ (by omega)).trans ((a_ρ57 _ _ _ (by omega)).trans qg5)); (repeat' split) <;> omega) (by have hq := q_ρ65; (repeat' split) <;> omega)
        · refine r_aload_n hC dX1_addLike_99 rfl ?_
          refine z_getR hM dX1_addLike_100 fl_RX1_24 rfl rfl (vld_of (n := 1) rfl (by omega) (by omega)) ?_
          refine r_iconst hC dX1_addLike_103 rfl ?_
          refine r_aload_n hC dX1_addLike_104 rfl ?_
          refine z_getR hM dX1_addLike_105 fl_RX1_24 rfl rfl (vld_of (n := 1) rfl (by omega) (by omega)) ?_
          refine r_iconst hC dX1_addLike_108 rfl ?_
          refine z_iald hM dX1_addLike_109 rfl (by omega) (by omega) (fun v66 h_v66 o_v66 t_v66 => ?_)
          have e_v66 : (n4 + 1) = v66 := ((t_v66 ((by simp [Tk, Tb, DL, DF, DX]))).trans q_ρ57).symm
          subst e_v66
          refine z_iastG hM dX1_addLike_110 rfl (by omega) (by omega) (by simp [Tl, DL, DF]) (by first | trivial | (simp only [Okv]; omega) | (simp [Okv]; try omega)) (fun ρ67 a_ρ67 q_ρ67 => ?_)
          refine r_aload_n hC dX1_addLike_111 rfl ?_
          refine z_getR hM dX1_addLike_112 fl_RX1_24 rfl rfl (vld_of (n := 1) rfl (by omega) (by omega)) ?_
          refine r_iconst hC dX1_addLike_115 rfl ?_
          refine r_iload_n hC dX1_addLike_116 rfl ?_
          refine z_iastG hM dX1_addLike_117 rfl (by omega) (by omega) (by simp [Tl, DL, DF]) (by first | trivial | (simp only [Okv]; omega) | (simp [Okv]; try omega)) (fun ρ68 a_ρ68 q_ρ68 => ?_)
          refine r_aload_n hC dX1_addLike_118 rfl ?_
          refine z_getR hM dX1_addLike_119 fl_RX1_24 rfl rfl (vld_of (n := 1) rfl (by omega) (by omega)) ?_
          refine r_bipush hC dX1_addLike_122 rfl ?_
          refine r_iload_n hC dX1_addLike_124 rfl ?_
          refine z_iastG hM dX1_addLike_125 rfl (by omega) (by omega) (by simp [Tl, DL, DF]) (by first | trivial | (simp only [Okv]; omega) | (simp [Okv]; try omega)) (fun ρ69 a_ρ69 q_ρ69 => ?_)
          refine y_vret hK rfl dX1_addLike_126 ?_
          exact k _ (((((Gx.rf).al a_ρ57 (by first | (simp; done) | omega | (simp; omega))).al a_ρ67 (by first | (simp; done) | omega | (simp; omega))).al a_ρ68 (by first | (simp; done) | omega | (simp; omega))).al a_ρ69 (by first | (simp; done) | omega | (simp; omega))) (by have hq := ((a_ρ69 _ _ _ (by omega)).trans ((a_ρ68 _ _ _ (by omega)).trans ((a_ρ67 _ _ _ (by omega)).trans q_ρ57))); (repeat' split) <;> omega) (by have hq := ((a_ρ69 _ _ _ (by omega)).trans ((a_ρ68 _ _ _ (by omega)).trans ((a_ρ67 _ _ _ (by omega)).trans ((a_ρ57 _ _ _ (by omega)).trans qg2)))); (repeat' split) <;> omega) (by have hq := ((a_ρ69 _ _ _ (by omega)).trans ((a_ρ68 _ _ _ (by omega)).trans ((a_ρ67 _ _ _ (by omega)).trans ((a_ρ57 _ _ _ (by omega)).trans qg3)))); (repeat' split) <;> omega) (by have hq := ((a_ρ69 _ _ _ (by omega)).trans ((a_ρ68 _ _ _ (by omega)).trans q_ρ67)); (repeat' split) <;> omega) (by have hq := ((a_ρ69 _ _ _ (by omega)).trans q_ρ68); (repeat' split) <;> omega) (by have hq := ((a_ρ69 _ _ _ (by omega)).trans ((a_ρ68 _ _ _ (by omega)).trans ((a_ρ67 _ _ _ (by omega)).trans ((a_ρ57 _ _ _ (by omega)).trans qg5)))); (repeat' split) <;> omega) (by have hq := q_ρ69; (repeat' split) <;> omega)
      · refine r_aload_n hC dX1_addLike_72 rfl ?_
        refine z_getR hM dX1_addLike_73 fl_RX1_24 rfl rfl (vld_of (n := 1) rfl (by omega) (by omega)) ?_
        refine r_iconst hC dX1_addLike_76 rfl ?_
        refine r_aload_n hC dX1_addLike_77 rfl ?_
        refine z_getR hM dX1_addLike_78 fl_RX1_24 rfl rfl (vld_of (n := 1) rfl (by omega) (by omega)) ?_
        refine r_iconst hC dX1_addLike_81 rfl ?_
        refine z_iald hM dX1_addLike_82 rfl (by omega) (by omega) (fun v70 h_v70 o_v70 t_v70 => ?_)
        have e_v70 : (n4 + 1) = v70 := ((t_v70 ((by simp [Tk, Tb, DL, DF, DX]))).trans q_ρ57).symm
        subst e_v70
        refine z_iastG hM dX1_addLike_83 rfl (by omega) (by omega) (by simp [Tl, DL, DF]) (by first | trivial | (simp only [Okv]; omega) | (simp [Okv]; try omega)) (fun ρ71 a_ρ71 q_ρ71 => ?_)
        refine r_aload_n hC dX1_addLike_84 rfl ?_
        refine z_getR hM dX1_addLike_85 fl_RX1_24 rfl rfl (vld_of (n := 1) rfl (by omega) (by omega)) ?_
        refine r_iconst hC dX1_addLike_88 rfl ?_
        refine z_iald hM dX1_addLike_89 rfl (by omega) (by omega) (fun v72 h_v72 o_v72 t_v72 => ?_)
        have e_v72 : (n4 + 1) = v72 := ((t_v72 ((by simp [Tk, Tb, DL, DF, DX]))).trans ((a_ρ71 _ _ _ (by omega)).trans q_ρ57)).symm
        subst e_v72
        refine r_aload_n hC dX1_addLike_90 rfl ?_
        refine z_getR hM dX1_addLike_91 fl_RX1_24 rfl rfl (vld_of (n := 1) rfl (by omega) (by omega)) ?_
        refine r_iconst hC dX1_addLike_94 rfl ?_
        refine z_iald hM dX1_addLike_95 rfl (by omega) (by omega) (fun v73 h_v73 o_v73 t_v73 => ?_)
        have e_v73 : n0 = v73 := ((t_v73 ((by simp [Tk, Tb, DL, DF, DX]))).trans ((a_ρ71 _ _ _ (by omega)).trans ((a_ρ57 _ _ _ (by omega)).trans qg0))).symm
        subst e_v73
        refine r_icmp_le (tgt := 118) hC dX1_addLike_96 rfl (fun h74 => ?_) (fun h74 => ?_)
        · refine r_aload_n hC dX1_addLike_118 rfl ?_
          refine z_getR hM dX1_addLike_119 fl_RX1_24 rfl rfl (vld_of (n := 1) rfl (by omega) (by omega)) ?_
          refine r_bipush hC dX1_addLike_122 rfl ?_
          refine r_iload_n hC dX1_addLike_124 rfl ?_
          refine z_iastG hM dX1_addLike_125 rfl (by omega) (by omega) (by simp [Tl, DL, DF]) (by first | trivial | (simp only [Okv]; omega) | (simp [Okv]; try omega)) (fun ρ75 a_ρ75 q_ρ75 => ?_)
          refine y_vret hK rfl dX1_addLike_126 ?_
          exact k _ ((((Gx.rf).al a_ρ57 (by first | (simp; done) | omega | (simp; omega))).al a_ρ71 (by first | (simp; done) | omega | (simp; omega))).al a_ρ75 (by first | (simp; done) | omega | (simp; omega))) (by have hq := ((a_ρ75 _ _ _ (by omega)).trans ((a_ρ71 _ _ _ (by omega)).trans q_ρ57)); (repeat' split) <;> omega) (by have hq := ((a_ρ75 _ _ _ (by omega)).trans ((a_ρ71 _ _ _ (by omega)).trans ((a_ρ57 _ _ _ (by omega)).trans qg2))); (repeat' split) <;> omega) (by have hq := ((a_ρ75 _ _ _ (by omega)).trans q_ρ71); (repeat' split) <;> omega) (by have hq := ((a_ρ75 _ _ _ (by omega)).trans ((a_ρ71 _ _ _ (by omega)).trans ((a_ρ57 _ _ _ (by omega)).trans qg0))); (repeat' split) <;> omega) (by have hq := ((a_ρ75 _ _ _ (by omega)).trans ((a_ρ71 _ _ _ (by omega)).trans ((a_ρ57 _ _ _ (by omega)).trans qg1))); (repeat' split) <;> omega) (by have hq := ((a_ρ75 _ _ _ (by omega)).trans ((a_ρ71 _ _ _ (by omega)).trans ((a_ρ57 _ _ _ (by omega)).trans qg5))); (repeat' split) <;> omega) (by have hq := q_ρ75; (repeat' split) <;> omega)
        · refine r_aload_n hC dX1_addLike_99 rfl ?_
          refine z_getR hM dX1_addLike_100 fl_RX1_24 rfl rfl (vld_of (n := 1) rfl (by omega) (by omega)) ?_
          refine r_iconst hC dX1_addLike_103 rfl ?_
          refine r_aload_n hC dX1_addLike_104 rfl ?_
          refine z_getR hM dX1_addLike_105 fl_RX1_24 rfl rfl (vld_of (n := 1) rfl (by omega) (by omega)) ?_
          refine r_iconst hC dX1_addLike_108 rfl ?_
          refine z_iald hM dX1_addLike_109 rfl (by omega) (by omega) (fun v76 h_v76 o_v76 t_v76 => ?_)
          have e_v76 : (n4 + 1) = v76 := ((t_v76 ((by simp [Tk, Tb, DL, DF, DX]))).trans ((a_ρ71 _ _ _ (by omega)).trans q_ρ57)).symm
          subst e_v76
          refine z_iastG hM dX1_addLike_110 rfl (by omega) (by omega) (by simp [Tl, DL, DF]) (by first | trivial | (simp only [Okv]; omega) | (simp [Okv]; try omega)) (fun ρ77 a_ρ77 q_ρ77 => ?_)
          refine r_aload_n hC dX1_addLike_111 rfl ?_
          refine z_getR hM dX1_addLike_112 fl_RX1_24 rfl rfl (vld_of (n := 1) rfl (by omega) (by omega)) ?_
          refine r_iconst hC dX1_addLike_115 rfl ?_
          refine r_iload_n hC dX1_addLike_116 rfl ?_
          refine z_iastG hM dX1_addLike_117 rfl (by omega) (by omega) (by simp [Tl, DL, DF]) (by first | trivial | (simp only [Okv]; omega) | (simp [Okv]; try omega)) (fun ρ78 a_ρ78 q_ρ78 => ?_)
          refine r_aload_n hC dX1_addLike_118 rfl ?_
          refine z_getR hM dX1_addLike_119 fl_RX1_24 rfl rfl (vld_of (n := 1) rfl (by omega) (by omega)) ?_
          refine r_bipush hC dX1_addLike_122 rfl ?_
          refine r_iload_n hC dX1_addLike_124 rfl ?_
          refine z_iastG hM dX1_addLike_125 rfl (by omega) (by omega) (by simp [Tl, DL, DF]) (by first | trivial | (simp only [Okv]; omega) | (simp [Okv]; try omega)) (fun ρ79 a_ρ79 q_ρ79 => ?_)
          refine y_vret hK rfl dX1_addLike_126 ?_
          exact k _ ((((((Gx.rf).al a_ρ57 (by first | (simp; done) | omega | (simp; omega))).al a_ρ71 (by first | (simp; done) | omega | (simp; omega))).al a_ρ77 (by first | (simp; done) | omega | (simp; omega))).al a_ρ78 (by first | (simp; done) | omega | (simp; omega))).al a_ρ79 (by first | (simp; done) | omega | (simp; omega))) (by have hq := ((a_ρ79 _ _ _ (by omega)).trans ((a_ρ78 _ _ _ (by omega)).trans ((a_ρ77 _ _ _ (by omega)).trans ((a_ρ71 _ _ _ (by omega)).trans q_ρ57)))); (repeat' split) <;> omega) (by have hq := ((a_ρ79 _ _ _ (by omega)).trans ((a_ρ78 _ _ _ (by omega)).trans ((a_ρ77 _ _ _ (by omega)).trans ((a_ρ71 _ _ _ (by omega)).trans ((a_ρ57 _ _ _ (by omega)).trans qg2))))); (repeat' split) <;> omega) (by have hq := ((a_ρ79 _ _ _ (by omega)).trans ((a_ρ78 _ _ _ (by omega)).trans ((a_ρ77 _ _ _ (by omega)).trans q_ρ71))); (repeat' split) <;> omega) (by have hq := ((a_ρ79 _ _ _ (by omega)).trans ((a_ρ78 _ _ _ (by omega)).trans q_ρ77)); (repeat' split) <;> omega) (by have hq := ((a_ρ79 _ _ _ (by omega)).trans q_ρ78); (repeat' split) <;> omega) (by have hq := ((a_ρ79 _ _ _ (by omega)).trans ((a_ρ78 _ _ _ (by omega)).trans ((a_ρ77 _ _ _ (by omega)).trans ((a_ρ71 _ _ _ (by omega)).trans ((a_ρ57 _ _ _ (by omega)).trans qg5))))); (repeat' split) <;> omega) (by have hq := q_ρ79; (repeat' split) <;> omega)
theorem x_addStep {eb : Bool} {d : Nat} {P : Option Vl → Mm → Prop} {σ : Mm} {v n0 n1 n2 n3 n4 n r : Int} (b_v : -1000 ≤ v ∧ v ≤ 1000) (b_n0 : 0 ≤ n0 ∧ n0 ≤ 1000) (qg0 : σ 17 0 0 = n0) (b_n1 : 0 ≤ n1 ∧ n1 ≤ 1000) (qg1 : σ 17 0 1 = n1) (qg2 : σ 17 0 2 = n2) (qg3 : σ 17 0 3 = n3) (b_n4 : 0 ≤ n4 ∧ n4 ≤ 1000) (qg4 : σ 17 0 4 = n4) (b_n : 0 ≤ n ∧ n ≤ 1000) (qg5 : σ 14 0 6 = n) (b_r : 0 ≤ r ∧ r ≤ 1000) (qg6 : σ 14 0 7 = r)  (k : ∀ ρ : Mm, Gx (fun c x y => c = 17 ∧ x = 0 ∨ c = 14 ∧ x = 0 ∧ y = 7) σ ρ → ρ 17 0 0 = (n0 + (if (0 < n ∧ v < n3) then 1 else 0)) → ρ 17 0 1 = (n1 + (if 0 < n ∧ v > n3 then 1 else 0)) → ρ 17 0 2 = (if n = 0 then v else n2) → ρ 17 0 3 = (v) → ρ 17 0 4 = (max n4 (if (0 < n ∧ v < n3) then 1 else r + 1)) → ρ 14 0 7 = (if (0 < n ∧ v < n3) then 1 else r + 1) → P none ρ) : WT (true, true, eb) (d + 2) 22 [vR 14 0, vI v] σ P := by
  refine WT_in fun K hK => ?_
  have hK : StpY (true, true, eb) cX1_addStep RX1 (none) (WT (true, true, eb) (d + 1)) P K := hK
  have hM := hK.1
  have hC := hK.1.1
  show K 0 [some (vR 14 0), some (vI v), none, none, none] [] σ
  refine r_aload_n hC dX1_addStep_0 rfl ?_
  refine z_getI (jz := 6) hM dX1_addStep_1 fl_RX1_34 rfl rfl rfl (fun v1 h_v1 o_v1 t_v1 => ?_)
  have e_v1 : n = v1 := ((t_v1 ((by simp [Tk, Tb, DL, DF, DX]))).trans qg5).symm
  subst e_v1
  refine r_if_ne (tgt := 11) hC dX1_addStep_4 rfl (fun h2 => ?_) (fun h2 => ?_)
  · refine r_iconst hC dX1_addStep_11 rfl ?_
    refine r_istore_n hC dX1_addStep_12 rfl ?_
    refine r_iload_n hC dX1_addStep_13 rfl ?_
    refine r_if_ne (tgt := 31) hC dX1_addStep_14 rfl (fun h3 => by omega) (fun h3 => ?_)
    refine r_iload_n hC dX1_addStep_17 rfl ?_
    refine r_aload_n hC dX1_addStep_18 rfl ?_
    refine z_getR hM dX1_addStep_19 fl_RX1_24 rfl rfl (vld_of (n := 1) rfl (by omega) (by omega)) ?_
    refine r_iconst hC dX1_addStep_22 rfl ?_
    refine z_iald hM dX1_addStep_23 rfl (by omega) (by omega) (fun v4 h_v4 o_v4 t_v4 => ?_)
    have e_v4 : n3 = v4 := ((t_v4 ((by simp [Tk, Tb, DL, DF, DX]))).trans qg3).symm
    subst e_v4
    refine r_icmp_ge (tgt := 31) hC dX1_addStep_24 rfl (fun h5 => ?_) (fun h5 => ?_)
    · refine r_iconst hC dX1_addStep_31 rfl ?_
      refine r_istore_n hC dX1_addStep_32 rfl ?_
      refine r_iload_n hC dX1_addStep_33 rfl ?_
      refine r_if_ne (tgt := 51) hC dX1_addStep_34 rfl (fun h6 => by omega) (fun h6 => ?_)
      refine r_iload_n hC dX1_addStep_37 rfl ?_
      refine r_aload_n hC dX1_addStep_38 rfl ?_
      refine z_getR hM dX1_addStep_39 fl_RX1_24 rfl rfl (vld_of (n := 1) rfl (by omega) (by omega)) ?_
      refine r_iconst hC dX1_addStep_42 rfl ?_
      refine z_iald hM dX1_addStep_43 rfl (by omega) (by omega) (fun v7 h_v7 o_v7 t_v7 => ?_)
      have e_v7 : n3 = v7 := ((t_v7 ((by simp [Tk, Tb, DL, DF, DX]))).trans qg3).symm
      subst e_v7
      refine r_icmp_le (tgt := 51) hC dX1_addStep_44 rfl (fun h8 => ?_) (fun h8 => ?_)
      · refine r_iconst hC dX1_addStep_51 rfl ?_
        refine r_istore hC dX1_addStep_52 rfl ?_
        refine r_aload_n hC dX1_addStep_54 rfl ?_
        refine z_getR hM dX1_addStep_55 fl_RX1_24 rfl rfl (vld_of (n := 1) rfl (by omega) (by omega)) ?_
        refine r_iconst hC dX1_addStep_58 rfl ?_
        refine r_dup2 hC dX1_addStep_59 rfl rfl ?_
        refine z_iald hM dX1_addStep_60 rfl (by omega) (by omega) (fun v9 h_v9 o_v9 t_v9 => ?_)
        have e_v9 : n0 = v9 := ((t_v9 ((by simp [Tk, Tb, DL, DF, DX]))).trans qg0).symm
        subst e_v9
        refine r_iload_n hC dX1_addStep_61 rfl ?_
        refine r_if_eq (tgt := 69) hC dX1_addStep_62 rfl (fun h10 => ?_) (fun h10 => by omega)
        refine r_iconst hC dX1_addStep_69 rfl ?_
        refine r_iaddE hC (n0) dX1_addStep_70 (by omega) (by unfold inR; omega) ?_
        refine z_iastG hM dX1_addStep_71 rfl (by omega) (by omega) (by simp [Tl, DL, DF]) (by first | trivial | (simp only [Okv]; omega) | (simp [Okv]; try omega)) (fun ρ11 a_ρ11 q_ρ11 => ?_)
        refine r_aload_n hC dX1_addStep_72 rfl ?_
        refine z_getR hM dX1_addStep_73 fl_RX1_24 rfl rfl (vld_of (n := 1) rfl (by omega) (by omega)) ?_
        refine r_iconst hC dX1_addStep_76 rfl ?_
        refine r_dup2 hC dX1_addStep_77 rfl rfl ?_
        refine z_iald hM dX1_addStep_78 rfl (by omega) (by omega) (fun v12 h_v12 o_v12 t_v12 => ?_)
        have e_v12 : n1 = v12 := ((t_v12 ((by simp [Tk, Tb, DL, DF, DX]))).trans ((a_ρ11 _ _ _ (by omega)).trans qg1)).symm
        subst e_v12
        refine r_iload hC dX1_addStep_79 rfl ?_
        refine r_if_eq (tgt := 88) hC dX1_addStep_81 rfl (fun h13 => ?_) (fun h13 => by omega)
        refine r_iconst hC dX1_addStep_88 rfl ?_
        refine r_iaddE hC (n1) dX1_addStep_89 (by omega) (by unfold inR; omega) ?_
        refine z_iastG hM dX1_addStep_90 rfl (by omega) (by omega) (by simp [Tl, DL, DF]) (by first | trivial | (simp only [Okv]; omega) | (simp [Okv]; try omega)) (fun ρ14 a_ρ14 q_ρ14 => ?_)
        refine r_aload_n hC dX1_addStep_91 rfl ?_
        refine z_getR hM dX1_addStep_92 fl_RX1_24 rfl rfl (vld_of (n := 1) rfl (by omega) (by omega)) ?_
        refine r_iconst hC dX1_addStep_95 rfl ?_
        refine r_iload_n hC dX1_addStep_96 rfl ?_
        refine r_if_eq (tgt := 104) hC dX1_addStep_97 rfl (fun h15 => ?_) (fun h15 => by omega)
        refine r_aload_n hC dX1_addStep_104 rfl ?_
        refine z_getR hM dX1_addStep_105 fl_RX1_24 rfl rfl (vld_of (n := 1) rfl (by omega) (by omega)) ?_
        refine r_iconst hC dX1_addStep_108 rfl ?_
        refine z_iald hM dX1_addStep_109 rfl (by omega) (by omega) (fun v16 h_v16 o_v16 t_v16 => ?_)
        have e_v16 : n2 = v16 := ((t_v16 ((by simp [Tk, Tb, DL, DF, DX]))).trans ((a_ρ14 _ _ _ (by omega)).trans ((a_ρ11 _ _ _ (by omega)).trans qg2))).symm
        subst e_v16
        refine z_iastG hM dX1_addStep_110 rfl (by omega) (by omega) (by simp [Tl, DL, DF]) (by first | trivial | (simp only [Okv]; omega) | (simp [Okv]; try omega)) (fun ρ17 a_ρ17 q_ρ17 => ?_)
        refine r_aload_n hC dX1_addStep_111 rfl ?_
        refine z_getR hM dX1_addStep_112 fl_RX1_24 rfl rfl (vld_of (n := 1) rfl (by omega) (by omega)) ?_
        refine r_iconst hC dX1_addStep_115 rfl ?_
        refine r_iload_n hC dX1_addStep_116 rfl ?_
        refine z_iastG hM dX1_addStep_117 rfl (by omega) (by omega) (by simp [Tl, DL, DF]) (by first | trivial | (simp only [Okv]; omega) | (simp [Okv]; try omega)) (fun ρ18 a_ρ18 q_ρ18 => ?_)
        refine r_aload_n hC dX1_addStep_118 rfl ?_
        refine r_iload_n hC dX1_addStep_119 rfl ?_
        refine r_if_eq (tgt := 127) hC dX1_addStep_120 rfl (fun h19 => ?_) (fun h19 => by omega)
        refine r_aload_n hC dX1_addStep_127 rfl ?_
        refine z_getI (jz := 7) hM dX1_addStep_128 fl_RX1_37 rfl rfl rfl (fun v20 h_v20 o_v20 t_v20 => ?_)
        have e_v20 : r = v20 := ((t_v20 ((by simp [Tk, Tb, DL, DF, DX]))).trans ((a_ρ18 _ _ _ (by omega)).trans ((a_ρ17 _ _ _ (by omega)).trans ((a_ρ14 _ _ _ (by omega)).trans ((a_ρ11 _ _ _ (by omega)).trans qg6))))).symm
        subst e_v20
        refine r_iconst hC dX1_addStep_131 rfl ?_
        refine r_iaddE hC ((r + 1)) dX1_addStep_132 (by omega) (by unfold inR; omega) ?_
        refine z_putIG (jz := 7) hM dX1_addStep_133 fw_RX1_37 rfl rfl rfl (by simp [Tl, DL, DF]) (by first | trivial | (simp only [Okv]; omega) | (simp [Okv]; try omega)) (fun ρ21 a_ρ21 q_ρ21 => ?_)
        refine r_aload_n hC dX1_addStep_136 rfl ?_
        refine z_getR hM dX1_addStep_137 fl_RX1_24 rfl rfl (vld_of (n := 1) rfl (by omega) (by omega)) ?_
        refine r_iconst hC dX1_addStep_140 rfl ?_
        refine r_aload_n hC dX1_addStep_141 rfl ?_
        refine z_getR hM dX1_addStep_142 fl_RX1_24 rfl rfl (vld_of (n := 1) rfl (by omega) (by omega)) ?_
        refine r_iconst hC dX1_addStep_145 rfl ?_
        refine z_iald hM dX1_addStep_146 rfl (by omega) (by omega) (fun v22 h_v22 o_v22 t_v22 => ?_)
        have e_v22 : n4 = v22 := ((t_v22 ((by simp [Tk, Tb, DL, DF, DX]))).trans ((a_ρ21 _ _ _ (by omega)).trans ((a_ρ18 _ _ _ (by omega)).trans ((a_ρ17 _ _ _ (by omega)).trans ((a_ρ14 _ _ _ (by omega)).trans ((a_ρ11 _ _ _ (by omega)).trans qg4)))))).symm
        subst e_v22
        refine r_aload_n hC dX1_addStep_147 rfl ?_
        refine z_getI (jz := 7) hM dX1_addStep_148 fl_RX1_37 rfl rfl rfl (fun v23 h_v23 o_v23 t_v23 => ?_)
        have e_v23 : (r + 1) = v23 := ((t_v23 ((by simp [Tk, Tb, DL, DF, DX]))).trans q_ρ21).symm
        subst e_v23
        refine z_ins2 hM dX1_addStep_151 tl_RX1_97 rfl (Nat.le_of_ble_eq_true rfl) (Nat.le_of_ble_eq_true rfl) ?_
        refine x_max (fun v24 h_v24 => ?_)
        refine z_iastG hM dX1_addStep_154 rfl (by omega) (by omega) (by simp [Tl, DL, DF]) (by first | trivial | (simp only [Okv]; omega) | (simp [Okv]; try omega)) (fun ρ25 a_ρ25 q_ρ25 => ?_)
        refine y_vret hK rfl dX1_addStep_155 ?_
        exact k _ (((((((Gx.rf).al a_ρ11 (by first | (simp; done) | omega | (simp; omega))).al a_ρ14 (by first | (simp; done) | omega | (simp; omega))).al a_ρ17 (by first | (simp; done) | omega | (simp; omega))).al a_ρ18 (by first | (simp; done) | omega | (simp; omega))).al a_ρ21 (by first | (simp; done) | omega | (simp; omega))).al a_ρ25 (by first | (simp; done) | omega | (simp; omega))) (by have hq := ((a_ρ25 _ _ _ (by omega)).trans ((a_ρ21 _ _ _ (by omega)).trans ((a_ρ18 _ _ _ (by omega)).trans ((a_ρ17 _ _ _ (by omega)).trans ((a_ρ14 _ _ _ (by omega)).trans q_ρ11))))); (repeat' split) <;> omega) (by have hq := ((a_ρ25 _ _ _ (by omega)).trans ((a_ρ21 _ _ _ (by omega)).trans ((a_ρ18 _ _ _ (by omega)).trans ((a_ρ17 _ _ _ (by omega)).trans q_ρ14)))); (repeat' split) <;> omega) (by have hq := ((a_ρ25 _ _ _ (by omega)).trans ((a_ρ21 _ _ _ (by omega)).trans ((a_ρ18 _ _ _ (by omega)).trans q_ρ17))); (repeat' split) <;> omega) (by have hq := ((a_ρ25 _ _ _ (by omega)).trans ((a_ρ21 _ _ _ (by omega)).trans q_ρ18)); (repeat' split) <;> omega) (by have hq := q_ρ25; (repeat' split) <;> omega) (by have hq := ((a_ρ25 _ _ _ (by omega)).trans q_ρ21); (repeat' split) <;> omega)
      · refine r_iconst hC dX1_addStep_47 rfl ?_
        refine r_goto (tgt := 52) hC dX1_addStep_48 rfl ?_
        refine r_istore hC dX1_addStep_52 rfl ?_
        refine r_aload_n hC dX1_addStep_54 rfl ?_
        refine z_getR hM dX1_addStep_55 fl_RX1_24 rfl rfl (vld_of (n := 1) rfl (by omega) (by omega)) ?_
        refine r_iconst hC dX1_addStep_58 rfl ?_
        refine r_dup2 hC dX1_addStep_59 rfl rfl ?_
        refine z_iald hM dX1_addStep_60 rfl (by omega) (by omega) (fun v26 h_v26 o_v26 t_v26 => ?_)
        have e_v26 : n0 = v26 := ((t_v26 ((by simp [Tk, Tb, DL, DF, DX]))).trans qg0).symm
        subst e_v26
        refine r_iload_n hC dX1_addStep_61 rfl ?_
        refine r_if_eq (tgt := 69) hC dX1_addStep_62 rfl (fun h27 => ?_) (fun h27 => by omega)
        refine r_iconst hC dX1_addStep_69 rfl ?_
        refine r_iaddE hC (n0) dX1_addStep_70 (by omega) (by unfold inR; omega) ?_
        refine z_iastG hM dX1_addStep_71 rfl (by omega) (by omega) (by simp [Tl, DL, DF]) (by first | trivial | (simp only [Okv]; omega) | (simp [Okv]; try omega)) (fun ρ28 a_ρ28 q_ρ28 => ?_)
        refine r_aload_n hC dX1_addStep_72 rfl ?_
        refine z_getR hM dX1_addStep_73 fl_RX1_24 rfl rfl (vld_of (n := 1) rfl (by omega) (by omega)) ?_
        refine r_iconst hC dX1_addStep_76 rfl ?_
        refine r_dup2 hC dX1_addStep_77 rfl rfl ?_
        refine z_iald hM dX1_addStep_78 rfl (by omega) (by omega) (fun v29 h_v29 o_v29 t_v29 => ?_)
        have e_v29 : n1 = v29 := ((t_v29 ((by simp [Tk, Tb, DL, DF, DX]))).trans ((a_ρ28 _ _ _ (by omega)).trans qg1)).symm
        subst e_v29
        refine r_iload hC dX1_addStep_79 rfl ?_
        refine r_if_eq (tgt := 88) hC dX1_addStep_81 rfl (fun h30 => by omega) (fun h30 => ?_)
        refine r_iconst hC dX1_addStep_84 rfl ?_
        refine r_goto (tgt := 89) hC dX1_addStep_85 rfl ?_
        refine r_iaddE hC ((n1 + 1)) dX1_addStep_89 (by omega) (by unfold inR; omega) ?_
        refine z_iastG hM dX1_addStep_90 rfl (by omega) (by omega) (by simp [Tl, DL, DF]) (by first | trivial | (simp only [Okv]; omega) | (simp [Okv]; try omega)) (fun ρ31 a_ρ31 q_ρ31 => ?_)
        refine r_aload_n hC dX1_addStep_91 rfl ?_
        refine z_getR hM dX1_addStep_92 fl_RX1_24 rfl rfl (vld_of (n := 1) rfl (by omega) (by omega)) ?_
        refine r_iconst hC dX1_addStep_95 rfl ?_
        refine r_iload_n hC dX1_addStep_96 rfl ?_
        refine r_if_eq (tgt := 104) hC dX1_addStep_97 rfl (fun h32 => ?_) (fun h32 => by omega)
        refine r_aload_n hC dX1_addStep_104 rfl ?_
        refine z_getR hM dX1_addStep_105 fl_RX1_24 rfl rfl (vld_of (n := 1) rfl (by omega) (by omega)) ?_
        refine r_iconst hC dX1_addStep_108 rfl ?_
        refine z_iald hM dX1_addStep_109 rfl (by omega) (by omega) (fun v33 h_v33 o_v33 t_v33 => ?_)
        have e_v33 : n2 = v33 := ((t_v33 ((by simp [Tk, Tb, DL, DF, DX]))).trans ((a_ρ31 _ _ _ (by omega)).trans ((a_ρ28 _ _ _ (by omega)).trans qg2))).symm
        subst e_v33
        refine z_iastG hM dX1_addStep_110 rfl (by omega) (by omega) (by simp [Tl, DL, DF]) (by first | trivial | (simp only [Okv]; omega) | (simp [Okv]; try omega)) (fun ρ34 a_ρ34 q_ρ34 => ?_)
        refine r_aload_n hC dX1_addStep_111 rfl ?_
        refine z_getR hM dX1_addStep_112 fl_RX1_24 rfl rfl (vld_of (n := 1) rfl (by omega) (by omega)) ?_
        refine r_iconst hC dX1_addStep_115 rfl ?_
        refine r_iload_n hC dX1_addStep_116 rfl ?_
        refine z_iastG hM dX1_addStep_117 rfl (by omega) (by omega) (by simp [Tl, DL, DF]) (by first | trivial | (simp only [Okv]; omega) | (simp [Okv]; try omega)) (fun ρ35 a_ρ35 q_ρ35 => ?_)
        refine r_aload_n hC dX1_addStep_118 rfl ?_
        refine r_iload_n hC dX1_addStep_119 rfl ?_
        refine r_if_eq (tgt := 127) hC dX1_addStep_120 rfl (fun h36 => ?_) (fun h36 => by omega)
        refine r_aload_n hC dX1_addStep_127 rfl ?_
        refine z_getI (jz := 7) hM dX1_addStep_128 fl_RX1_37 rfl rfl rfl (fun v37 h_v37 o_v37 t_v37 => ?_)
        have e_v37 : r = v37 := ((t_v37 ((by simp [Tk, Tb, DL, DF, DX]))).trans ((a_ρ35 _ _ _ (by omega)).trans ((a_ρ34 _ _ _ (by omega)).trans ((a_ρ31 _ _ _ (by omega)).trans ((a_ρ28 _ _ _ (by omega)).trans qg6))))).symm
        subst e_v37
        refine r_iconst hC dX1_addStep_131 rfl ?_
        refine r_iaddE hC ((r + 1)) dX1_addStep_132 (by omega) (by unfold inR; omega) ?_
        refine z_putIG (jz := 7) hM dX1_addStep_133 fw_RX1_37 rfl rfl rfl (by simp [Tl, DL, DF]) (by first | trivial | (simp only [Okv]; omega) | (simp [Okv]; try omega)) (fun ρ38 a_ρ38 q_ρ38 => ?_)
        refine r_aload_n hC dX1_addStep_136 rfl ?_
        refine z_getR hM dX1_addStep_137 fl_RX1_24 rfl rfl (vld_of (n := 1) rfl (by omega) (by omega)) ?_
        refine r_iconst hC dX1_addStep_140 rfl ?_
        refine r_aload_n hC dX1_addStep_141 rfl ?_
        refine z_getR hM dX1_addStep_142 fl_RX1_24 rfl rfl (vld_of (n := 1) rfl (by omega) (by omega)) ?_
        refine r_iconst hC dX1_addStep_145 rfl ?_
        refine z_iald hM dX1_addStep_146 rfl (by omega) (by omega) (fun v39 h_v39 o_v39 t_v39 => ?_)
        have e_v39 : n4 = v39 := ((t_v39 ((by simp [Tk, Tb, DL, DF, DX]))).trans ((a_ρ38 _ _ _ (by omega)).trans ((a_ρ35 _ _ _ (by omega)).trans ((a_ρ34 _ _ _ (by omega)).trans ((a_ρ31 _ _ _ (by omega)).trans ((a_ρ28 _ _ _ (by omega)).trans qg4)))))).symm
        subst e_v39
        refine r_aload_n hC dX1_addStep_147 rfl ?_
        refine z_getI (jz := 7) hM dX1_addStep_148 fl_RX1_37 rfl rfl rfl (fun v40 h_v40 o_v40 t_v40 => ?_)
        have e_v40 : (r + 1) = v40 := ((t_v40 ((by simp [Tk, Tb, DL, DF, DX]))).trans q_ρ38).symm
        subst e_v40
        refine z_ins2 hM dX1_addStep_151 tl_RX1_97 rfl (Nat.le_of_ble_eq_true rfl) (Nat.le_of_ble_eq_true rfl) ?_
        refine x_max (fun v41 h_v41 => ?_)
        refine z_iastG hM dX1_addStep_154 rfl (by omega) (by omega) (by simp [Tl, DL, DF]) (by first | trivial | (simp only [Okv]; omega) | (simp [Okv]; try omega)) (fun ρ42 a_ρ42 q_ρ42 => ?_)
        refine y_vret hK rfl dX1_addStep_155 ?_
        exact k _ (((((((Gx.rf).al a_ρ28 (by first | (simp; done) | omega | (simp; omega))).al a_ρ31 (by first | (simp; done) | omega | (simp; omega))).al a_ρ34 (by first | (simp; done) | omega | (simp; omega))).al a_ρ35 (by first | (simp; done) | omega | (simp; omega))).al a_ρ38 (by first | (simp; done) | omega | (simp; omega))).al a_ρ42 (by first | (simp; done) | omega | (simp; omega))) (by have hq := ((a_ρ42 _ _ _ (by omega)).trans ((a_ρ38 _ _ _ (by omega)).trans ((a_ρ35 _ _ _ (by omega)).trans ((a_ρ34 _ _ _ (by omega)).trans ((a_ρ31 _ _ _ (by omega)).trans q_ρ28))))); (repeat' split) <;> omega) (by have hq := ((a_ρ42 _ _ _ (by omega)).trans ((a_ρ38 _ _ _ (by omega)).trans ((a_ρ35 _ _ _ (by omega)).trans ((a_ρ34 _ _ _ (by omega)).trans q_ρ31)))); (repeat' split) <;> omega) (by have hq := ((a_ρ42 _ _ _ (by omega)).trans ((a_ρ38 _ _ _ (by omega)).trans ((a_ρ35 _ _ _ (by omega)).trans q_ρ34))); (repeat' split) <;> omega) (by have hq := ((a_ρ42 _ _ _ (by omega)).trans ((a_ρ38 _ _ _ (by omega)).trans q_ρ35)); (repeat' split) <;> omega) (by have hq := q_ρ42; (repeat' split) <;> omega) (by have hq := ((a_ρ42 _ _ _ (by omega)).trans q_ρ38); (repeat' split) <;> omega)
    · refine r_iconst hC dX1_addStep_27 rfl ?_
      refine r_goto (tgt := 32) hC dX1_addStep_28 rfl ?_
      refine r_istore_n hC dX1_addStep_32 rfl ?_
      refine r_iload_n hC dX1_addStep_33 rfl ?_
      refine r_if_ne (tgt := 51) hC dX1_addStep_34 rfl (fun h43 => by omega) (fun h43 => ?_)
      refine r_iload_n hC dX1_addStep_37 rfl ?_
      refine r_aload_n hC dX1_addStep_38 rfl ?_
      refine z_getR hM dX1_addStep_39 fl_RX1_24 rfl rfl (vld_of (n := 1) rfl (by omega) (by omega)) ?_
      refine r_iconst hC dX1_addStep_42 rfl ?_
      refine z_iald hM dX1_addStep_43 rfl (by omega) (by omega) (fun v44 h_v44 o_v44 t_v44 => ?_)
      have e_v44 : n3 = v44 := ((t_v44 ((by simp [Tk, Tb, DL, DF, DX]))).trans qg3).symm
      subst e_v44
      refine r_icmp_le (tgt := 51) hC dX1_addStep_44 rfl (fun h45 => ?_) (fun h45 => ?_)
      · refine r_iconst hC dX1_addStep_51 rfl ?_
        refine r_istore hC dX1_addStep_52 rfl ?_
        refine r_aload_n hC dX1_addStep_54 rfl ?_
        refine z_getR hM dX1_addStep_55 fl_RX1_24 rfl rfl (vld_of (n := 1) rfl (by omega) (by omega)) ?_
        refine r_iconst hC dX1_addStep_58 rfl ?_
        refine r_dup2 hC dX1_addStep_59 rfl rfl ?_
        refine z_iald hM dX1_addStep_60 rfl (by omega) (by omega) (fun v46 h_v46 o_v46 t_v46 => ?_)
        have e_v46 : n0 = v46 := ((t_v46 ((by simp [Tk, Tb, DL, DF, DX]))).trans qg0).symm
        subst e_v46
        refine r_iload_n hC dX1_addStep_61 rfl ?_
        refine r_if_eq (tgt := 69) hC dX1_addStep_62 rfl (fun h47 => by omega) (fun h47 => ?_)
        refine r_iconst hC dX1_addStep_65 rfl ?_
        refine r_goto (tgt := 70) hC dX1_addStep_66 rfl ?_
        refine r_iaddE hC ((n0 + 1)) dX1_addStep_70 (by omega) (by unfold inR; omega) ?_
        refine z_iastG hM dX1_addStep_71 rfl (by omega) (by omega) (by simp [Tl, DL, DF]) (by first | trivial | (simp only [Okv]; omega) | (simp [Okv]; try omega)) (fun ρ48 a_ρ48 q_ρ48 => ?_)
        refine r_aload_n hC dX1_addStep_72 rfl ?_
        refine z_getR hM dX1_addStep_73 fl_RX1_24 rfl rfl (vld_of (n := 1) rfl (by omega) (by omega)) ?_
        refine r_iconst hC dX1_addStep_76 rfl ?_
        refine r_dup2 hC dX1_addStep_77 rfl rfl ?_
        refine z_iald hM dX1_addStep_78 rfl (by omega) (by omega) (fun v49 h_v49 o_v49 t_v49 => ?_)
        have e_v49 : n1 = v49 := ((t_v49 ((by simp [Tk, Tb, DL, DF, DX]))).trans ((a_ρ48 _ _ _ (by omega)).trans qg1)).symm
        subst e_v49
        refine r_iload hC dX1_addStep_79 rfl ?_
        refine r_if_eq (tgt := 88) hC dX1_addStep_81 rfl (fun h50 => ?_) (fun h50 => by omega)
        refine r_iconst hC dX1_addStep_88 rfl ?_
        refine r_iaddE hC (n1) dX1_addStep_89 (by omega) (by unfold inR; omega) ?_
        refine z_iastG hM dX1_addStep_90 rfl (by omega) (by omega) (by simp [Tl, DL, DF]) (by first | trivial | (simp only [Okv]; omega) | (simp [Okv]; try omega)) (fun ρ51 a_ρ51 q_ρ51 => ?_)
        refine r_aload_n hC dX1_addStep_91 rfl ?_
        refine z_getR hM dX1_addStep_92 fl_RX1_24 rfl rfl (vld_of (n := 1) rfl (by omega) (by omega)) ?_
        refine r_iconst hC dX1_addStep_95 rfl ?_
        refine r_iload_n hC dX1_addStep_96 rfl ?_
        refine r_if_eq (tgt := 104) hC dX1_addStep_97 rfl (fun h52 => ?_) (fun h52 => by omega)
        refine r_aload_n hC dX1_addStep_104 rfl ?_
        refine z_getR hM dX1_addStep_105 fl_RX1_24 rfl rfl (vld_of (n := 1) rfl (by omega) (by omega)) ?_
        refine r_iconst hC dX1_addStep_108 rfl ?_
        refine z_iald hM dX1_addStep_109 rfl (by omega) (by omega) (fun v53 h_v53 o_v53 t_v53 => ?_)
        have e_v53 : n2 = v53 := ((t_v53 ((by simp [Tk, Tb, DL, DF, DX]))).trans ((a_ρ51 _ _ _ (by omega)).trans ((a_ρ48 _ _ _ (by omega)).trans qg2))).symm
        subst e_v53
        refine z_iastG hM dX1_addStep_110 rfl (by omega) (by omega) (by simp [Tl, DL, DF]) (by first | trivial | (simp only [Okv]; omega) | (simp [Okv]; try omega)) (fun ρ54 a_ρ54 q_ρ54 => ?_)
        refine r_aload_n hC dX1_addStep_111 rfl ?_
        refine z_getR hM dX1_addStep_112 fl_RX1_24 rfl rfl (vld_of (n := 1) rfl (by omega) (by omega)) ?_
        refine r_iconst hC dX1_addStep_115 rfl ?_
        refine r_iload_n hC dX1_addStep_116 rfl ?_
        refine z_iastG hM dX1_addStep_117 rfl (by omega) (by omega) (by simp [Tl, DL, DF]) (by first | trivial | (simp only [Okv]; omega) | (simp [Okv]; try omega)) (fun ρ55 a_ρ55 q_ρ55 => ?_)
        refine r_aload_n hC dX1_addStep_118 rfl ?_
        refine r_iload_n hC dX1_addStep_119 rfl ?_
        refine r_if_eq (tgt := 127) hC dX1_addStep_120 rfl (fun h56 => by omega) (fun h56 => ?_)
        refine r_iconst hC dX1_addStep_123 rfl ?_
        refine r_goto (tgt := 133) hC dX1_addStep_124 rfl ?_
        refine z_putIG (jz := 7) hM dX1_addStep_133 fw_RX1_37 rfl rfl rfl (by simp [Tl, DL, DF]) (by first | trivial | (simp only [Okv]; omega) | (simp [Okv]; try omega)) (fun ρ57 a_ρ57 q_ρ57 => ?_)
        refine r_aload_n hC dX1_addStep_136 rfl ?_
        refine z_getR hM dX1_addStep_137 fl_RX1_24 rfl rfl (vld_of (n := 1) rfl (by omega) (by omega)) ?_
        refine r_iconst hC dX1_addStep_140 rfl ?_
        refine r_aload_n hC dX1_addStep_141 rfl ?_
        refine z_getR hM dX1_addStep_142 fl_RX1_24 rfl rfl (vld_of (n := 1) rfl (by omega) (by omega)) ?_
        refine r_iconst hC dX1_addStep_145 rfl ?_
        refine z_iald hM dX1_addStep_146 rfl (by omega) (by omega) (fun v58 h_v58 o_v58 t_v58 => ?_)
        have e_v58 : n4 = v58 := ((t_v58 ((by simp [Tk, Tb, DL, DF, DX]))).trans ((a_ρ57 _ _ _ (by omega)).trans ((a_ρ55 _ _ _ (by omega)).trans ((a_ρ54 _ _ _ (by omega)).trans ((a_ρ51 _ _ _ (by omega)).trans ((a_ρ48 _ _ _ (by omega)).trans qg4)))))).symm
        subst e_v58
        refine r_aload_n hC dX1_addStep_147 rfl ?_
        refine z_getI (jz := 7) hM dX1_addStep_148 fl_RX1_37 rfl rfl rfl (fun v59 h_v59 o_v59 t_v59 => ?_)
        have e_v59 : 1 = v59 := ((t_v59 ((by simp [Tk, Tb, DL, DF, DX]))).trans q_ρ57).symm
        subst e_v59
        refine z_ins2 hM dX1_addStep_151 tl_RX1_97 rfl (Nat.le_of_ble_eq_true rfl) (Nat.le_of_ble_eq_true rfl) ?_
        refine x_max (fun v60 h_v60 => ?_)
        refine z_iastG hM dX1_addStep_154 rfl (by omega) (by omega) (by simp [Tl, DL, DF]) (by first | trivial | (simp only [Okv]; omega) | (simp [Okv]; try omega)) (fun ρ61 a_ρ61 q_ρ61 => ?_)
        refine y_vret hK rfl dX1_addStep_155 ?_
        exact k _ (((((((Gx.rf).al a_ρ48 (by first | (simp; done) | omega | (simp; omega))).al a_ρ51 (by first | (simp; done) | omega | (simp; omega))).al a_ρ54 (by first | (simp; done) | omega | (simp; omega))).al a_ρ55 (by first | (simp; done) | omega | (simp; omega))).al a_ρ57 (by first | (simp; done) | omega | (simp; omega))).al a_ρ61 (by first | (simp; done) | omega | (simp; omega))) (by have hq := ((a_ρ61 _ _ _ (by omega)).trans ((a_ρ57 _ _ _ (by omega)).trans ((a_ρ55 _ _ _ (by omega)).trans ((a_ρ54 _ _ _ (by omega)).trans ((a_ρ51 _ _ _ (by omega)).trans q_ρ48))))); (repeat' split) <;> omega) (by have hq := ((a_ρ61 _ _ _ (by omega)).trans ((a_ρ57 _ _ _ (by omega)).trans ((a_ρ55 _ _ _ (by omega)).trans ((a_ρ54 _ _ _ (by omega)).trans q_ρ51)))); (repeat' split) <;> omega) (by have hq := ((a_ρ61 _ _ _ (by omega)).trans ((a_ρ57 _ _ _ (by omega)).trans ((a_ρ55 _ _ _ (by omega)).trans q_ρ54))); (repeat' split) <;> omega) (by have hq := ((a_ρ61 _ _ _ (by omega)).trans ((a_ρ57 _ _ _ (by omega)).trans q_ρ55)); (repeat' split) <;> omega) (by have hq := q_ρ61; (repeat' split) <;> omega) (by have hq := ((a_ρ61 _ _ _ (by omega)).trans q_ρ57); (repeat' split) <;> omega)
      · refine r_iconst hC dX1_addStep_47 rfl ?_
        refine r_goto (tgt := 52) hC dX1_addStep_48 rfl ?_
        refine r_istore hC dX1_addStep_52 rfl ?_
        refine r_aload_n hC dX1_addStep_54 rfl ?_
        refine z_getR hM dX1_addStep_55 fl_RX1_24 rfl rfl (vld_of (n := 1) rfl (by omega) (by omega)) ?_
        refine r_iconst hC dX1_addStep_58 rfl ?_
        refine r_dup2 hC dX1_addStep_59 rfl rfl ?_
        refine z_iald hM dX1_addStep_60 rfl (by omega) (by omega) (fun v62 h_v62 o_v62 t_v62 => ?_)
        have e_v62 : n0 = v62 := ((t_v62 ((by simp [Tk, Tb, DL, DF, DX]))).trans qg0).symm
        subst e_v62
        refine r_iload_n hC dX1_addStep_61 rfl ?_
        refine r_if_eq (tgt := 69) hC dX1_addStep_62 rfl (fun h63 => by omega) (fun h63 => ?_)
        refine r_iconst hC dX1_addStep_65 rfl ?_
        refine r_goto (tgt := 70) hC dX1_addStep_66 rfl ?_
        refine r_iaddE hC ((n0 + 1)) dX1_addStep_70 (by omega) (by unfold inR; omega) ?_
        refine z_iastG hM dX1_addStep_71 rfl (by omega) (by omega) (by simp [Tl, DL, DF]) (by first | trivial | (simp only [Okv]; omega) | (simp [Okv]; try omega)) (fun ρ64 a_ρ64 q_ρ64 => ?_)
        refine r_aload_n hC dX1_addStep_72 rfl ?_
        refine z_getR hM dX1_addStep_73 fl_RX1_24 rfl rfl (vld_of (n := 1) rfl (by omega) (by omega)) ?_
        refine r_iconst hC dX1_addStep_76 rfl ?_
        refine r_dup2 hC dX1_addStep_77 rfl rfl ?_
        refine z_iald hM dX1_addStep_78 rfl (by omega) (by omega) (fun v65 h_v65 o_v65 t_v65 => ?_)
        have e_v65 : n1 = v65 := ((t_v65 ((by simp [Tk, Tb, DL, DF, DX]))).trans ((a_ρ64 _ _ _ (by omega)).trans qg1)).symm
        subst e_v65
        refine r_iload hC dX1_addStep_79 rfl ?_
        refine r_if_eq (tgt := 88) hC dX1_addStep_81 rfl (fun h66 => by omega) (fun h66 => ?_)
        refine r_iconst hC dX1_addStep_84 rfl ?_
        refine r_goto (tgt := 89) hC dX1_addStep_85 rfl ?_
        refine r_iaddE hC ((n1 + 1)) dX1_addStep_89 (by omega) (by unfold inR; omega) ?_
        refine z_iastG hM dX1_addStep_90 rfl (by omega) (by omega) (by simp [Tl, DL, DF]) (by first | trivial | (simp only [Okv]; omega) | (simp [Okv]; try omega)) (fun ρ67 a_ρ67 q_ρ67 => ?_)
        refine r_aload_n hC dX1_addStep_91 rfl ?_
        refine z_getR hM dX1_addStep_92 fl_RX1_24 rfl rfl (vld_of (n := 1) rfl (by omega) (by omega)) ?_
        refine r_iconst hC dX1_addStep_95 rfl ?_
        refine r_iload_n hC dX1_addStep_96 rfl ?_
        refine r_if_eq (tgt := 104) hC dX1_addStep_97 rfl (fun h68 => ?_) (fun h68 => by omega)
        refine r_aload_n hC dX1_addStep_104 rfl ?_
        refine z_getR hM dX1_addStep_105 fl_RX1_24 rfl rfl (vld_of (n := 1) rfl (by omega) (by omega)) ?_
        refine r_iconst hC dX1_addStep_108 rfl ?_
        refine z_iald hM dX1_addStep_109 rfl (by omega) (by omega) (fun v69 h_v69 o_v69 t_v69 => ?_)
        have e_v69 : n2 = v69 := ((t_v69 ((by simp [Tk, Tb, DL, DF, DX]))).trans ((a_ρ67 _ _ _ (by omega)).trans ((a_ρ64 _ _ _ (by omega)).trans qg2))).symm
        subst e_v69
        refine z_iastG hM dX1_addStep_110 rfl (by omega) (by omega) (by simp [Tl, DL, DF]) (by first | trivial | (simp only [Okv]; omega) | (simp [Okv]; try omega)) (fun ρ70 a_ρ70 q_ρ70 => ?_)
        refine r_aload_n hC dX1_addStep_111 rfl ?_
        refine z_getR hM dX1_addStep_112 fl_RX1_24 rfl rfl (vld_of (n := 1) rfl (by omega) (by omega)) ?_
        refine r_iconst hC dX1_addStep_115 rfl ?_
        refine r_iload_n hC dX1_addStep_116 rfl ?_
        refine z_iastG hM dX1_addStep_117 rfl (by omega) (by omega) (by simp [Tl, DL, DF]) (by first | trivial | (simp only [Okv]; omega) | (simp [Okv]; try omega)) (fun ρ71 a_ρ71 q_ρ71 => ?_)
        refine r_aload_n hC dX1_addStep_118 rfl ?_
        refine r_iload_n hC dX1_addStep_119 rfl ?_
        refine r_if_eq (tgt := 127) hC dX1_addStep_120 rfl (fun h72 => by omega) (fun h72 => ?_)
        refine r_iconst hC dX1_addStep_123 rfl ?_
        refine r_goto (tgt := 133) hC dX1_addStep_124 rfl ?_
        refine z_putIG (jz := 7) hM dX1_addStep_133 fw_RX1_37 rfl rfl rfl (by simp [Tl, DL, DF]) (by first | trivial | (simp only [Okv]; omega) | (simp [Okv]; try omega)) (fun ρ73 a_ρ73 q_ρ73 => ?_)
        refine r_aload_n hC dX1_addStep_136 rfl ?_
        refine z_getR hM dX1_addStep_137 fl_RX1_24 rfl rfl (vld_of (n := 1) rfl (by omega) (by omega)) ?_
        refine r_iconst hC dX1_addStep_140 rfl ?_
        refine r_aload_n hC dX1_addStep_141 rfl ?_
        refine z_getR hM dX1_addStep_142 fl_RX1_24 rfl rfl (vld_of (n := 1) rfl (by omega) (by omega)) ?_
        refine r_iconst hC dX1_addStep_145 rfl ?_
        refine z_iald hM dX1_addStep_146 rfl (by omega) (by omega) (fun v74 h_v74 o_v74 t_v74 => ?_)
        have e_v74 : n4 = v74 := ((t_v74 ((by simp [Tk, Tb, DL, DF, DX]))).trans ((a_ρ73 _ _ _ (by omega)).trans ((a_ρ71 _ _ _ (by omega)).trans ((a_ρ70 _ _ _ (by omega)).trans ((a_ρ67 _ _ _ (by omega)).trans ((a_ρ64 _ _ _ (by omega)).trans qg4)))))).symm
        subst e_v74
        refine r_aload_n hC dX1_addStep_147 rfl ?_
        refine z_getI (jz := 7) hM dX1_addStep_148 fl_RX1_37 rfl rfl rfl (fun v75 h_v75 o_v75 t_v75 => ?_)
        have e_v75 : 1 = v75 := ((t_v75 ((by simp [Tk, Tb, DL, DF, DX]))).trans q_ρ73).symm
        subst e_v75
        refine z_ins2 hM dX1_addStep_151 tl_RX1_97 rfl (Nat.le_of_ble_eq_true rfl) (Nat.le_of_ble_eq_true rfl) ?_
        refine x_max (fun v76 h_v76 => ?_)
        refine z_iastG hM dX1_addStep_154 rfl (by omega) (by omega) (by simp [Tl, DL, DF]) (by first | trivial | (simp only [Okv]; omega) | (simp [Okv]; try omega)) (fun ρ77 a_ρ77 q_ρ77 => ?_)
        refine y_vret hK rfl dX1_addStep_155 ?_
        exact k _ (((((((Gx.rf).al a_ρ64 (by first | (simp; done) | omega | (simp; omega))).al a_ρ67 (by first | (simp; done) | omega | (simp; omega))).al a_ρ70 (by first | (simp; done) | omega | (simp; omega))).al a_ρ71 (by first | (simp; done) | omega | (simp; omega))).al a_ρ73 (by first | (simp; done) | omega | (simp; omega))).al a_ρ77 (by first | (simp; done) | omega | (simp; omega))) (by have hq := ((a_ρ77 _ _ _ (by omega)).trans ((a_ρ73 _ _ _ (by omega)).trans ((a_ρ71 _ _ _ (by omega)).trans ((a_ρ70 _ _ _ (by omega)).trans ((a_ρ67 _ _ _ (by omega)).trans q_ρ64))))); (repeat' split) <;> omega) (by have hq := ((a_ρ77 _ _ _ (by omega)).trans ((a_ρ73 _ _ _ (by omega)).trans ((a_ρ71 _ _ _ (by omega)).trans ((a_ρ70 _ _ _ (by omega)).trans q_ρ67)))); (repeat' split) <;> omega) (by have hq := ((a_ρ77 _ _ _ (by omega)).trans ((a_ρ73 _ _ _ (by omega)).trans ((a_ρ71 _ _ _ (by omega)).trans q_ρ70))); (repeat' split) <;> omega) (by have hq := ((a_ρ77 _ _ _ (by omega)).trans ((a_ρ73 _ _ _ (by omega)).trans q_ρ71)); (repeat' split) <;> omega) (by have hq := q_ρ77; (repeat' split) <;> omega) (by have hq := ((a_ρ77 _ _ _ (by omega)).trans q_ρ73); (repeat' split) <;> omega)
  · refine r_iconst hC dX1_addStep_7 rfl ?_
    refine r_goto (tgt := 12) hC dX1_addStep_8 rfl ?_
    refine r_istore_n hC dX1_addStep_12 rfl ?_
    refine r_iload_n hC dX1_addStep_13 rfl ?_
    refine r_if_ne (tgt := 31) hC dX1_addStep_14 rfl (fun h78 => ?_) (fun h78 => by omega)
    refine r_iconst hC dX1_addStep_31 rfl ?_
    refine r_istore_n hC dX1_addStep_32 rfl ?_
    refine r_iload_n hC dX1_addStep_33 rfl ?_
    refine r_if_ne (tgt := 51) hC dX1_addStep_34 rfl (fun h79 => ?_) (fun h79 => by omega)
    refine r_iconst hC dX1_addStep_51 rfl ?_
    refine r_istore hC dX1_addStep_52 rfl ?_
    show K _ [_, _, _, _, _] _ _
    refine r_aload_n hC dX1_addStep_54 rfl ?_
    refine z_getR hM dX1_addStep_55 fl_RX1_24 rfl rfl (vld_of (n := 1) rfl (by omega) (by omega)) ?_
    refine r_iconst hC dX1_addStep_58 rfl ?_
    refine r_dup2 hC dX1_addStep_59 rfl rfl ?_
    refine z_iald hM dX1_addStep_60 rfl (by omega) (by omega) (fun v80 h_v80 o_v80 t_v80 => ?_)
    have e_v80 : n0 = v80 := ((t_v80 ((by simp [Tk, Tb, DL, DF, DX]))).trans qg0).symm
    subst e_v80
    refine r_iload_n hC dX1_addStep_61 rfl ?_
    refine r_if_eq (tgt := 69) hC dX1_addStep_62 rfl (fun h81 => ?_) (fun h81 => by omega)
    refine r_iconst hC dX1_addStep_69 rfl ?_
    refine r_iaddE hC (n0) dX1_addStep_70 (by omega) (by unfold inR; omega) ?_
    refine z_iastG hM dX1_addStep_71 rfl (by omega) (by omega) (by simp [Tl, DL, DF]) (by first | trivial | (simp only [Okv]; omega) | (simp [Okv]; try omega)) (fun ρ82 a_ρ82 q_ρ82 => ?_)
    refine r_aload_n hC dX1_addStep_72 rfl ?_
    refine z_getR hM dX1_addStep_73 fl_RX1_24 rfl rfl (vld_of (n := 1) rfl (by omega) (by omega)) ?_
    refine r_iconst hC dX1_addStep_76 rfl ?_
    refine r_dup2 hC dX1_addStep_77 rfl rfl ?_
    refine z_iald hM dX1_addStep_78 rfl (by omega) (by omega) (fun v83 h_v83 o_v83 t_v83 => ?_)
    have e_v83 : n1 = v83 := ((t_v83 ((by simp [Tk, Tb, DL, DF, DX]))).trans ((a_ρ82 _ _ _ (by omega)).trans qg1)).symm
    subst e_v83
    refine r_iload hC dX1_addStep_79 rfl ?_
    refine r_if_eq (tgt := 88) hC dX1_addStep_81 rfl (fun h84 => ?_) (fun h84 => by omega)
    refine r_iconst hC dX1_addStep_88 rfl ?_
    refine r_iaddE hC (n1) dX1_addStep_89 (by omega) (by unfold inR; omega) ?_
    refine z_iastG hM dX1_addStep_90 rfl (by omega) (by omega) (by simp [Tl, DL, DF]) (by first | trivial | (simp only [Okv]; omega) | (simp [Okv]; try omega)) (fun ρ85 a_ρ85 q_ρ85 => ?_)
    refine r_aload_n hC dX1_addStep_91 rfl ?_
    refine z_getR hM dX1_addStep_92 fl_RX1_24 rfl rfl (vld_of (n := 1) rfl (by omega) (by omega)) ?_
    refine r_iconst hC dX1_addStep_95 rfl ?_
    refine r_iload_n hC dX1_addStep_96 rfl ?_
    refine r_if_eq (tgt := 104) hC dX1_addStep_97 rfl (fun h86 => by omega) (fun h86 => ?_)
    refine r_iload_n hC dX1_addStep_100 rfl ?_
    refine r_goto (tgt := 110) hC dX1_addStep_101 rfl ?_
    refine z_iastG hM dX1_addStep_110 rfl (by omega) (by omega) (by simp [Tl, DL, DF]) (by first | trivial | (simp only [Okv]; omega) | (simp [Okv]; try omega)) (fun ρ87 a_ρ87 q_ρ87 => ?_)
    refine r_aload_n hC dX1_addStep_111 rfl ?_
    refine z_getR hM dX1_addStep_112 fl_RX1_24 rfl rfl (vld_of (n := 1) rfl (by omega) (by omega)) ?_
    refine r_iconst hC dX1_addStep_115 rfl ?_
    refine r_iload_n hC dX1_addStep_116 rfl ?_
    refine z_iastG hM dX1_addStep_117 rfl (by omega) (by omega) (by simp [Tl, DL, DF]) (by first | trivial | (simp only [Okv]; omega) | (simp [Okv]; try omega)) (fun ρ88 a_ρ88 q_ρ88 => ?_)
    refine r_aload_n hC dX1_addStep_118 rfl ?_
    refine r_iload_n hC dX1_addStep_119 rfl ?_
    refine r_if_eq (tgt := 127) hC dX1_addStep_120 rfl (fun h89 => ?_) (fun h89 => by omega)
    refine r_aload_n hC dX1_addStep_127 rfl ?_
    refine z_getI (jz := 7) hM dX1_addStep_128 fl_RX1_37 rfl rfl rfl (fun v90 h_v90 o_v90 t_v90 => ?_)
    have e_v90 : r = v90 := ((t_v90 ((by simp [Tk, Tb, DL, DF, DX]))).trans ((a_ρ88 _ _ _ (by omega)).trans ((a_ρ87 _ _ _ (by omega)).trans ((a_ρ85 _ _ _ (by omega)).trans ((a_ρ82 _ _ _ (by omega)).trans qg6))))).symm
    subst e_v90
    refine r_iconst hC dX1_addStep_131 rfl ?_
    refine r_iaddE hC ((r + 1)) dX1_addStep_132 (by omega) (by unfold inR; omega) ?_
    refine z_putIG (jz := 7) hM dX1_addStep_133 fw_RX1_37 rfl rfl rfl (by simp [Tl, DL, DF]) (by first | trivial | (simp only [Okv]; omega) | (simp [Okv]; try omega)) (fun ρ91 a_ρ91 q_ρ91 => ?_)
    refine r_aload_n hC dX1_addStep_136 rfl ?_
    refine z_getR hM dX1_addStep_137 fl_RX1_24 rfl rfl (vld_of (n := 1) rfl (by omega) (by omega)) ?_
    refine r_iconst hC dX1_addStep_140 rfl ?_
    refine r_aload_n hC dX1_addStep_141 rfl ?_
    refine z_getR hM dX1_addStep_142 fl_RX1_24 rfl rfl (vld_of (n := 1) rfl (by omega) (by omega)) ?_
    refine r_iconst hC dX1_addStep_145 rfl ?_
    refine z_iald hM dX1_addStep_146 rfl (by omega) (by omega) (fun v92 h_v92 o_v92 t_v92 => ?_)
    have e_v92 : n4 = v92 := ((t_v92 ((by simp [Tk, Tb, DL, DF, DX]))).trans ((a_ρ91 _ _ _ (by omega)).trans ((a_ρ88 _ _ _ (by omega)).trans ((a_ρ87 _ _ _ (by omega)).trans ((a_ρ85 _ _ _ (by omega)).trans ((a_ρ82 _ _ _ (by omega)).trans qg4)))))).symm
    subst e_v92
    refine r_aload_n hC dX1_addStep_147 rfl ?_
    refine z_getI (jz := 7) hM dX1_addStep_148 fl_RX1_37 rfl rfl rfl (fun v93 h_v93 o_v93 t_v93 => ?_)
    have e_v93 : (r + 1) = v93 := ((t_v93 ((by simp [Tk, Tb, DL, DF, DX]))).trans q_ρ91).symm
    subst e_v93
    refine z_ins2 hM dX1_addStep_151 tl_RX1_97 rfl (Nat.le_of_ble_eq_true rfl) (Nat.le_of_ble_eq_true rfl) ?_
    refine x_max (fun v94 h_v94 => ?_)
    refine z_iastG hM dX1_addStep_154 rfl (by omega) (by omega) (by simp [Tl, DL, DF]) (by first | trivial | (simp only [Okv]; omega) | (simp [Okv]; try omega)) (fun ρ95 a_ρ95 q_ρ95 => ?_)
    refine y_vret hK rfl dX1_addStep_155 ?_
    exact k _ (((((((Gx.rf).al a_ρ82 (by first | (simp; done) | omega | (simp; omega))).al a_ρ85 (by first | (simp; done) | omega | (simp; omega))).al a_ρ87 (by first | (simp; done) | omega | (simp; omega))).al a_ρ88 (by first | (simp; done) | omega | (simp; omega))).al a_ρ91 (by first | (simp; done) | omega | (simp; omega))).al a_ρ95 (by first | (simp; done) | omega | (simp; omega))) (by have hq := ((a_ρ95 _ _ _ (by omega)).trans ((a_ρ91 _ _ _ (by omega)).trans ((a_ρ88 _ _ _ (by omega)).trans ((a_ρ87 _ _ _ (by omega)).trans ((a_ρ85 _ _ _ (by omega)).trans q_ρ82))))); (repeat' split) <;> omega) (by have hq := ((a_ρ95 _ _ _ (by omega)).trans ((a_ρ91 _ _ _ (by omega)).trans ((a_ρ88 _ _ _ (by omega)).trans ((a_ρ87 _ _ _ (by omega)).trans q_ρ85)))); (repeat' split) <;> omega) (by have hq := ((a_ρ95 _ _ _ (by omega)).trans ((a_ρ91 _ _ _ (by omega)).trans ((a_ρ88 _ _ _ (by omega)).trans q_ρ87))); (repeat' split) <;> omega) (by have hq := ((a_ρ95 _ _ _ (by omega)).trans ((a_ρ91 _ _ _ (by omega)).trans q_ρ88)); (repeat' split) <;> omega) (by have hq := q_ρ95; (repeat' split) <;> omega) (by have hq := ((a_ρ95 _ _ _ (by omega)).trans q_ρ91); (repeat' split) <;> omega)
theorem x_addSpread {eb : Bool} {d : Nat} {P : Option Vl → Mm → Prop} {σ : Mm} {v n0 n1 n2 : Int} (b_v : -1000 ≤ v ∧ v ≤ 1000) (qg0 : σ 17 0 0 = n0) (qg1 : σ 17 0 1 = n1) (b_n2 : 0 ≤ n2 ∧ n2 ≤ 1000) (qg2 : σ 17 0 2 = n2)  (k : ∀ ρ : Mm, Gx (fun c x y => c = 17 ∧ x = 0 ∨ c = 14 ∧ x = 0 ∧ y = 7) σ ρ → ρ 17 0 0 = (if 0 < v ∧ (n0 = -2147483648 ∨ v < n0) then v else n0) → ρ 17 0 1 = (if v < 0 ∧ n1 < v then v else n1) → ρ 17 0 2 = (n2 + (if v = 0 then 1 else 0)) → P none ρ) : WT (true, true, eb) (d + 2) 23 [vR 14 0, vI v] σ P := by
  refine WT_in fun K hK => ?_
  have hK : StpY (true, true, eb) cX1_addSpread RX1 (none) (WT (true, true, eb) (d + 1)) P K := hK
  have hM := hK.1
  have hC := hK.1.1
  show K 0 [some (vR 14 0), some (vI v)] [] σ
  refine r_iload_n hC dX1_addSpread_0 rfl ?_
  refine r_if_le (tgt := 35) hC dX1_addSpread_1 rfl (fun h1 => ?_) (fun h1 => ?_)
  · refine r_iload_n hC dX1_addSpread_35 rfl ?_
    refine r_if_ge (tgt := 58) hC dX1_addSpread_36 rfl (fun h2 => ?_) (fun h2 => ?_)
    · refine r_iload_n hC dX1_addSpread_58 rfl ?_
      refine r_if_ne (tgt := 72) hC dX1_addSpread_59 rfl (fun h3 => by omega) (fun h3 => ?_)
      refine r_aload_n hC dX1_addSpread_62 rfl ?_
      refine z_getR hM dX1_addSpread_63 fl_RX1_24 rfl rfl (vld_of (n := 1) rfl (by omega) (by omega)) ?_
      refine r_iconst hC dX1_addSpread_66 rfl ?_
      refine r_dup2 hC dX1_addSpread_67 rfl rfl ?_
      refine z_iald hM dX1_addSpread_68 rfl (by omega) (by omega) (fun v4 h_v4 o_v4 t_v4 => ?_)
      have e_v4 : n2 = v4 := ((t_v4 ((by simp [Tk, Tb, DL, DF, DX]))).trans qg2).symm
      subst e_v4
      refine r_iconst hC dX1_addSpread_69 rfl ?_
      refine r_iaddE hC ((n2 + 1)) dX1_addSpread_70 (by omega) (by unfold inR; omega) ?_
      refine z_iastG hM dX1_addSpread_71 rfl (by omega) (by omega) (by simp [Tl, DL, DF]) (by first | trivial | (simp only [Okv]; omega) | (simp [Okv]; try omega)) (fun ρ5 a_ρ5 q_ρ5 => ?_)
      refine y_vret hK rfl dX1_addSpread_72 ?_
      exact k _ ((Gx.rf).al a_ρ5 (by first | (simp; done) | omega | (simp; omega))) (by have hq := ((a_ρ5 _ _ _ (by omega)).trans qg0); (repeat' split) <;> omega) (by have hq := ((a_ρ5 _ _ _ (by omega)).trans qg1); (repeat' split) <;> omega) (by have hq := q_ρ5; (repeat' split) <;> omega)
    · refine r_aload_n hC dX1_addSpread_39 rfl ?_
      refine z_getR hM dX1_addSpread_40 fl_RX1_24 rfl rfl (vld_of (n := 1) rfl (by omega) (by omega)) ?_
      refine r_iconst hC dX1_addSpread_43 rfl ?_
      refine r_aload_n hC dX1_addSpread_44 rfl ?_
      refine z_getR hM dX1_addSpread_45 fl_RX1_24 rfl rfl (vld_of (n := 1) rfl (by omega) (by omega)) ?_
      refine r_iconst hC dX1_addSpread_48 rfl ?_
      refine z_iald hM dX1_addSpread_49 rfl (by omega) (by omega) (fun v6 h_v6 o_v6 t_v6 => ?_)
      have e_v6 : n1 = v6 := ((t_v6 ((by simp [Tk, Tb, DL, DF, DX]))).trans qg1).symm
      subst e_v6
      refine r_iload_n hC dX1_addSpread_50 rfl ?_
      refine z_ins2 hM dX1_addSpread_51 tl_RX1_97 rfl (Nat.le_of_ble_eq_true rfl) (Nat.le_of_ble_eq_true rfl) ?_
      refine x_max (fun v7 h_v7 => ?_)
      refine z_iastG hM dX1_addSpread_54 rfl (by omega) (by omega) (by simp [Tl, DL, DF]) (by first | trivial | (simp only [Okv]; omega) | (simp [Okv]; try omega)) (fun ρ8 a_ρ8 q_ρ8 => ?_)
      refine r_goto (tgt := 72) hC dX1_addSpread_55 rfl ?_
      refine y_vret hK rfl dX1_addSpread_72 ?_
      exact k _ ((Gx.rf).al a_ρ8 (by first | (simp; done) | omega | (simp; omega))) (by have hq := ((a_ρ8 _ _ _ (by omega)).trans qg0); (repeat' split) <;> omega) (by have hq := q_ρ8; (repeat' split) <;> omega) (by have hq := ((a_ρ8 _ _ _ (by omega)).trans qg2); (repeat' split) <;> omega)
  · refine r_aload_n hC dX1_addSpread_4 rfl ?_
    refine z_getR hM dX1_addSpread_5 fl_RX1_24 rfl rfl (vld_of (n := 1) rfl (by omega) (by omega)) ?_
    refine r_iconst hC dX1_addSpread_8 rfl ?_
    refine z_iald hM dX1_addSpread_9 rfl (by omega) (by omega) (fun v9 h_v9 o_v9 t_v9 => ?_)
    have e_v9 : n0 = v9 := ((t_v9 ((by simp [Tk, Tb, DL, DF, DX]))).trans qg0).symm
    subst e_v9
    refine r_ldc hC dX1_addSpread_10 co_RX1_40 rfl ?_
    refine r_icmp_eq (tgt := 25) hC dX1_addSpread_12 rfl (fun h10 => ?_) (fun h10 => ?_)
    · refine r_aload_n hC dX1_addSpread_25 rfl ?_
      refine z_getR hM dX1_addSpread_26 fl_RX1_24 rfl rfl (vld_of (n := 1) rfl (by omega) (by omega)) ?_
      refine r_iconst hC dX1_addSpread_29 rfl ?_
      refine r_iload_n hC dX1_addSpread_30 rfl ?_
      refine z_iastG hM dX1_addSpread_31 rfl (by omega) (by omega) (by simp [Tl, DL, DF]) (by first | trivial | (simp only [Okv]; omega) | (simp [Okv]; try omega)) (fun ρ11 a_ρ11 q_ρ11 => ?_)
      refine r_goto (tgt := 72) hC dX1_addSpread_32 rfl ?_
      refine y_vret hK rfl dX1_addSpread_72 ?_
      exact k _ ((Gx.rf).al a_ρ11 (by first | (simp; done) | omega | (simp; omega))) (by have hq := q_ρ11; (repeat' split) <;> omega) (by have hq := ((a_ρ11 _ _ _ (by omega)).trans qg1); (repeat' split) <;> omega) (by have hq := ((a_ρ11 _ _ _ (by omega)).trans qg2); (repeat' split) <;> omega)
    · refine r_iload_n hC dX1_addSpread_15 rfl ?_
      refine r_aload_n hC dX1_addSpread_16 rfl ?_
      refine z_getR hM dX1_addSpread_17 fl_RX1_24 rfl rfl (vld_of (n := 1) rfl (by omega) (by omega)) ?_
      refine r_iconst hC dX1_addSpread_20 rfl ?_
      refine z_iald hM dX1_addSpread_21 rfl (by omega) (by omega) (fun v12 h_v12 o_v12 t_v12 => ?_)
      have e_v12 : n0 = v12 := ((t_v12 ((by simp [Tk, Tb, DL, DF, DX]))).trans qg0).symm
      subst e_v12
      refine r_icmp_ge (tgt := 35) hC dX1_addSpread_22 rfl (fun h13 => ?_) (fun h13 => ?_)
      · refine r_iload_n hC dX1_addSpread_35 rfl ?_
        refine r_if_ge (tgt := 58) hC dX1_addSpread_36 rfl (fun h14 => ?_) (fun h14 => by omega)
        refine r_iload_n hC dX1_addSpread_58 rfl ?_
        refine r_if_ne (tgt := 72) hC dX1_addSpread_59 rfl (fun h15 => ?_) (fun h15 => by omega)
        refine y_vret hK rfl dX1_addSpread_72 ?_
        exact k _ (Gx.rf) (by have hq := qg0; (repeat' split) <;> omega) (by have hq := qg1; (repeat' split) <;> omega) (by have hq := qg2; (repeat' split) <;> omega)
      · refine r_aload_n hC dX1_addSpread_25 rfl ?_
        refine z_getR hM dX1_addSpread_26 fl_RX1_24 rfl rfl (vld_of (n := 1) rfl (by omega) (by omega)) ?_
        refine r_iconst hC dX1_addSpread_29 rfl ?_
        refine r_iload_n hC dX1_addSpread_30 rfl ?_
        refine z_iastG hM dX1_addSpread_31 rfl (by omega) (by omega) (by simp [Tl, DL, DF]) (by first | trivial | (simp only [Okv]; omega) | (simp [Okv]; try omega)) (fun ρ16 a_ρ16 q_ρ16 => ?_)
        refine r_goto (tgt := 72) hC dX1_addSpread_32 rfl ?_
        refine y_vret hK rfl dX1_addSpread_72 ?_
        exact k _ ((Gx.rf).al a_ρ16 (by first | (simp; done) | omega | (simp; omega))) (by have hq := q_ρ16; (repeat' split) <;> omega) (by have hq := ((a_ρ16 _ _ _ (by omega)).trans qg1); (repeat' split) <;> omega) (by have hq := ((a_ρ16 _ _ _ (by omega)).trans qg2); (repeat' split) <;> omega)
theorem x_addElement {eb : Bool} {d : Nat} {P : Option Vl → Mm → Prop} {σ : Mm} {v n0 n : Int} (b_v : -1000 ≤ v ∧ v ≤ 1000) (b_n0 : 0 ≤ n0 ∧ n0 ≤ 3) (qg0 : σ 17 0 0 = n0) (b_n : 0 ≤ n ∧ n ≤ 1000) (qg1 : σ 14 0 6 = n)  (k : ∀ ρ : Mm, Gx (fun c x y => c = 17 ∧ x = 0 ∨ c = 14 ∧ x = 0 ∧ y = 7) σ ρ → ρ 17 0 0 = (if n = 0 then v % 4 else σ 15 0 (4 * n0 + v % 4)) → P none ρ) : WT (true, true, eb) (d + 2) 24 [vR 14 0, vI v] σ P := by
  refine WT_in fun K hK => ?_
  have hK : StpY (true, true, eb) cX1_addElement RX1 (none) (WT (true, true, eb) (d + 1)) P K := hK
  have hM := hK.1
  have hC := hK.1.1
  show K 0 [some (vR 14 0), some (vI v), none] [] σ
  refine r_iload_n hC dX1_addElement_0 rfl ?_
  refine r_iconst hC dX1_addElement_1 rfl ?_
  refine z_ins2 hM dX1_addElement_2 tl_RX1_93 rfl (Nat.le_of_ble_eq_true rfl) (Nat.le_of_ble_eq_true rfl) ?_
  refine x_floorMod (by omega) (fun h1 => ?_)
  refine r_istore_n hC dX1_addElement_5 rfl ?_
  refine r_aload_n hC dX1_addElement_6 rfl ?_
  refine z_getR hM dX1_addElement_7 fl_RX1_24 rfl rfl (vld_of (n := 1) rfl (by omega) (by omega)) ?_
  refine r_iconst hC dX1_addElement_10 rfl ?_
  refine r_aload_n hC dX1_addElement_11 rfl ?_
  refine z_getI (jz := 6) hM dX1_addElement_12 fl_RX1_34 rfl rfl rfl (fun v2 h_v2 o_v2 t_v2 => ?_)
  have e_v2 : n = v2 := ((t_v2 ((by simp [Tk, Tb, DL, DF, DX]))).trans qg1).symm
  subst e_v2
  refine r_if_ne (tgt := 22) hC dX1_addElement_15 rfl (fun h3 => ?_) (fun h3 => ?_)
  · refine r_aload_n hC dX1_addElement_22 rfl ?_
    refine z_getR hM dX1_addElement_23 fl_RX1_9 rfl rfl (vld_of (n := 1) rfl (by omega) (by omega)) ?_
    refine r_iconst hC dX1_addElement_26 rfl ?_
    refine r_aload_n hC dX1_addElement_27 rfl ?_
    refine z_getR hM dX1_addElement_28 fl_RX1_24 rfl rfl (vld_of (n := 1) rfl (by omega) (by omega)) ?_
    refine r_iconst hC dX1_addElement_31 rfl ?_
    refine z_iald hM dX1_addElement_32 rfl (by omega) (by omega) (fun v4 h_v4 o_v4 t_v4 => ?_)
    have e_v4 : n0 = v4 := ((t_v4 ((by simp [Tk, Tb, DL, DF, DX]))).trans qg0).symm
    subst e_v4
    refine r_imulE hC ((4 * n0)) dX1_addElement_33 (by omega) (by unfold inR; omega) ?_
    refine r_iload_n hC dX1_addElement_34 rfl ?_
    refine r_iaddE hC (((4 * n0) + (v % 4))) dX1_addElement_35 (by omega) (by unfold inR; omega) ?_
    refine z_iald hM dX1_addElement_36 rfl (by omega) (by omega) (fun v5 h_v5 o_v5 t_v5 => ?_)
    have w_v5 := t_v5 (Or.inl trivial)
    subst w_v5
    have q_v5 : 0 ≤ (σ 15 0 ((4 * n0) + (v % 4))) ∧ (σ 15 0 ((4 * n0) + (v % 4))) ≤ 3 := o_v5
    refine z_iastG hM dX1_addElement_37 rfl (by omega) (by omega) (by simp [Tl, DL, DF]) (by first | trivial | (simp only [Okv]; omega) | (simp [Okv]; try omega)) (fun ρ6 a_ρ6 q_ρ6 => ?_)
    refine y_vret hK rfl dX1_addElement_38 ?_
    exact k _ ((Gx.rf).al a_ρ6 (by first | (simp; done) | omega | (simp; omega))) (by have hq := q_ρ6; (repeat' split) <;> omega)
  · refine r_iload_n hC dX1_addElement_18 rfl ?_
    refine r_goto (tgt := 37) hC dX1_addElement_19 rfl ?_
    refine z_iastG hM dX1_addElement_37 rfl (by omega) (by omega) (by simp [Tl, DL, DF]) (by first | trivial | (simp only [Okv]; omega) | (simp [Okv]; try omega)) (fun ρ7 a_ρ7 q_ρ7 => ?_)
    refine y_vret hK rfl dX1_addElement_38 ?_
    exact k _ ((Gx.rf).al a_ρ7 (by first | (simp; done) | omega | (simp; omega))) (by have hq := q_ρ7; (repeat' split) <;> omega)
