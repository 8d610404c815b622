-- B: the fold's steps, told whole
theorem x_floorMod {e : Ev} {d : Nat} {P : Option Vl → Mm → Prop} {σ : Mm} {a b : Int} (b_b : 1 ≤ b ∧ b ≤ 1000)  (k : 0 ≤ a % b ∧ a % b < b → P (some (vI (a % b))) σ) : WT e (d + 1) 262 [vI a, vI b] σ P := by
  refine WT_in fun K hK => ?_
  have hK : StpY e cJ9_floorMod_7cf53 RJ9 (some .int) (WT e (d + 0)) P K := hK
  have hM := hK.1
  have hC := hK.1.1
  show K 0 [some (vI a), some (vI b), none] [] σ
  refine r_rngz hC (fun g0 => ?_)
  have r_a : -2147483648 ≤ a ∧ a ≤ 2147483647 := inR_le (g0 (vI a) (by simp))
  refine r_iload_n hC dJ9_floorMod_7cf53_0 rfl ?_
  refine r_iload_n hC dJ9_floorMod_7cf53_1 rfl ?_
  refine r_irem hC dJ9_floorMod_7cf53_2 (by omega) ?_
  have f_v1 := tmod_fr (a := a) (b := b) (by omega)
  refine r_istore_n hC dJ9_floorMod_7cf53_3 rfl ?_
  refine r_iload_n hC dJ9_floorMod_7cf53_4 rfl ?_
  refine r_iload_n hC dJ9_floorMod_7cf53_5 rfl ?_
  refine r_ixorS hC dJ9_floorMod_7cf53_6 (by omega) (by omega) (fun v2 h_v2 s_v2 => ?_)
  refine r_if_ge (tgt := 18) hC dJ9_floorMod_7cf53_7 rfl (fun h3 => ?_) (fun h3 => ?_)
  · refine r_iload_n hC dJ9_floorMod_7cf53_18 rfl ?_
    refine y_iret hK rfl dJ9_floorMod_7cf53_19 ?_
    have e := emod_tm (a := a) (b := b) (by omega)
    have e2 : a % b = (Int.tmod a b) := by omega
    rw [e2] at k
    exact k (by omega)
  · refine r_iload_n hC dJ9_floorMod_7cf53_10 rfl ?_
    refine r_if_eq (tgt := 18) hC dJ9_floorMod_7cf53_11 rfl (fun h4 => ?_) (fun h4 => ?_)
    · refine r_iload_n hC dJ9_floorMod_7cf53_18 rfl ?_
      refine y_iret hK rfl dJ9_floorMod_7cf53_19 ?_
      have e := emod_tm (a := a) (b := b) (by omega)
      have e2 : a % b = (Int.tmod a b) := by omega
      rw [e2] at k
      exact k (by omega)
    · refine r_iload_n hC dJ9_floorMod_7cf53_14 rfl ?_
      refine r_iload_n hC dJ9_floorMod_7cf53_15 rfl ?_
      refine r_iaddE hC (((Int.tmod a b) + b)) dJ9_floorMod_7cf53_16 (by omega) (by unfold inR; omega) ?_
      refine y_iret hK rfl dJ9_floorMod_7cf53_17 ?_
      have e := emod_tm (a := a) (b := b) (by omega)
      have e2 : a % b = ((Int.tmod a b) + b) := by omega
      rw [e2] at k
      exact k (by omega)
theorem x_abs {e : Ev} {d : Nat} {P : Option Vl → Mm → Prop} {σ : Mm} {a : Int} (b_a : -1000 ≤ a ∧ a ≤ 1000)  (k : ∀ r : Int, 0 ≤ r ∧ r ≤ 1000 → r = a ∨ r = -a → P (some (vI r)) σ) : WT e (d + 1) 263 [vI a] σ P := by
  refine WT_in fun K hK => ?_
  have hK : StpY e cJ9_abs_0f7a4 RJ9 (some .int) (WT e (d + 0)) P K := hK
  have hM := hK.1
  have hC := hK.1.1
  show K 0 [some (vI a)] [] σ
  refine r_iload_n hC dJ9_abs_0f7a4_0 rfl ?_
  refine r_if_ge (tgt := 9) hC dJ9_abs_0f7a4_1 rfl (fun h1 => ?_) (fun h1 => ?_)
  · refine r_iload_n hC dJ9_abs_0f7a4_9 rfl ?_
    refine y_iret hK rfl dJ9_abs_0f7a4_10 ?_
    exact k _ (by omega) (by omega)
  · refine r_iload_n hC dJ9_abs_0f7a4_4 rfl ?_
    refine r_inegS hC dJ9_abs_0f7a4_5 (by unfold inR; omega) ?_
    refine r_goto (tgt := 10) hC dJ9_abs_0f7a4_6 rfl ?_
    refine y_iret hK rfl dJ9_abs_0f7a4_10 ?_
    exact k _ (by omega) (by omega)
theorem x_max {e : Ev} {d : Nat} {P : Option Vl → Mm → Prop} {σ : Mm} {a b : Int}   (k : ∀ r : Int, (a ≤ r ∧ b ≤ r ∧ (r = a ∨ r = b)) → P (some (vI r)) σ) : WT e (d + 1) 264 [vI a, vI b] σ P := by
  refine WT_in fun K hK => ?_
  have hK : StpY e cJ9_max_7cf53 RJ9 (some .int) (WT e (d + 0)) P K := hK
  have hM := hK.1
  have hC := hK.1.1
  show K 0 [some (vI a), some (vI b)] [] σ
  refine r_rngz hC (fun g0 => ?_)
  have r_a : -2147483648 ≤ a ∧ a ≤ 2147483647 := inR_le (g0 (vI a) (by simp))
  have r_b : -2147483648 ≤ b ∧ b ≤ 2147483647 := inR_le (g0 (vI b) (by simp))
  refine r_iload_n hC dJ9_max_7cf53_0 rfl ?_
  refine r_iload_n hC dJ9_max_7cf53_1 rfl ?_
  refine r_icmp_lt (tgt := 9) hC dJ9_max_7cf53_2 rfl (fun h1 => ?_) (fun h1 => ?_)
  · refine r_iload_n hC dJ9_max_7cf53_9 rfl ?_
    refine y_iret hK rfl dJ9_max_7cf53_10 ?_
    exact k _ (by omega)
  · refine r_iload_n hC dJ9_max_7cf53_5 rfl ?_
    refine r_goto (tgt := 10) hC dJ9_max_7cf53_6 rfl ?_
    refine y_iret hK rfl dJ9_max_7cf53_10 ?_
    exact k _ (by omega)
theorem x_min {e : Ev} {d : Nat} {P : Option Vl → Mm → Prop} {σ : Mm} {a b : Int}   (k : ∀ r : Int, (r ≤ a ∧ r ≤ b ∧ (r = a ∨ r = b)) → P (some (vI r)) σ) : WT e (d + 1) 265 [vI a, vI b] σ P := by
  refine WT_in fun K hK => ?_
  have hK : StpY e cJ9_min_7cf53 RJ9 (some .int) (WT e (d + 0)) P K := hK
  have hM := hK.1
  have hC := hK.1.1
  show K 0 [some (vI a), some (vI b)] [] σ
  refine r_rngz hC (fun g0 => ?_)
  have r_a : -2147483648 ≤ a ∧ a ≤ 2147483647 := inR_le (g0 (vI a) (by simp))
  have r_b : -2147483648 ≤ b ∧ b ≤ 2147483647 := inR_le (g0 (vI b) (by simp))
  refine r_iload_n hC dJ9_min_7cf53_0 rfl ?_
  refine r_iload_n hC dJ9_min_7cf53_1 rfl ?_
  refine r_icmp_gt (tgt := 9) hC dJ9_min_7cf53_2 rfl (fun h1 => ?_) (fun h1 => ?_)
  · refine r_iload_n hC dJ9_min_7cf53_9 rfl ?_
    refine y_iret hK rfl dJ9_min_7cf53_10 ?_
    exact k _ (by omega)
  · refine r_iload_n hC dJ9_min_7cf53_5 rfl ?_
    refine r_goto (tgt := 10) hC dJ9_min_7cf53_6 rfl ?_
    refine y_iret hK rfl dJ9_min_7cf53_10 ?_
    exact k _ (by omega)
-- what bitCount computes, as it computes it (one walk for all sixteen numbers)
def bcA (a : Int) : Int := wr (a - iand (iushr a 1) 1431655765)
def bcB (x : Int) : Int := wr (iand x 858993459 + iand (iushr x 2) 858993459)
def bcC (x : Int) : Int := iand (wr (x + iushr x 4)) 252645135
def bcD (x : Int) : Int := wr (x + iushr x 8)
def bcE (x : Int) : Int := wr (x + iushr x 16)
def bcF (a : Int) : Int := iand (bcE (bcD (bcC (bcB (bcA a))))) 63
theorem x_bcW {e : Ev} {d : Nat} {P : Option Vl → Mm → Prop} {σ : Mm} {a : Int} (k : P (some (vI (bcF a))) σ) : WT e (d + 1) 261 [vI a] σ P := by
  refine WT_in fun K hK => ?_
  have hK : StpY e cJ6_bitCount_0f7a4 RJ6 (some .int) (WT e (d + 0)) P K := hK
  have hM := hK.1
  have hC := hK.1.1
  show K 0 [some (vI a)] [] σ
  refine r_iload_n hC dJ6_bitCount_0f7a4_0 rfl ?_
  refine r_iload_n hC dJ6_bitCount_0f7a4_1 rfl ?_
  refine r_iconst hC dJ6_bitCount_0f7a4_2 rfl ?_
  refine r_iushr hC dJ6_bitCount_0f7a4_3 ?_
  refine r_ldcw hC dJ6_bitCount_0f7a4_4 co_RJ6_265 rfl ?_
  refine r_iand hC dJ6_bitCount_0f7a4_7 ?_
  refine r_isub hC dJ6_bitCount_0f7a4_8 ?_
  refine r_istore_n hC dJ6_bitCount_0f7a4_9 rfl ?_
  show K _ [some (vI (bcA a))] [] σ
  refine r_iload_n hC dJ6_bitCount_0f7a4_10 rfl ?_
  refine r_ldcw hC dJ6_bitCount_0f7a4_11 co_RJ6_266 rfl ?_
  refine r_iand hC dJ6_bitCount_0f7a4_14 ?_
  refine r_iload_n hC dJ6_bitCount_0f7a4_15 rfl ?_
  refine r_iconst hC dJ6_bitCount_0f7a4_16 rfl ?_
  refine r_iushr hC dJ6_bitCount_0f7a4_17 ?_
  refine r_ldcw hC dJ6_bitCount_0f7a4_18 co_RJ6_266 rfl ?_
  refine r_iand hC dJ6_bitCount_0f7a4_21 ?_
  refine r_iadd hC dJ6_bitCount_0f7a4_22 ?_
  refine r_istore_n hC dJ6_bitCount_0f7a4_23 rfl ?_
  show K _ [some (vI (bcB (bcA a)))] [] σ
  refine r_iload_n hC dJ6_bitCount_0f7a4_24 rfl ?_
  refine r_iload_n hC dJ6_bitCount_0f7a4_25 rfl ?_
  refine r_iconst hC dJ6_bitCount_0f7a4_26 rfl ?_
  refine r_iushr hC dJ6_bitCount_0f7a4_27 ?_
  refine r_iadd hC dJ6_bitCount_0f7a4_28 ?_
  refine r_ldcw hC dJ6_bitCount_0f7a4_29 co_RJ6_267 rfl ?_
  refine r_iand hC dJ6_bitCount_0f7a4_32 ?_
  refine r_istore_n hC dJ6_bitCount_0f7a4_33 rfl ?_
  show K _ [some (vI (bcC (bcB (bcA a))))] [] σ
  refine r_iload_n hC dJ6_bitCount_0f7a4_34 rfl ?_
  refine r_iload_n hC dJ6_bitCount_0f7a4_35 rfl ?_
  refine r_bipush hC dJ6_bitCount_0f7a4_36 rfl ?_
  refine r_iushr hC dJ6_bitCount_0f7a4_38 ?_
  refine r_iadd hC dJ6_bitCount_0f7a4_39 ?_
  refine r_istore_n hC dJ6_bitCount_0f7a4_40 rfl ?_
  show K _ [some (vI (bcD (bcC (bcB (bcA a)))))] [] σ
  refine r_iload_n hC dJ6_bitCount_0f7a4_41 rfl ?_
  refine r_iload_n hC dJ6_bitCount_0f7a4_42 rfl ?_
  refine r_bipush hC dJ6_bitCount_0f7a4_43 rfl ?_
  refine r_iushr hC dJ6_bitCount_0f7a4_45 ?_
  refine r_iadd hC dJ6_bitCount_0f7a4_46 ?_
  refine r_istore_n hC dJ6_bitCount_0f7a4_47 rfl ?_
  show K _ [some (vI (bcE (bcD (bcC (bcB (bcA a))))))] [] σ
  refine r_iload_n hC dJ6_bitCount_0f7a4_48 rfl ?_
  refine r_bipush hC dJ6_bitCount_0f7a4_49 rfl ?_
  refine r_iand hC dJ6_bitCount_0f7a4_51 ?_
  refine y_iret hK rfl dJ6_bitCount_0f7a4_52 ?_
  exact k
theorem bcA_0 : bcA 0 = 0 := by decide +kernel
theorem bcB_0 : bcB 0 = 0 := by decide +kernel
theorem bcC_0 : bcC 0 = 0 := by decide +kernel
theorem bcD_0 : bcD 0 = 0 := by decide +kernel
theorem bcE_0 : bcE 0 = 0 := by decide +kernel
theorem bcZ_0 : iand 0 63 = 0 := by decide +kernel
theorem bcF_0 : bcF 0 = 0 := by
  unfold bcF
  rw [bcA_0, bcB_0, bcC_0, bcD_0, bcE_0, bcZ_0]
theorem bcA_1 : bcA 1 = 1 := by decide +kernel
theorem bcB_1 : bcB 1 = 1 := by decide +kernel
theorem bcC_1 : bcC 1 = 1 := by decide +kernel
theorem bcD_1 : bcD 1 = 1 := by decide +kernel
theorem bcE_1 : bcE 1 = 1 := by decide +kernel
theorem bcZ_1 : iand 1 63 = 1 := by decide +kernel
theorem bcF_1 : bcF 1 = 1 := by
  unfold bcF
  rw [bcA_1, bcB_1, bcC_1, bcD_1, bcE_1, bcZ_1]
theorem bcA_2 : bcA 2 = 1 := by decide +kernel
theorem bcF_2 : bcF 2 = 1 := by
  unfold bcF
  rw [bcA_2, bcB_1, bcC_1, bcD_1, bcE_1, bcZ_1]
theorem bcA_3 : bcA 3 = 2 := by decide +kernel
theorem bcB_2 : bcB 2 = 2 := by decide +kernel
theorem bcC_2 : bcC 2 = 2 := by decide +kernel
theorem bcD_2 : bcD 2 = 2 := by decide +kernel
theorem bcE_2 : bcE 2 = 2 := by decide +kernel
theorem bcZ_2 : iand 2 63 = 2 := by decide +kernel
theorem bcF_3 : bcF 3 = 2 := by
  unfold bcF
  rw [bcA_3, bcB_2, bcC_2, bcD_2, bcE_2, bcZ_2]
theorem bcA_4 : bcA 4 = 4 := by decide +kernel
theorem bcB_4 : bcB 4 = 1 := by decide +kernel
theorem bcF_4 : bcF 4 = 1 := by
  unfold bcF
  rw [bcA_4, bcB_4, bcC_1, bcD_1, bcE_1, bcZ_1]
theorem bcA_5 : bcA 5 = 5 := by decide +kernel
theorem bcB_5 : bcB 5 = 2 := by decide +kernel
theorem bcF_5 : bcF 5 = 2 := by
  unfold bcF
  rw [bcA_5, bcB_5, bcC_2, bcD_2, bcE_2, bcZ_2]
theorem bcA_6 : bcA 6 = 5 := by decide +kernel
theorem bcF_6 : bcF 6 = 2 := by
  unfold bcF
  rw [bcA_6, bcB_5, bcC_2, bcD_2, bcE_2, bcZ_2]
theorem bcA_7 : bcA 7 = 6 := by decide +kernel
theorem bcB_6 : bcB 6 = 3 := by decide +kernel
theorem bcC_3 : bcC 3 = 3 := by decide +kernel
theorem bcD_3 : bcD 3 = 3 := by decide +kernel
theorem bcE_3 : bcE 3 = 3 := by decide +kernel
theorem bcZ_3 : iand 3 63 = 3 := by decide +kernel
theorem bcF_7 : bcF 7 = 3 := by
  unfold bcF
  rw [bcA_7, bcB_6, bcC_3, bcD_3, bcE_3, bcZ_3]
theorem bcA_8 : bcA 8 = 4 := by decide +kernel
theorem bcF_8 : bcF 8 = 1 := by
  unfold bcF
  rw [bcA_8, bcB_4, bcC_1, bcD_1, bcE_1, bcZ_1]
theorem bcA_9 : bcA 9 = 5 := by decide +kernel
theorem bcF_9 : bcF 9 = 2 := by
  unfold bcF
  rw [bcA_9, bcB_5, bcC_2, bcD_2, bcE_2, bcZ_2]
theorem bcA_10 : bcA 10 = 5 := by decide +kernel
theorem bcF_10 : bcF 10 = 2 := by
  unfold bcF
  rw [bcA_10, bcB_5, bcC_2, bcD_2, bcE_2, bcZ_2]
theorem bcA_11 : bcA 11 = 6 := by decide +kernel
theorem bcF_11 : bcF 11 = 3 := by
  unfold bcF
  rw [bcA_11, bcB_6, bcC_3, bcD_3, bcE_3, bcZ_3]
theorem bcA_12 : bcA 12 = 8 := by decide +kernel
theorem bcB_8 : bcB 8 = 2 := by decide +kernel
theorem bcF_12 : bcF 12 = 2 := by
  unfold bcF
  rw [bcA_12, bcB_8, bcC_2, bcD_2, bcE_2, bcZ_2]
theorem bcA_13 : bcA 13 = 9 := by decide +kernel
theorem bcB_9 : bcB 9 = 3 := by decide +kernel
theorem bcF_13 : bcF 13 = 3 := by
  unfold bcF
  rw [bcA_13, bcB_9, bcC_3, bcD_3, bcE_3, bcZ_3]
theorem bcA_14 : bcA 14 = 9 := by decide +kernel
theorem bcF_14 : bcF 14 = 3 := by
  unfold bcF
  rw [bcA_14, bcB_9, bcC_3, bcD_3, bcE_3, bcZ_3]
theorem bcA_15 : bcA 15 = 10 := by decide +kernel
theorem bcB_10 : bcB 10 = 4 := by decide +kernel
theorem bcC_4 : bcC 4 = 4 := by decide +kernel
theorem bcD_4 : bcD 4 = 4 := by decide +kernel
theorem bcE_4 : bcE 4 = 4 := by decide +kernel
theorem bcZ_4 : iand 4 63 = 4 := by decide +kernel
theorem bcF_15 : bcF 15 = 4 := by
  unfold bcF
  rw [bcA_15, bcB_10, bcC_4, bcD_4, bcE_4, bcZ_4]
theorem bcF_eq {a : Int} (b_a : 0 ≤ a ∧ a ≤ 15) : bcF a = a % 2 + a / 2 % 2 + a / 4 % 2 + a / 8 % 2 := by
  rcases (by omega : a = 0 ∨ a = 1 ∨ a = 2 ∨ a = 3 ∨ a = 4 ∨ a = 5 ∨ a = 6 ∨ a = 7 ∨ a = 8 ∨ a = 9 ∨ a = 10 ∨ a = 11 ∨ a = 12 ∨ a = 13 ∨ a = 14 ∨ a = 15) with rfl | rfl | rfl | rfl | rfl | rfl | rfl | rfl | rfl | rfl | rfl | rfl | rfl | rfl | rfl | rfl
  · exact bcF_0
  · exact bcF_1
  · exact bcF_2
  · exact bcF_3
  · exact bcF_4
  · exact bcF_5
  · exact bcF_6
  · exact bcF_7
  · exact bcF_8
  · exact bcF_9
  · exact bcF_10
  · exact bcF_11
  · exact bcF_12
  · exact bcF_13
  · exact bcF_14
  · exact bcF_15
theorem x_bitCount {e : Ev} {d : Nat} {P : Option Vl → Mm → Prop} {σ : Mm} {a : Int} (b_a : 0 ≤ a ∧ a ≤ 15) (k : P (some (vI (a % 2 + a / 2 % 2 + a / 4 % 2 + a / 8 % 2))) σ) : WT e (d + 1) 261 [vI a] σ P := by
  refine x_bcW ?_
  rw [bcF_eq b_a]
  exact k
theorem x_addGreatest {eb : Bool} {d : Nat} {P : Option Vl → Mm → Prop} {σ : Mm} {v n0 n1 n2 n3 n : Int} (b_v : -1000 ≤ v ∧ v ≤ 1000) (qg0 : σ 17 0 0 = n0) (b_n1 : 0 ≤ n1 ∧ n1 ≤ 1000) (qg1 : σ 17 0 1 = n1) (qg2 : σ 17 0 2 = n2) (qg3 : σ 17 0 3 = n3) (b_n : 0 ≤ n ∧ n ≤ 1000) (qg4 : σ 14 0 6 = n)  (k : ∀ ρ : Mm, Gx (fun c x y => c = 17 ∧ x = 0 ∨ c = 14 ∧ x = 0 ∧ y = 7) σ ρ → ρ 17 0 0 = (if n = 0 ∨ v > n0 then v else n0) → ρ 17 0 1 = (if n = 0 ∨ v > n0 then 1 else if v = n0 then n1 + 1 else n1) → ρ 17 0 2 = (if n = 0 ∨ v > n0 then n else n2) → ρ 17 0 3 = (n + 1) → P none ρ) : WT (true, true, eb) (d + 1) 15 [vR 14 0, vI v] σ P := by
  refine WT_in fun K hK => ?_
  have hK : StpY (true, true, eb) cX1_addGreatest RX1 (none) (WT (true, true, eb) (d + 0)) P K := hK
  have hM := hK.1
  have hC := hK.1.1
  show K 0 [some (vR 14 0), some (vI v)] [] σ
  refine r_aload_n hC dX1_addGreatest_0 rfl ?_
  refine z_getI (jz := 6) hM dX1_addGreatest_1 fl_RX1_34 rfl rfl rfl (fun v1 h_v1 o_v1 t_v1 => ?_)
  have e_v1 : n = v1 := ((t_v1 ((by simp [Tk, Tb, DL, DF, DX]))).trans qg4).symm
  clear t_v1
  subst e_v1
  refine r_if_eq (tgt := 17) hC dX1_addGreatest_4 rfl (fun h2 => ?_) (fun h2 => ?_)
  · refine r_aload_n hC dX1_addGreatest_17 rfl ?_
    refine z_getR hM dX1_addGreatest_18 fl_RX1_24 rfl rfl (vld_of (n := 1) rfl (by omega) (by omega)) ?_
    refine r_iconst hC dX1_addGreatest_21 rfl ?_
    refine r_iload_n hC dX1_addGreatest_22 rfl ?_
    refine z_iastG hM dX1_addGreatest_23 rfl (by omega) (by omega) (by simp [Tl, DL, DF]) (by first | trivial | (simp only [Okv]; omega) | (simp [Okv]; try omega)) (fun ρ3 a_ρ3 q_ρ3 => ?_)
    refine r_aload_n hC dX1_addGreatest_24 rfl ?_
    refine z_getR hM dX1_addGreatest_25 fl_RX1_24 rfl rfl (vld_of (n := 1) rfl (by omega) (by omega)) ?_
    refine r_iconst hC dX1_addGreatest_28 rfl ?_
    refine r_iconst hC dX1_addGreatest_29 rfl ?_
    refine z_iastG hM dX1_addGreatest_30 rfl (by omega) (by omega) (by simp [Tl, DL, DF]) (by first | trivial | (simp only [Okv]; omega) | (simp [Okv]; try omega)) (fun ρ4 a_ρ4 q_ρ4 => ?_)
    refine r_aload_n hC dX1_addGreatest_31 rfl ?_
    refine z_getR hM dX1_addGreatest_32 fl_RX1_24 rfl rfl (vld_of (n := 1) rfl (by omega) (by omega)) ?_
    refine r_iconst hC dX1_addGreatest_35 rfl ?_
    refine r_aload_n hC dX1_addGreatest_36 rfl ?_
    refine z_getI (jz := 6) hM dX1_addGreatest_37 fl_RX1_34 rfl rfl rfl (fun v5 h_v5 o_v5 t_v5 => ?_)
    have e_v5 : n = v5 := ((t_v5 ((by simp [Tk, Tb, DL, DF, DX]))).trans ((a_ρ4 _ _ _ (by first | exact xs_ (by decide) | exact xc_ (by decide) | omega)).trans ((a_ρ3 _ _ _ (by first | exact xs_ (by decide) | exact xc_ (by decide) | omega)).trans qg4))).symm
    clear t_v5
    subst e_v5
    refine z_iastG hM dX1_addGreatest_40 rfl (by omega) (by omega) (by simp [Tl, DL, DF]) (by first | trivial | (simp only [Okv]; omega) | (simp [Okv]; try omega)) (fun ρ6 a_ρ6 q_ρ6 => ?_)
    refine r_goto (tgt := 64) hC dX1_addGreatest_41 rfl ?_
    refine r_aload_n hC dX1_addGreatest_64 rfl ?_
    refine z_getR hM dX1_addGreatest_65 fl_RX1_24 rfl rfl (vld_of (n := 1) rfl (by omega) (by omega)) ?_
    refine r_iconst hC dX1_addGreatest_68 rfl ?_
    refine r_aload_n hC dX1_addGreatest_69 rfl ?_
    refine z_getI (jz := 6) hM dX1_addGreatest_70 fl_RX1_34 rfl rfl rfl (fun v7 h_v7 o_v7 t_v7 => ?_)
    have e_v7 : n = v7 := ((t_v7 ((by simp [Tk, Tb, DL, DF, DX]))).trans ((a_ρ6 _ _ _ (by first | exact xs_ (by decide) | exact xc_ (by decide) | omega)).trans ((a_ρ4 _ _ _ (by first | exact xs_ (by decide) | exact xc_ (by decide) | omega)).trans ((a_ρ3 _ _ _ (by first | exact xs_ (by decide) | exact xc_ (by decide) | omega)).trans qg4)))).symm
    clear t_v7
    subst e_v7
    refine r_iconst hC dX1_addGreatest_73 rfl ?_
    refine r_iaddE hC ((n + 1)) dX1_addGreatest_74 (by omega) (by unfold inR; omega) ?_
    refine z_iastG hM dX1_addGreatest_75 rfl (by omega) (by omega) (by simp [Tl, DL, DF]) (by first | trivial | (simp only [Okv]; omega) | (simp [Okv]; try omega)) (fun ρ8 a_ρ8 q_ρ8 => ?_)
    refine y_vret hK rfl dX1_addGreatest_76 ?_
    exact k _ (((((Gx.rf).al a_ρ3 (by first | (simp; done) | omega | (simp; omega))).al a_ρ4 (by first | (simp; done) | omega | (simp; omega))).al a_ρ6 (by first | (simp; done) | omega | (simp; omega))).al a_ρ8 (by first | (simp; done) | omega | (simp; omega))) (by have hq := ((a_ρ8 _ _ _ (by first | exact xs_ (by decide) | exact xc_ (by decide) | omega)).trans ((a_ρ6 _ _ _ (by first | exact xs_ (by decide) | exact xc_ (by decide) | omega)).trans ((a_ρ4 _ _ _ (by first | exact xs_ (by decide) | exact xc_ (by decide) | omega)).trans q_ρ3))); (repeat' split) <;> omega) (by have hq := ((a_ρ8 _ _ _ (by first | exact xs_ (by decide) | exact xc_ (by decide) | omega)).trans ((a_ρ6 _ _ _ (by first | exact xs_ (by decide) | exact xc_ (by decide) | omega)).trans q_ρ4)); (repeat' split) <;> omega) (by have hq := ((a_ρ8 _ _ _ (by first | exact xs_ (by decide) | exact xc_ (by decide) | omega)).trans q_ρ6); (repeat' split) <;> omega) (by have hq := q_ρ8; (repeat' split) <;> omega)
  · refine r_iload_n hC dX1_addGreatest_7 rfl ?_
    refine r_aload_n hC dX1_addGreatest_8 rfl ?_
    refine z_getR hM dX1_addGreatest_9 fl_RX1_24 rfl rfl (vld_of (n := 1) rfl (by omega) (by omega)) ?_
    refine r_iconst hC dX1_addGreatest_12 rfl ?_
    refine z_iald hM dX1_addGreatest_13 rfl (by omega) (by omega) (fun v9 h_v9 o_v9 t_v9 => ?_)
    have e_v9 : n0 = v9 := ((t_v9 ((by simp [Tk, Tb, DL, DF, DX]))).trans qg0).symm
    clear t_v9
    subst e_v9
    refine r_icmp_le (tgt := 44) hC dX1_addGreatest_14 rfl (fun h10 => ?_) (fun h10 => ?_)
    · refine r_iload_n hC dX1_addGreatest_44 rfl ?_
      refine r_aload_n hC dX1_addGreatest_45 rfl ?_
      refine z_getR hM dX1_addGreatest_46 fl_RX1_24 rfl rfl (vld_of (n := 1) rfl (by omega) (by omega)) ?_
      refine r_iconst hC dX1_addGreatest_49 rfl ?_
      refine z_iald hM dX1_addGreatest_50 rfl (by omega) (by omega) (fun v11 h_v11 o_v11 t_v11 => ?_)
      have e_v11 : n0 = v11 := ((t_v11 ((by simp [Tk, Tb, DL, DF, DX]))).trans qg0).symm
      clear t_v11
      subst e_v11
      refine r_icmp_ne (tgt := 64) hC dX1_addGreatest_51 rfl (fun h12 => ?_) (fun h12 => ?_)
      · refine r_aload_n hC dX1_addGreatest_64 rfl ?_
        refine z_getR hM dX1_addGreatest_65 fl_RX1_24 rfl rfl (vld_of (n := 1) rfl (by omega) (by omega)) ?_
        refine r_iconst hC dX1_addGreatest_68 rfl ?_
        refine r_aload_n hC dX1_addGreatest_69 rfl ?_
        refine z_getI (jz := 6) hM dX1_addGreatest_70 fl_RX1_34 rfl rfl rfl (fun v13 h_v13 o_v13 t_v13 => ?_)
        have e_v13 : n = v13 := ((t_v13 ((by simp [Tk, Tb, DL, DF, DX]))).trans qg4).symm
        clear t_v13
        subst e_v13
        refine r_iconst hC dX1_addGreatest_73 rfl ?_
        refine r_iaddE hC ((n + 1)) dX1_addGreatest_74 (by omega) (by unfold inR; omega) ?_
        refine z_iastG hM dX1_addGreatest_75 rfl (by omega) (by omega) (by simp [Tl, DL, DF]) (by first | trivial | (simp only [Okv]; omega) | (simp [Okv]; try omega)) (fun ρ14 a_ρ14 q_ρ14 => ?_)
        refine y_vret hK rfl dX1_addGreatest_76 ?_
        exact k _ ((Gx.rf).al a_ρ14 (by first | (simp; done) | omega | (simp; omega))) (by have hq := ((a_ρ14 _ _ _ (by first | exact xs_ (by decide) | exact xc_ (by decide) | omega)).trans qg0); (repeat' split) <;> omega) (by have hq := ((a_ρ14 _ _ _ (by first | exact xs_ (by decide) | exact xc_ (by decide) | omega)).trans qg1); (repeat' split) <;> omega) (by have hq := ((a_ρ14 _ _ _ (by first | exact xs_ (by decide) | exact xc_ (by decide) | omega)).trans qg2); (repeat' split) <;> omega) (by have hq := q_ρ14; (repeat' split) <;> omega)
      · refine r_aload_n hC dX1_addGreatest_54 rfl ?_
        refine z_getR hM dX1_addGreatest_55 fl_RX1_24 rfl rfl (vld_of (n := 1) rfl (by omega) (by omega)) ?_
        refine r_iconst hC dX1_addGreatest_58 rfl ?_
        refine r_dup2 hC dX1_addGreatest_59 rfl rfl ?_
        refine z_iald hM dX1_addGreatest_60 rfl (by omega) (by omega) (fun v15 h_v15 o_v15 t_v15 => ?_)
        have e_v15 : n1 = v15 := ((t_v15 ((by simp [Tk, Tb, DL, DF, DX]))).trans qg1).symm
        clear t_v15
        subst e_v15
        refine r_iconst hC dX1_addGreatest_61 rfl ?_
        refine r_iaddE hC ((n1 + 1)) dX1_addGreatest_62 (by omega) (by unfold inR; omega) ?_
        refine z_iastG hM dX1_addGreatest_63 rfl (by omega) (by omega) (by simp [Tl, DL, DF]) (by first | trivial | (simp only [Okv]; omega) | (simp [Okv]; try omega)) (fun ρ16 a_ρ16 q_ρ16 => ?_)
        refine r_aload_n hC dX1_addGreatest_64 rfl ?_
        refine z_getR hM dX1_addGreatest_65 fl_RX1_24 rfl rfl (vld_of (n := 1) rfl (by omega) (by omega)) ?_
        refine r_iconst hC dX1_addGreatest_68 rfl ?_
        refine r_aload_n hC dX1_addGreatest_69 rfl ?_
        refine z_getI (jz := 6) hM dX1_addGreatest_70 fl_RX1_34 rfl rfl rfl (fun v17 h_v17 o_v17 t_v17 => ?_)
        have e_v17 : n = v17 := ((t_v17 ((by simp [Tk, Tb, DL, DF, DX]))).trans ((a_ρ16 _ _ _ (by first | exact xs_ (by decide) | exact xc_ (by decide) | omega)).trans qg4)).symm
        clear t_v17
        subst e_v17
        refine r_iconst hC dX1_addGreatest_73 rfl ?_
        refine r_iaddE hC ((n + 1)) dX1_addGreatest_74 (by omega) (by unfold inR; omega) ?_
        refine z_iastG hM dX1_addGreatest_75 rfl (by omega) (by omega) (by simp [Tl, DL, DF]) (by first | trivial | (simp only [Okv]; omega) | (simp [Okv]; try omega)) (fun ρ18 a_ρ18 q_ρ18 => ?_)
        refine y_vret hK rfl dX1_addGreatest_76 ?_
        exact k _ (((Gx.rf).al a_ρ16 (by first | (simp; done) | omega | (simp; omega))).al a_ρ18 (by first | (simp; done) | omega | (simp; omega))) (by have hq := ((a_ρ18 _ _ _ (by first | exact xs_ (by decide) | exact xc_ (by decide) | omega)).trans ((a_ρ16 _ _ _ (by first | exact xs_ (by decide) | exact xc_ (by decide) | omega)).trans qg0)); (repeat' split) <;> omega) (by have hq := ((a_ρ18 _ _ _ (by first | exact xs_ (by decide) | exact xc_ (by decide) | omega)).trans q_ρ16); (repeat' split) <;> omega) (by have hq := ((a_ρ18 _ _ _ (by first | exact xs_ (by decide) | exact xc_ (by decide) | omega)).trans ((a_ρ16 _ _ _ (by first | exact xs_ (by decide) | exact xc_ (by decide) | omega)).trans qg2)); (repeat' split) <;> omega) (by have hq := q_ρ18; (repeat' split) <;> omega)
    · refine r_aload_n hC dX1_addGreatest_17 rfl ?_
      refine z_getR hM dX1_addGreatest_18 fl_RX1_24 rfl rfl (vld_of (n := 1) rfl (by omega) (by omega)) ?_
      refine r_iconst hC dX1_addGreatest_21 rfl ?_
      refine r_iload_n hC dX1_addGreatest_22 rfl ?_
      refine z_iastG hM dX1_addGreatest_23 rfl (by omega) (by omega) (by simp [Tl, DL, DF]) (by first | trivial | (simp only [Okv]; omega) | (simp [Okv]; try omega)) (fun ρ19 a_ρ19 q_ρ19 => ?_)
      refine r_aload_n hC dX1_addGreatest_24 rfl ?_
      refine z_getR hM dX1_addGreatest_25 fl_RX1_24 rfl rfl (vld_of (n := 1) rfl (by omega) (by omega)) ?_
      refine r_iconst hC dX1_addGreatest_28 rfl ?_
      refine r_iconst hC dX1_addGreatest_29 rfl ?_
      refine z_iastG hM dX1_addGreatest_30 rfl (by omega) (by omega) (by simp [Tl, DL, DF]) (by first | trivial | (simp only [Okv]; omega) | (simp [Okv]; try omega)) (fun ρ20 a_ρ20 q_ρ20 => ?_)
      refine r_aload_n hC dX1_addGreatest_31 rfl ?_
      refine z_getR hM dX1_addGreatest_32 fl_RX1_24 rfl rfl (vld_of (n := 1) rfl (by omega) (by omega)) ?_
      refine r_iconst hC dX1_addGreatest_35 rfl ?_
      refine r_aload_n hC dX1_addGreatest_36 rfl ?_
      refine z_getI (jz := 6) hM dX1_addGreatest_37 fl_RX1_34 rfl rfl rfl (fun v21 h_v21 o_v21 t_v21 => ?_)
      have e_v21 : n = v21 := ((t_v21 ((by simp [Tk, Tb, DL, DF, DX]))).trans ((a_ρ20 _ _ _ (by first | exact xs_ (by decide) | exact xc_ (by decide) | omega)).trans ((a_ρ19 _ _ _ (by first | exact xs_ (by decide) | exact xc_ (by decide) | omega)).trans qg4))).symm
      clear t_v21
      subst e_v21
      refine z_iastG hM dX1_addGreatest_40 rfl (by omega) (by omega) (by simp [Tl, DL, DF]) (by first | trivial | (simp only [Okv]; omega) | (simp [Okv]; try omega)) (fun ρ22 a_ρ22 q_ρ22 => ?_)
      refine r_goto (tgt := 64) hC dX1_addGreatest_41 rfl ?_
      refine r_aload_n hC dX1_addGreatest_64 rfl ?_
      refine z_getR hM dX1_addGreatest_65 fl_RX1_24 rfl rfl (vld_of (n := 1) rfl (by omega) (by omega)) ?_
      refine r_iconst hC dX1_addGreatest_68 rfl ?_
      refine r_aload_n hC dX1_addGreatest_69 rfl ?_
      refine z_getI (jz := 6) hM dX1_addGreatest_70 fl_RX1_34 rfl rfl rfl (fun v23 h_v23 o_v23 t_v23 => ?_)
      have e_v23 : n = v23 := ((t_v23 ((by simp [Tk, Tb, DL, DF, DX]))).trans ((a_ρ22 _ _ _ (by first | exact xs_ (by decide) | exact xc_ (by decide) | omega)).trans ((a_ρ20 _ _ _ (by first | exact xs_ (by decide) | exact xc_ (by decide) | omega)).trans ((a_ρ19 _ _ _ (by first | exact xs_ (by decide) | exact xc_ (by decide) | omega)).trans qg4)))).symm
      clear t_v23
      subst e_v23
      refine r_iconst hC dX1_addGreatest_73 rfl ?_
      refine r_iaddE hC ((n + 1)) dX1_addGreatest_74 (by omega) (by unfold inR; omega) ?_
      refine z_iastG hM dX1_addGreatest_75 rfl (by omega) (by omega) (by simp [Tl, DL, DF]) (by first | trivial | (simp only [Okv]; omega) | (simp [Okv]; try omega)) (fun ρ24 a_ρ24 q_ρ24 => ?_)
      refine y_vret hK rfl dX1_addGreatest_76 ?_
      exact k _ (((((Gx.rf).al a_ρ19 (by first | (simp; done) | omega | (simp; omega))).al a_ρ20 (by first | (simp; done) | omega | (simp; omega))).al a_ρ22 (by first | (simp; done) | omega | (simp; omega))).al a_ρ24 (by first | (simp; done) | omega | (simp; omega))) (by have hq := ((a_ρ24 _ _ _ (by first | exact xs_ (by decide) | exact xc_ (by decide) | omega)).trans ((a_ρ22 _ _ _ (by first | exact xs_ (by decide) | exact xc_ (by decide) | omega)).trans ((a_ρ20 _ _ _ (by first | exact xs_ (by decide) | exact xc_ (by decide) | omega)).trans q_ρ19))); (repeat' split) <;> omega) (by have hq := ((a_ρ24 _ _ _ (by first | exact xs_ (by decide) | exact xc_ (by decide) | omega)).trans ((a_ρ22 _ _ _ (by first | exact xs_ (by decide) | exact xc_ (by decide) | omega)).trans q_ρ20)); (repeat' split) <;> omega) (by have hq := ((a_ρ24 _ _ _ (by first | exact xs_ (by decide) | exact xc_ (by decide) | omega)).trans q_ρ22); (repeat' split) <;> omega) (by have hq := q_ρ24; (repeat' split) <;> omega)
theorem x_addShare {eb : Bool} {d : Nat} {P : Option Vl → Mm → Prop} {σ : Mm} {v n0 n1 : Int} (b_v : -1000 ≤ v ∧ v ≤ 1000) (b_n0 : 0 ≤ n0) (qg0 : σ 17 0 0 = n0) (b_n1 : 0 ≤ n1 ∧ n1 ≤ 1000) (qg1 : σ 17 0 1 = n1)  (k : ∀ ρ : Mm, Gx (fun c x y => c = 17 ∧ x = 0 ∨ c = 14 ∧ x = 0 ∧ y = 7) σ ρ → ρ 17 0 0 = (((Int.gcd n0 v : Nat) : Int)) → ρ 17 0 1 = (n1 + (if v = 0 then 0 else 1)) → P none ρ) : WT (true, true, eb) (d + 2) 16 [vR 14 0, vI v] σ P := by
  refine WT_in fun K hK => ?_
  have hK : StpY (true, true, eb) cX1_addShare RX1 (none) (WT (true, true, eb) (d + 1)) P K := hK
  have hM := hK.1
  have hC := hK.1.1
  show K 0 [some (vR 14 0), some (vI v), none, none, none, none] [] σ
  refine r_aload_n hC dX1_addShare_0 rfl ?_
  refine z_getR hM dX1_addShare_1 fl_RX1_24 rfl rfl (vld_of (n := 1) rfl (by omega) (by omega)) ?_
  refine r_iconst hC dX1_addShare_4 rfl ?_
  refine z_iald hM dX1_addShare_5 rfl (by omega) (by omega) (fun v1 h_v1 o_v1 t_v1 => ?_)
  have e_v1 : n0 = v1 := ((t_v1 ((by simp [Tk, Tb, DL, DF, DX]))).trans qg0).symm
  clear t_v1
  subst e_v1
  refine r_istore_n hC dX1_addShare_6 rfl ?_
  refine r_iload_n hC dX1_addShare_7 rfl ?_
  refine z_ins1 hM dX1_addShare_8 tl_RX1_88 rfl (Nat.le_of_ble_eq_true rfl) (Nat.le_of_ble_eq_true rfl) ?_
  refine x_abs (by omega) (fun v2 h_v2 a_v2 => ?_)
  refine r_istore_n hC dX1_addShare_11 rfl ?_
  refine r_iconst hC dX1_addShare_12 rfl ?_
  refine r_istore hC dX1_addShare_13 rfl ?_
  have L15 : ∀ (n15 : Nat) (w3 w4 w5 : Int) (ρ6 : Mm), 0 ≤ w3 ∧ w3 ≤ 9223372036854775808 → 0 ≤ w4 ∧ w4 ≤ 1000 → 0 ≤ w5 ∧ w5 ≤ 1001 → (((Int.gcd (w3) (w4) : Nat) : Int) = ((Int.gcd n0 v : Nat) : Int)) → ((w4) ≤ 1000 - (w5)) → 1001 - w5 < (n15 : Int) → Gx (fun c x y => c = 17 ∧ x = 0 ∨ c = 14 ∧ x = 0 ∧ y = 7) σ ρ6 → ρ6 17 0 0 = n0 → ρ6 17 0 1 = n1 → K 15 [some (vR 14 0), some (vI v), some (vI w3), some (vI w4), some (vI w5), none] [] ρ6 := by
    intro n15
    induction n15 with
    | zero => intro w3 w4 w5 ρ6 f_w3 f_w4 f_w5 i0_15 i1_15 hm g_ρ6 q0_ρ6 q1_ρ6 ; omega
    | succ n15 ih15 =>
      intro w3 w4 w5 ρ6 f_w3 f_w4 f_w5 i0_15 i1_15 hm15 g_ρ6 q0_ρ6 q1_ρ6 
      refine r_iload_n hC dX1_addShare_15 rfl ?_
      refine r_if_eq (tgt := 43) hC dX1_addShare_16 rfl (fun h7 => ?_) (fun h7 => ?_)
      · refine r_aload_n hC dX1_addShare_43 rfl ?_
        refine z_getR hM dX1_addShare_44 fl_RX1_24 rfl rfl (vld_of (n := 1) rfl (by omega) (by omega)) ?_
        refine r_iconst hC dX1_addShare_47 rfl ?_
        refine r_iload_n hC dX1_addShare_48 rfl ?_
        refine z_iastG hM dX1_addShare_49 rfl (by omega) (by omega) (by simp [Tl, DL, DF]) (by first | trivial | (simp only [Okv]; omega) | (simp [Okv]; try omega)) (fun ρ8 a_ρ8 q_ρ8 => ?_)
        refine r_aload_n hC dX1_addShare_50 rfl ?_
        refine z_getR hM dX1_addShare_51 fl_RX1_24 rfl rfl (vld_of (n := 1) rfl (by omega) (by omega)) ?_
        refine r_iconst hC dX1_addShare_54 rfl ?_
        refine r_dup2 hC dX1_addShare_55 rfl rfl ?_
        refine z_iald hM dX1_addShare_56 rfl (by omega) (by omega) (fun v9 h_v9 o_v9 t_v9 => ?_)
        have e_v9 : n1 = v9 := ((t_v9 ((by simp [Tk, Tb, DL, DF, DX]))).trans ((a_ρ8 _ _ _ (by first | exact xs_ (by decide) | exact xc_ (by decide) | omega)).trans q1_ρ6)).symm
        clear t_v9
        subst e_v9
        refine r_iload_n hC dX1_addShare_57 rfl ?_
        refine r_if_eq (tgt := 65) hC dX1_addShare_58 rfl (fun h10 => ?_) (fun h10 => ?_)
        · refine r_iconst hC dX1_addShare_65 rfl ?_
          refine r_iaddE hC (n1) dX1_addShare_66 (by omega) (by unfold inR; omega) ?_
          refine z_iastG hM dX1_addShare_67 rfl (by omega) (by omega) (by simp [Tl, DL, DF]) (by first | trivial | (simp only [Okv]; omega) | (simp [Okv]; try omega)) (fun ρ11 a_ρ11 q_ρ11 => ?_)
          refine y_vret hK rfl dX1_addShare_68 ?_
          exact k _ (((g_ρ6).al a_ρ8 (by first | (simp; done) | omega | (simp; omega))).al a_ρ11 (by first | (simp; done) | omega | (simp; omega))) (by have hq := ((a_ρ11 _ _ _ (by first | exact xs_ (by decide) | exact xc_ (by decide) | omega)).trans q_ρ8); have hi := i0_15; rw [show w4 = (0 : Int) from by omega, gcd_z (by omega)] at hi; omega) (by have hq := q_ρ11; (repeat' split) <;> omega)
        · refine r_iconst hC dX1_addShare_61 rfl ?_
          refine r_goto (tgt := 66) hC dX1_addShare_62 rfl ?_
          refine r_iaddE hC ((n1 + 1)) dX1_addShare_66 (by omega) (by unfold inR; omega) ?_
          refine z_iastG hM dX1_addShare_67 rfl (by omega) (by omega) (by simp [Tl, DL, DF]) (by first | trivial | (simp only [Okv]; omega) | (simp [Okv]; try omega)) (fun ρ12 a_ρ12 q_ρ12 => ?_)
          refine y_vret hK rfl dX1_addShare_68 ?_
          exact k _ (((g_ρ6).al a_ρ8 (by first | (simp; done) | omega | (simp; omega))).al a_ρ12 (by first | (simp; done) | omega | (simp; omega))) (by have hq := ((a_ρ12 _ _ _ (by first | exact xs_ (by decide) | exact xc_ (by decide) | omega)).trans q_ρ8); have hi := i0_15; rw [show w4 = (0 : Int) from by omega, gcd_z (by omega)] at hi; omega) (by have hq := q_ρ12; (repeat' split) <;> omega)
      · refine r_iload hC dX1_addShare_19 rfl ?_
        refine r_sipush hC dX1_addShare_21 rfl ?_
        refine r_icmp_gt (tgt := 43) hC dX1_addShare_24 rfl (fun h13 => ?_) (fun h13 => ?_)
        · refine r_aload_n hC dX1_addShare_43 rfl ?_
          refine z_getR hM dX1_addShare_44 fl_RX1_24 rfl rfl (vld_of (n := 1) rfl (by omega) (by omega)) ?_
          refine r_iconst hC dX1_addShare_47 rfl ?_
          refine r_iload_n hC dX1_addShare_48 rfl ?_
          refine z_iastG hM dX1_addShare_49 rfl (by omega) (by omega) (by simp [Tl, DL, DF]) (by first | trivial | (simp only [Okv]; omega) | (simp [Okv]; try omega)) (fun ρ14 a_ρ14 q_ρ14 => ?_)
          refine r_aload_n hC dX1_addShare_50 rfl ?_
          refine z_getR hM dX1_addShare_51 fl_RX1_24 rfl rfl (vld_of (n := 1) rfl (by omega) (by omega)) ?_
          refine r_iconst hC dX1_addShare_54 rfl ?_
          refine r_dup2 hC dX1_addShare_55 rfl rfl ?_
          refine z_iald hM dX1_addShare_56 rfl (by omega) (by omega) (fun v15 h_v15 o_v15 t_v15 => ?_)
          have e_v15 : n1 = v15 := ((t_v15 ((by simp [Tk, Tb, DL, DF, DX]))).trans ((a_ρ14 _ _ _ (by first | exact xs_ (by decide) | exact xc_ (by decide) | omega)).trans q1_ρ6)).symm
          clear t_v15
          subst e_v15
          refine r_iload_n hC dX1_addShare_57 rfl ?_
          refine r_if_eq (tgt := 65) hC dX1_addShare_58 rfl (fun h16 => ?_) (fun h16 => ?_)
          · refine r_iconst hC dX1_addShare_65 rfl ?_
            refine r_iaddE hC (n1) dX1_addShare_66 (by omega) (by unfold inR; omega) ?_
            refine z_iastG hM dX1_addShare_67 rfl (by omega) (by omega) (by simp [Tl, DL, DF]) (by first | trivial | (simp only [Okv]; omega) | (simp [Okv]; try omega)) (fun ρ17 a_ρ17 q_ρ17 => ?_)
            refine y_vret hK rfl dX1_addShare_68 ?_
            exact k _ (((g_ρ6).al a_ρ14 (by first | (simp; done) | omega | (simp; omega))).al a_ρ17 (by first | (simp; done) | omega | (simp; omega))) (by have hq := ((a_ρ17 _ _ _ (by first | exact xs_ (by decide) | exact xc_ (by decide) | omega)).trans q_ρ14); have hi := i0_15; rw [show w4 = (0 : Int) from by omega, gcd_z (by omega)] at hi; omega) (by have hq := q_ρ17; (repeat' split) <;> omega)
          · refine r_iconst hC dX1_addShare_61 rfl ?_
            refine r_goto (tgt := 66) hC dX1_addShare_62 rfl ?_
            refine r_iaddE hC ((n1 + 1)) dX1_addShare_66 (by omega) (by unfold inR; omega) ?_
            refine z_iastG hM dX1_addShare_67 rfl (by omega) (by omega) (by simp [Tl, DL, DF]) (by first | trivial | (simp only [Okv]; omega) | (simp [Okv]; try omega)) (fun ρ18 a_ρ18 q_ρ18 => ?_)
            refine y_vret hK rfl dX1_addShare_68 ?_
            exact k _ (((g_ρ6).al a_ρ14 (by first | (simp; done) | omega | (simp; omega))).al a_ρ18 (by first | (simp; done) | omega | (simp; omega))) (by have hq := ((a_ρ18 _ _ _ (by first | exact xs_ (by decide) | exact xc_ (by decide) | omega)).trans q_ρ14); have hi := i0_15; rw [show w4 = (0 : Int) from by omega, gcd_z (by omega)] at hi; omega) (by have hq := q_ρ18; (repeat' split) <;> omega)
        · refine r_iload_n hC dX1_addShare_27 rfl ?_
          refine r_iload_n hC dX1_addShare_28 rfl ?_
          refine r_iremN hC dX1_addShare_29 (by omega) (by omega) ?_
          have f_v19 := emod_fr (a := w3) (b := w4) (by omega)
          refine r_istore hC dX1_addShare_30 rfl ?_
          refine r_iload_n hC dX1_addShare_32 rfl ?_
          refine r_istore_n hC dX1_addShare_33 rfl ?_
          refine r_iload hC dX1_addShare_34 rfl ?_
          refine r_istore_n hC dX1_addShare_36 rfl ?_
          show K _ [_, _, _, _, _, _] _ _
          refine r_iincE hC ((w5 + 1)) dX1_addShare_37 rfl rfl (by omega) (by unfold inR; omega) ?_
          refine r_goto (tgt := 15) hC dX1_addShare_40 rfl ?_
          refine r_forget hC (ls2 := [some (vR 14 0), some (vI v), some (vI w4), some (vI (w3 % w4)), some (vI (w5 + 1)), none]) (lsub_some (lsub_some (lsub_some (lsub_some (lsub_some (lsub_none lsub_nil)))))) ?_
          exact ih15 (w4) ((w3 % w4)) ((w5 + 1)) ρ6 (by omega) (by omega) (by omega) (by first | exact congrArg _ (gcd_ab (by omega)) | (rw [gcd_st (by omega) (by omega)]; exact i0_15)) (by omega) (by omega) (g_ρ6) (by have hq := q0_ρ6; omega) (by have hq := q1_ρ6; omega) 
  exact L15 1003 (n0) (v2) (0) σ (by omega) (by omega) (by omega) (by first | exact congrArg _ (gcd_ab (by omega)) | (rw [gcd_st (by omega) (by omega)]; exact i0_15)) (by omega) (by omega) (Gx.rf) (by have hq := qg0; omega) (by have hq := qg1; omega) 
theorem x_addLine {eb : Bool} {d : Nat} {P : Option Vl → Mm → Prop} {σ : Mm} {v n0 n1 : Int} (b_v : -1000 ≤ v ∧ v ≤ 1000) (b_n0 : 0 ≤ n0 ∧ n0 ≤ 996) (qg0 : σ 17 0 0 = n0) (b_n1 : 0 ≤ n1 ∧ n1 ≤ 996) (qg1 : σ 17 0 1 = n1)  (k : ∀ ρ : Mm, Gx (fun c x y => c = 17 ∧ x = 0 ∨ c = 14 ∧ x = 0 ∧ y = 7) σ ρ → ρ 17 0 0 = (v % 997 * n0 % 997) → ρ 17 0 1 = ((v % 997 * n1 + (7 * v + 1) % 997) % 997) → P none ρ) : WT (true, true, eb) (d + 2) 17 [vR 14 0, vI v] σ P := by
  refine WT_in fun K hK => ?_
  have hK : StpY (true, true, eb) cX1_addLine RX1 (none) (WT (true, true, eb) (d + 1)) P K := hK
  have hM := hK.1
  have hC := hK.1.1
  show K 0 [some (vR 14 0), some (vI v), none, none] [] σ
  refine r_iload_n hC dX1_addLine_0 rfl ?_
  refine r_sipush hC dX1_addLine_1 rfl ?_
  refine z_ins2 hM dX1_addLine_4 tl_RX1_93 rfl (Nat.le_of_ble_eq_true rfl) (Nat.le_of_ble_eq_true rfl) ?_
  refine x_floorMod (by omega) (fun h1 => ?_)
  refine r_istore_n hC dX1_addLine_7 rfl ?_
  refine r_bipush hC dX1_addLine_8 rfl ?_
  refine r_iload_n hC dX1_addLine_10 rfl ?_
  refine r_imulE hC ((7 * v)) dX1_addLine_11 (by omega) (by unfold inR; omega) ?_
  refine r_iconst hC dX1_addLine_12 rfl ?_
  refine r_iaddE hC (((7 * v) + 1)) dX1_addLine_13 (by omega) (by unfold inR; omega) ?_
  refine r_sipush hC dX1_addLine_14 rfl ?_
  refine z_ins2 hM dX1_addLine_17 tl_RX1_93 rfl (Nat.le_of_ble_eq_true rfl) (Nat.le_of_ble_eq_true rfl) ?_
  refine x_floorMod (by omega) (fun h2 => ?_)
  refine r_istore_n hC dX1_addLine_20 rfl ?_
  refine r_aload_n hC dX1_addLine_21 rfl ?_
  refine z_getR hM dX1_addLine_22 fl_RX1_24 rfl rfl (vld_of (n := 1) rfl (by omega) (by omega)) ?_
  refine r_iconst hC dX1_addLine_25 rfl ?_
  refine r_iload_n hC dX1_addLine_26 rfl ?_
  refine r_aload_n hC dX1_addLine_27 rfl ?_
  refine z_getR hM dX1_addLine_28 fl_RX1_24 rfl rfl (vld_of (n := 1) rfl (by omega) (by omega)) ?_
  refine r_iconst hC dX1_addLine_31 rfl ?_
  refine z_iald hM dX1_addLine_32 rfl (by omega) (by omega) (fun v3 h_v3 o_v3 t_v3 => ?_)
  have e_v3 : n0 = v3 := ((t_v3 ((by simp [Tk, Tb, DL, DF, DX]))).trans qg0).symm
  clear t_v3
  subst e_v3
  have m4 := mul_nn (a := (v % 997)) (b := n0) (A := 996) (B := 996) (by omega) (by omega) (by omega) (by omega)
  refine r_imulE hC (((v % 997) * n0)) dX1_addLine_33 (by omega) (by unfold inR; omega) ?_
  refine r_sipush hC dX1_addLine_34 rfl ?_
  refine r_iremN hC dX1_addLine_37 (by omega) (by omega) ?_
  refine z_iastG hM dX1_addLine_38 rfl (by omega) (by omega) (by simp [Tl, DL, DF]) (by first | trivial | (simp only [Okv]; omega) | (simp [Okv]; try omega)) (fun ρ5 a_ρ5 q_ρ5 => ?_)
  refine r_aload_n hC dX1_addLine_39 rfl ?_
  refine z_getR hM dX1_addLine_40 fl_RX1_24 rfl rfl (vld_of (n := 1) rfl (by omega) (by omega)) ?_
  refine r_iconst hC dX1_addLine_43 rfl ?_
  refine r_iload_n hC dX1_addLine_44 rfl ?_
  refine r_aload_n hC dX1_addLine_45 rfl ?_
  refine z_getR hM dX1_addLine_46 fl_RX1_24 rfl rfl (vld_of (n := 1) rfl (by omega) (by omega)) ?_
  refine r_iconst hC dX1_addLine_49 rfl ?_
  refine z_iald hM dX1_addLine_50 rfl (by omega) (by omega) (fun v6 h_v6 o_v6 t_v6 => ?_)
  have e_v6 : n1 = v6 := ((t_v6 ((by simp [Tk, Tb, DL, DF, DX]))).trans ((a_ρ5 _ _ _ (by first | exact xs_ (by decide) | exact xc_ (by decide) | omega)).trans qg1)).symm
  clear t_v6
  subst e_v6
  have m7 := mul_nn (a := (v % 997)) (b := n1) (A := 996) (B := 996) (by omega) (by omega) (by omega) (by omega)
  refine r_imulE hC (((v % 997) * n1)) dX1_addLine_51 (by omega) (by unfold inR; omega) ?_
  refine r_iload_n hC dX1_addLine_52 rfl ?_
  refine r_iaddE hC ((((v % 997) * n1) + (((7 * v) + 1) % 997))) dX1_addLine_53 (by omega) (by unfold inR; omega) ?_
  refine r_sipush hC dX1_addLine_54 rfl ?_
  refine r_iremN hC dX1_addLine_57 (by omega) (by omega) ?_
  refine z_iastG hM dX1_addLine_58 rfl (by omega) (by omega) (by simp [Tl, DL, DF]) (by first | trivial | (simp only [Okv]; omega) | (simp [Okv]; try omega)) (fun ρ8 a_ρ8 q_ρ8 => ?_)
  refine y_vret hK rfl dX1_addLine_59 ?_
  exact k _ (((Gx.rf).al a_ρ5 (by first | (simp; done) | omega | (simp; omega))).al a_ρ8 (by first | (simp; done) | omega | (simp; omega))) (by have hq := ((a_ρ8 _ _ _ (by first | exact xs_ (by decide) | exact xc_ (by decide) | omega)).trans q_ρ5); exact hq) (by have hq := q_ρ8; exact hq)
theorem x_addRun {eb : Bool} {d : Nat} {P : Option Vl → Mm → Prop} {σ : Mm} {v n0 n1 n2 n3 n : Int} (b_v : -1000 ≤ v ∧ v ≤ 1000) (b_n0 : -300000 ≤ n0 ∧ n0 ≤ 300000) (qg0 : σ 17 0 0 = n0) (b_n1 : -300000 ≤ n1 ∧ n1 ≤ 300000) (qg1 : σ 17 0 1 = n1) (b_n2 : -300000 ≤ n2 ∧ n2 ≤ 300000) (qg2 : σ 17 0 2 = n2) (b_n3 : -300000 ≤ n3 ∧ n3 ≤ 300000) (qg3 : σ 17 0 3 = n3) (b_n : 0 ≤ n ∧ n ≤ 1000) (qg4 : σ 14 0 6 = n)  (k : ∀ ρ : Mm, Gx (fun c x y => c = 17 ∧ x = 0 ∨ c = 14 ∧ x = 0 ∧ y = 7) σ ρ → ρ 17 0 1 = (n1 + v) → ρ 17 0 2 = (if n = 0 then v else max n2 (n1 + v)) → ρ 17 0 3 = (if n = 0 then v else max (n3 + v) v) → ρ 17 0 0 = (if n = 0 then v else max n0 (max (n3 + v) v)) → P none ρ) : WT (true, true, eb) (d + 2) 18 [vR 14 0, vI v] σ P := by
  refine WT_in fun K hK => ?_
  have hK : StpY (true, true, eb) cX1_addRun RX1 (none) (WT (true, true, eb) (d + 1)) P K := hK
  have hM := hK.1
  have hC := hK.1.1
  show K 0 [some (vR 14 0), some (vI v), none] [] σ
  refine r_aload_n hC dX1_addRun_0 rfl ?_
  refine z_getI (jz := 6) hM dX1_addRun_1 fl_RX1_34 rfl rfl rfl (fun v1 h_v1 o_v1 t_v1 => ?_)
  have e_v1 : n = v1 := ((t_v1 ((by simp [Tk, Tb, DL, DF, DX]))).trans qg4).symm
  clear t_v1
  subst e_v1
  refine r_if_ne (tgt := 11) hC dX1_addRun_4 rfl (fun h2 => ?_) (fun h2 => ?_)
  · refine r_iconst hC dX1_addRun_11 rfl ?_
    refine r_istore_n hC dX1_addRun_12 rfl ?_
    refine r_aload_n hC dX1_addRun_13 rfl ?_
    refine z_getR hM dX1_addRun_14 fl_RX1_24 rfl rfl (vld_of (n := 1) rfl (by omega) (by omega)) ?_
    refine r_iconst hC dX1_addRun_17 rfl ?_
    refine r_dup2 hC dX1_addRun_18 rfl rfl ?_
    refine z_iald hM dX1_addRun_19 rfl (by omega) (by omega) (fun v3 h_v3 o_v3 t_v3 => ?_)
    have e_v3 : n1 = v3 := ((t_v3 ((by simp [Tk, Tb, DL, DF, DX]))).trans qg1).symm
    clear t_v3
    subst e_v3
    refine r_iload_n hC dX1_addRun_20 rfl ?_
    refine r_iaddE hC ((n1 + v)) dX1_addRun_21 (by omega) (by unfold inR; omega) ?_
    refine z_iastG hM dX1_addRun_22 rfl (by omega) (by omega) (by simp [Tl, DL, DF]) (by first | trivial | (simp only [Okv]; omega) | (simp [Okv]; try omega)) (fun ρ4 a_ρ4 q_ρ4 => ?_)
    refine r_aload_n hC dX1_addRun_23 rfl ?_
    refine z_getR hM dX1_addRun_24 fl_RX1_24 rfl rfl (vld_of (n := 1) rfl (by omega) (by omega)) ?_
    refine r_iconst hC dX1_addRun_27 rfl ?_
    refine r_iload_n hC dX1_addRun_28 rfl ?_
    refine r_if_eq (tgt := 36) hC dX1_addRun_29 rfl (fun h5 => ?_) (fun h5 => by omega)
    refine r_aload_n hC dX1_addRun_36 rfl ?_
    refine z_getR hM dX1_addRun_37 fl_RX1_24 rfl rfl (vld_of (n := 1) rfl (by omega) (by omega)) ?_
    refine r_iconst hC dX1_addRun_40 rfl ?_
    refine z_iald hM dX1_addRun_41 rfl (by omega) (by omega) (fun v6 h_v6 o_v6 t_v6 => ?_)
    have e_v6 : n2 = v6 := ((t_v6 ((by simp [Tk, Tb, DL, DF, DX]))).trans ((a_ρ4 _ _ _ (by first | exact xs_ (by decide) | exact xc_ (by decide) | omega)).trans qg2)).symm
    clear t_v6
    subst e_v6
    refine r_aload_n hC dX1_addRun_42 rfl ?_
    refine z_getR hM dX1_addRun_43 fl_RX1_24 rfl rfl (vld_of (n := 1) rfl (by omega) (by omega)) ?_
    refine r_iconst hC dX1_addRun_46 rfl ?_
    refine z_iald hM dX1_addRun_47 rfl (by omega) (by omega) (fun v7 h_v7 o_v7 t_v7 => ?_)
    have e_v7 : (n1 + v) = v7 := ((t_v7 ((by simp [Tk, Tb, DL, DF, DX]))).trans q_ρ4).symm
    clear t_v7
    subst e_v7
    refine z_ins2 hM dX1_addRun_48 tl_RX1_97 rfl (Nat.le_of_ble_eq_true rfl) (Nat.le_of_ble_eq_true rfl) ?_
    refine x_max (fun v8 h_v8 => ?_)
    refine z_iastG hM dX1_addRun_51 rfl (by omega) (by omega) (by simp [Tl, DL, DF]) (by first | trivial | (simp only [Okv]; omega) | (simp [Okv]; try omega)) (fun ρ9 a_ρ9 q_ρ9 => ?_)
    refine r_aload_n hC dX1_addRun_52 rfl ?_
    refine z_getR hM dX1_addRun_53 fl_RX1_24 rfl rfl (vld_of (n := 1) rfl (by omega) (by omega)) ?_
    refine r_iconst hC dX1_addRun_56 rfl ?_
    refine r_iload_n hC dX1_addRun_57 rfl ?_
    refine r_if_eq (tgt := 65) hC dX1_addRun_58 rfl (fun h10 => ?_) (fun h10 => by omega)
    refine r_aload_n hC dX1_addRun_65 rfl ?_
    refine z_getR hM dX1_addRun_66 fl_RX1_24 rfl rfl (vld_of (n := 1) rfl (by omega) (by omega)) ?_
    refine r_iconst hC dX1_addRun_69 rfl ?_
    refine z_iald hM dX1_addRun_70 rfl (by omega) (by omega) (fun v11 h_v11 o_v11 t_v11 => ?_)
    have e_v11 : n3 = v11 := ((t_v11 ((by simp [Tk, Tb, DL, DF, DX]))).trans ((a_ρ9 _ _ _ (by first | exact xs_ (by decide) | exact xc_ (by decide) | omega)).trans ((a_ρ4 _ _ _ (by first | exact xs_ (by decide) | exact xc_ (by decide) | omega)).trans qg3))).symm
    clear t_v11
    subst e_v11
    refine r_iload_n hC dX1_addRun_71 rfl ?_
    refine r_iaddE hC ((n3 + v)) dX1_addRun_72 (by omega) (by unfold inR; omega) ?_
    refine r_iload_n hC dX1_addRun_73 rfl ?_
    refine z_ins2 hM dX1_addRun_74 tl_RX1_97 rfl (Nat.le_of_ble_eq_true rfl) (Nat.le_of_ble_eq_true rfl) ?_
    refine x_max (fun v12 h_v12 => ?_)
    refine z_iastG hM dX1_addRun_77 rfl (by omega) (by omega) (by simp [Tl, DL, DF]) (by first | trivial | (simp only [Okv]; omega) | (simp [Okv]; try omega)) (fun ρ13 a_ρ13 q_ρ13 => ?_)
    refine r_aload_n hC dX1_addRun_78 rfl ?_
    refine z_getR hM dX1_addRun_79 fl_RX1_24 rfl rfl (vld_of (n := 1) rfl (by omega) (by omega)) ?_
    refine r_iconst hC dX1_addRun_82 rfl ?_
    refine r_iload_n hC dX1_addRun_83 rfl ?_
    refine r_if_eq (tgt := 91) hC dX1_addRun_84 rfl (fun h14 => ?_) (fun h14 => by omega)
    refine r_aload_n hC dX1_addRun_91 rfl ?_
    refine z_getR hM dX1_addRun_92 fl_RX1_24 rfl rfl (vld_of (n := 1) rfl (by omega) (by omega)) ?_
    refine r_iconst hC dX1_addRun_95 rfl ?_
    refine z_iald hM dX1_addRun_96 rfl (by omega) (by omega) (fun v15 h_v15 o_v15 t_v15 => ?_)
    have e_v15 : n0 = v15 := ((t_v15 ((by simp [Tk, Tb, DL, DF, DX]))).trans ((a_ρ13 _ _ _ (by first | exact xs_ (by decide) | exact xc_ (by decide) | omega)).trans ((a_ρ9 _ _ _ (by first | exact xs_ (by decide) | exact xc_ (by decide) | omega)).trans ((a_ρ4 _ _ _ (by first | exact xs_ (by decide) | exact xc_ (by decide) | omega)).trans qg0)))).symm
    clear t_v15
    subst e_v15
    refine r_aload_n hC dX1_addRun_97 rfl ?_
    refine z_getR hM dX1_addRun_98 fl_RX1_24 rfl rfl (vld_of (n := 1) rfl (by omega) (by omega)) ?_
    refine r_iconst hC dX1_addRun_101 rfl ?_
    refine z_iald hM dX1_addRun_102 rfl (by omega) (by omega) (fun v16 h_v16 o_v16 t_v16 => ?_)
    have e_v16 : v12 = v16 := ((t_v16 ((by simp [Tk, Tb, DL, DF, DX]))).trans q_ρ13).symm
    clear t_v16
    subst e_v16
    refine z_ins2 hM dX1_addRun_103 tl_RX1_97 rfl (Nat.le_of_ble_eq_true rfl) (Nat.le_of_ble_eq_true rfl) ?_
    refine x_max (fun v17 h_v17 => ?_)
    refine z_iastG hM dX1_addRun_106 rfl (by omega) (by omega) (by simp [Tl, DL, DF]) (by first | trivial | (simp only [Okv]; omega) | (simp [Okv]; try omega)) (fun ρ18 a_ρ18 q_ρ18 => ?_)
    refine y_vret hK rfl dX1_addRun_107 ?_
    exact k _ (((((Gx.rf).al a_ρ4 (by first | (simp; done) | omega | (simp; omega))).al a_ρ9 (by first | (simp; done) | omega | (simp; omega))).al a_ρ13 (by first | (simp; done) | omega | (simp; omega))).al a_ρ18 (by first | (simp; done) | omega | (simp; omega))) (by have hq := ((a_ρ18 _ _ _ (by first | exact xs_ (by decide) | exact xc_ (by decide) | omega)).trans ((a_ρ13 _ _ _ (by first | exact xs_ (by decide) | exact xc_ (by decide) | omega)).trans ((a_ρ9 _ _ _ (by first | exact xs_ (by decide) | exact xc_ (by decide) | omega)).trans q_ρ4))); (repeat' split) <;> omega) (by have hq := ((a_ρ18 _ _ _ (by first | exact xs_ (by decide) | exact xc_ (by decide) | omega)).trans ((a_ρ13 _ _ _ (by first | exact xs_ (by decide) | exact xc_ (by decide) | omega)).trans q_ρ9)); (repeat' split) <;> omega) (by have hq := ((a_ρ18 _ _ _ (by first | exact xs_ (by decide) | exact xc_ (by decide) | omega)).trans q_ρ13); (repeat' split) <;> omega) (by have hq := q_ρ18; (repeat' split) <;> omega)
  · refine r_iconst hC dX1_addRun_7 rfl ?_
    refine r_goto (tgt := 12) hC dX1_addRun_8 rfl ?_
    refine r_istore_n hC dX1_addRun_12 rfl ?_
    refine r_aload_n hC dX1_addRun_13 rfl ?_
    refine z_getR hM dX1_addRun_14 fl_RX1_24 rfl rfl (vld_of (n := 1) rfl (by omega) (by omega)) ?_
    refine r_iconst hC dX1_addRun_17 rfl ?_
    refine r_dup2 hC dX1_addRun_18 rfl rfl ?_
    refine z_iald hM dX1_addRun_19 rfl (by omega) (by omega) (fun v19 h_v19 o_v19 t_v19 => ?_)
    have e_v19 : n1 = v19 := ((t_v19 ((by simp [Tk, Tb, DL, DF, DX]))).trans qg1).symm
    clear t_v19
    subst e_v19
    refine r_iload_n hC dX1_addRun_20 rfl ?_
    refine r_iaddE hC ((n1 + v)) dX1_addRun_21 (by omega) (by unfold inR; omega) ?_
    refine z_iastG hM dX1_addRun_22 rfl (by omega) (by omega) (by simp [Tl, DL, DF]) (by first | trivial | (simp only [Okv]; omega) | (simp [Okv]; try omega)) (fun ρ20 a_ρ20 q_ρ20 => ?_)
    refine r_aload_n hC dX1_addRun_23 rfl ?_
    refine z_getR hM dX1_addRun_24 fl_RX1_24 rfl rfl (vld_of (n := 1) rfl (by omega) (by omega)) ?_
    refine r_iconst hC dX1_addRun_27 rfl ?_
    refine r_iload_n hC dX1_addRun_28 rfl ?_
    refine r_if_eq (tgt := 36) hC dX1_addRun_29 rfl (fun h21 => by omega) (fun h21 => ?_)
    refine r_iload_n hC dX1_addRun_32 rfl ?_
    refine r_goto (tgt := 51) hC dX1_addRun_33 rfl ?_
    refine z_iastG hM dX1_addRun_51 rfl (by omega) (by omega) (by simp [Tl, DL, DF]) (by first | trivial | (simp only [Okv]; omega) | (simp [Okv]; try omega)) (fun ρ22 a_ρ22 q_ρ22 => ?_)
    refine r_aload_n hC dX1_addRun_52 rfl ?_
    refine z_getR hM dX1_addRun_53 fl_RX1_24 rfl rfl (vld_of (n := 1) rfl (by omega) (by omega)) ?_
    refine r_iconst hC dX1_addRun_56 rfl ?_
    refine r_iload_n hC dX1_addRun_57 rfl ?_
    refine r_if_eq (tgt := 65) hC dX1_addRun_58 rfl (fun h23 => by omega) (fun h23 => ?_)
    refine r_iload_n hC dX1_addRun_61 rfl ?_
    refine r_goto (tgt := 77) hC dX1_addRun_62 rfl ?_
    refine z_iastG hM dX1_addRun_77 rfl (by omega) (by omega) (by simp [Tl, DL, DF]) (by first | trivial | (simp only [Okv]; omega) | (simp [Okv]; try omega)) (fun ρ24 a_ρ24 q_ρ24 => ?_)
    refine r_aload_n hC dX1_addRun_78 rfl ?_
    refine z_getR hM dX1_addRun_79 fl_RX1_24 rfl rfl (vld_of (n := 1) rfl (by omega) (by omega)) ?_
    refine r_iconst hC dX1_addRun_82 rfl ?_
    refine r_iload_n hC dX1_addRun_83 rfl ?_
    refine r_if_eq (tgt := 91) hC dX1_addRun_84 rfl (fun h25 => by omega) (fun h25 => ?_)
    refine r_iload_n hC dX1_addRun_87 rfl ?_
    refine r_goto (tgt := 106) hC dX1_addRun_88 rfl ?_
    refine z_iastG hM dX1_addRun_106 rfl (by omega) (by omega) (by simp [Tl, DL, DF]) (by first | trivial | (simp only [Okv]; omega) | (simp [Okv]; try omega)) (fun ρ26 a_ρ26 q_ρ26 => ?_)
    refine y_vret hK rfl dX1_addRun_107 ?_
    exact k _ (((((Gx.rf).al a_ρ20 (by first | (simp; done) | omega | (simp; omega))).al a_ρ22 (by first | (simp; done) | omega | (simp; omega))).al a_ρ24 (by first | (simp; done) | omega | (simp; omega))).al a_ρ26 (by first | (simp; done) | omega | (simp; omega))) (by have hq := ((a_ρ26 _ _ _ (by first | exact xs_ (by decide) | exact xc_ (by decide) | omega)).trans ((a_ρ24 _ _ _ (by first | exact xs_ (by decide) | exact xc_ (by decide) | omega)).trans ((a_ρ22 _ _ _ (by first | exact xs_ (by decide) | exact xc_ (by decide) | omega)).trans q_ρ20))); (repeat' split) <;> omega) (by have hq := ((a_ρ26 _ _ _ (by first | exact xs_ (by decide) | exact xc_ (by decide) | omega)).trans ((a_ρ24 _ _ _ (by first | exact xs_ (by decide) | exact xc_ (by decide) | omega)).trans q_ρ22)); (repeat' split) <;> omega) (by have hq := ((a_ρ26 _ _ _ (by first | exact xs_ (by decide) | exact xc_ (by decide) | omega)).trans q_ρ24); (repeat' split) <;> omega) (by have hq := q_ρ26; (repeat' split) <;> omega)
theorem x_addLetter {eb : Bool} {d : Nat} {P : Option Vl → Mm → Prop} {σ : Mm} {v n0 n1 n2 n3 n4 : Int} (b_v : -1000 ≤ v ∧ v ≤ 1000) (b_n0 : 0 ≤ n0 ∧ n0 ≤ 3) (qg0 : σ 17 0 0 = n0) (b_n1 : 0 ≤ n1 ∧ n1 ≤ 3) (qg1 : σ 17 0 1 = n1) (b_n2 : 0 ≤ n2 ∧ n2 ≤ 3) (qg2 : σ 17 0 2 = n2) (b_n3 : 0 ≤ n3 ∧ n3 ≤ 3) (qg3 : σ 17 0 3 = n3) (qg4 : σ 17 0 4 = n4)  (k : ∀ ρ : Mm, Gx (fun c x y => c = 17 ∧ x = 0 ∨ c = 14 ∧ x = 0 ∧ y = 7) σ ρ → ρ 17 0 0 = (lnx (σ 16 0) v n0) → ρ 17 0 1 = (lnx (σ 16 0) v n1) → ρ 17 0 2 = (lnx (σ 16 0) v n2) → ρ 17 0 3 = (lnx (σ 16 0) v n3) → ρ 17 0 4 = (apt (lnx (σ 16 0) v n0) (lnx (σ 16 0) v n1) (lnx (σ 16 0) v n2) (lnx (σ 16 0) v n3)) → P none ρ) : WT (true, true, eb) (d + 2) 19 [vR 14 0, vI v] σ P := by
  refine WT_in fun K hK => ?_
  have hK : StpY (true, true, eb) cX1_addLetter RX1 (none) (WT (true, true, eb) (d + 1)) P K := hK
  have hM := hK.1
  have hC := hK.1.1
  show K 0 [some (vR 14 0), some (vI v), none, none, none] [] σ
  refine r_aload_n hC dX1_addLetter_0 rfl ?_
  refine z_getR hM dX1_addLetter_1 fl_RX1_15 rfl rfl (vld_of (n := 1) rfl (by omega) (by omega)) ?_
  refine r_iload_n hC dX1_addLetter_4 rfl ?_
  refine r_bipush hC dX1_addLetter_5 rfl ?_
  refine z_ins2 hM dX1_addLetter_7 tl_RX1_93 rfl (Nat.le_of_ble_eq_true rfl) (Nat.le_of_ble_eq_true rfl) ?_
  refine x_floorMod (by omega) (fun h1 => ?_)
  refine z_iald hM dX1_addLetter_10 rfl (by omega) (by omega) (fun v2 h_v2 o_v2 t_v2 => ?_)
  have w_v2 := t_v2 (Or.inl trivial)
  clear t_v2
  subst w_v2
  refine r_istore_n hC dX1_addLetter_11 rfl ?_
  refine r_iconst hC dX1_addLetter_12 rfl ?_
  refine r_istore_n hC dX1_addLetter_13 rfl ?_
  refine r_iconst hC dX1_addLetter_14 rfl ?_
  refine r_istore hC dX1_addLetter_15 rfl ?_
  show K _ [_, _, _, _, _] _ _
  refine r_iload hC dX1_addLetter_17 rfl ?_
  refine r_iconst hC dX1_addLetter_19 rfl ?_
  refine r_icmp_ge (tgt := 61) hC dX1_addLetter_20 rfl (fun h3 => by omega) (fun h3 => ?_)
  refine r_aload_n hC dX1_addLetter_23 rfl ?_
  refine z_getR hM dX1_addLetter_24 fl_RX1_24 rfl rfl (vld_of (n := 1) rfl (by omega) (by omega)) ?_
  refine r_iload hC dX1_addLetter_27 rfl ?_
  refine r_iload_n hC dX1_addLetter_29 rfl ?_
  refine r_iconst hC dX1_addLetter_30 rfl ?_
  refine r_aload_n hC dX1_addLetter_31 rfl ?_
  refine z_getR hM dX1_addLetter_32 fl_RX1_24 rfl rfl (vld_of (n := 1) rfl (by omega) (by omega)) ?_
  refine r_iload hC dX1_addLetter_35 rfl ?_
  refine z_iald hM dX1_addLetter_37 rfl (by omega) (by omega) (fun v4 h_v4 o_v4 t_v4 => ?_)
  have e_v4 : n0 = v4 := ((t_v4 ((by simp [Tk, Tb, DL, DF, DX]))).trans qg0).symm
  clear t_v4
  subst e_v4
  refine r_imulE hC ((2 * n0)) dX1_addLetter_38 (by omega) (by unfold inR; omega) ?_
  refine r_ishr hC dX1_addLetter_39 ?_
  have f_v5 := ishr_fr (σ 16 0 (v % 8)) (2 * n0)
  refine r_iconst hC dX1_addLetter_40 rfl ?_
  refine r_iand hC dX1_addLetter_41 ?_
  have f_v6 := iand_rng (a := (ishr (σ 16 0 (v % 8)) (2 * n0))) (b := 3) (by omega) (inR_lit rfl)
  refine z_iastG hM dX1_addLetter_42 rfl (by omega) (by omega) (by simp [Tl, DL, DF]) (by first | trivial | (simp only [Okv]; omega) | (simp [Okv]; try omega)) (fun ρ7 a_ρ7 q_ρ7 => ?_)
  refine r_iload_n hC dX1_addLetter_43 rfl ?_
  refine r_iconst hC dX1_addLetter_44 rfl ?_
  refine r_aload_n hC dX1_addLetter_45 rfl ?_
  refine z_getR hM dX1_addLetter_46 fl_RX1_24 rfl rfl (vld_of (n := 1) rfl (by omega) (by omega)) ?_
  refine r_iload hC dX1_addLetter_49 rfl ?_
  refine z_iald hM dX1_addLetter_51 rfl (by omega) (by omega) (fun v8 h_v8 o_v8 t_v8 => ?_)
  have e_v8 : (iand (ishr (σ 16 0 (v % 8)) (2 * n0)) 3) = v8 := ((t_v8 ((by simp [Tk, Tb, DL, DF, DX]))).trans q_ρ7).symm
  clear t_v8
  subst e_v8
  refine r_ishl hC dX1_addLetter_52 ?_
  have f_v9 := ishl_fr 1 (iand (ishr (σ 16 0 (v % 8)) (2 * n0)) 3)
  refine r_ior hC dX1_addLetter_53 ?_
  have f_v10 := ior_fr 0 (ishl 1 (iand (ishr (σ 16 0 (v % 8)) (2 * n0)) 3))
  refine r_istore_n hC dX1_addLetter_54 rfl ?_
  refine r_iincE hC (1) dX1_addLetter_55 rfl rfl (by omega) (by unfold inR; omega) ?_
  refine r_goto (tgt := 17) hC dX1_addLetter_58 rfl ?_
  refine r_iload hC dX1_addLetter_17 rfl ?_
  refine r_iconst hC dX1_addLetter_19 rfl ?_
  refine r_icmp_ge (tgt := 61) hC dX1_addLetter_20 rfl (fun h11 => by omega) (fun h11 => ?_)
  refine r_aload_n hC dX1_addLetter_23 rfl ?_
  refine z_getR hM dX1_addLetter_24 fl_RX1_24 rfl rfl (vld_of (n := 1) rfl (by omega) (by omega)) ?_
  refine r_iload hC dX1_addLetter_27 rfl ?_
  refine r_iload_n hC dX1_addLetter_29 rfl ?_
  refine r_iconst hC dX1_addLetter_30 rfl ?_
  refine r_aload_n hC dX1_addLetter_31 rfl ?_
  refine z_getR hM dX1_addLetter_32 fl_RX1_24 rfl rfl (vld_of (n := 1) rfl (by omega) (by omega)) ?_
  refine r_iload hC dX1_addLetter_35 rfl ?_
  refine z_iald hM dX1_addLetter_37 rfl (by omega) (by omega) (fun v12 h_v12 o_v12 t_v12 => ?_)
  have e_v12 : n1 = v12 := ((t_v12 ((by simp [Tk, Tb, DL, DF, DX]))).trans ((a_ρ7 _ _ _ (by first | exact xs_ (by decide) | exact xc_ (by decide) | omega)).trans qg1)).symm
  clear t_v12
  subst e_v12
  refine r_imulE hC ((2 * n1)) dX1_addLetter_38 (by omega) (by unfold inR; omega) ?_
  refine r_ishr hC dX1_addLetter_39 ?_
  have f_v13 := ishr_fr (σ 16 0 (v % 8)) (2 * n1)
  refine r_iconst hC dX1_addLetter_40 rfl ?_
  refine r_iand hC dX1_addLetter_41 ?_
  have f_v14 := iand_rng (a := (ishr (σ 16 0 (v % 8)) (2 * n1))) (b := 3) (by omega) (inR_lit rfl)
  refine z_iastG hM dX1_addLetter_42 rfl (by omega) (by omega) (by simp [Tl, DL, DF]) (by first | trivial | (simp only [Okv]; omega) | (simp [Okv]; try omega)) (fun ρ15 a_ρ15 q_ρ15 => ?_)
  refine r_iload_n hC dX1_addLetter_43 rfl ?_
  refine r_iconst hC dX1_addLetter_44 rfl ?_
  refine r_aload_n hC dX1_addLetter_45 rfl ?_
  refine z_getR hM dX1_addLetter_46 fl_RX1_24 rfl rfl (vld_of (n := 1) rfl (by omega) (by omega)) ?_
  refine r_iload hC dX1_addLetter_49 rfl ?_
  refine z_iald hM dX1_addLetter_51 rfl (by omega) (by omega) (fun v16 h_v16 o_v16 t_v16 => ?_)
  have e_v16 : (iand (ishr (σ 16 0 (v % 8)) (2 * n1)) 3) = v16 := ((t_v16 ((by simp [Tk, Tb, DL, DF, DX]))).trans q_ρ15).symm
  clear t_v16
  subst e_v16
  refine r_ishl hC dX1_addLetter_52 ?_
  have f_v17 := ishl_fr 1 (iand (ishr (σ 16 0 (v % 8)) (2 * n1)) 3)
  refine r_ior hC dX1_addLetter_53 ?_
  have f_v18 := ior_fr (ior 0 (ishl 1 (iand (ishr (σ 16 0 (v % 8)) (2 * n0)) 3))) (ishl 1 (iand (ishr (σ 16 0 (v % 8)) (2 * n1)) 3))
  refine r_istore_n hC dX1_addLetter_54 rfl ?_
  show K _ [_, _, _, _, _] _ _
  refine r_iincE hC (2) dX1_addLetter_55 rfl rfl (by omega) (by unfold inR; omega) ?_
  refine r_goto (tgt := 17) hC dX1_addLetter_58 rfl ?_
  refine r_iload hC dX1_addLetter_17 rfl ?_
  refine r_iconst hC dX1_addLetter_19 rfl ?_
  refine r_icmp_ge (tgt := 61) hC dX1_addLetter_20 rfl (fun h19 => by omega) (fun h19 => ?_)
  refine r_aload_n hC dX1_addLetter_23 rfl ?_
  refine z_getR hM dX1_addLetter_24 fl_RX1_24 rfl rfl (vld_of (n := 1) rfl (by omega) (by omega)) ?_
  refine r_iload hC dX1_addLetter_27 rfl ?_
  refine r_iload_n hC dX1_addLetter_29 rfl ?_
  refine r_iconst hC dX1_addLetter_30 rfl ?_
  refine r_aload_n hC dX1_addLetter_31 rfl ?_
  refine z_getR hM dX1_addLetter_32 fl_RX1_24 rfl rfl (vld_of (n := 1) rfl (by omega) (by omega)) ?_
  refine r_iload hC dX1_addLetter_35 rfl ?_
  refine z_iald hM dX1_addLetter_37 rfl (by omega) (by omega) (fun v20 h_v20 o_v20 t_v20 => ?_)
  have e_v20 : n2 = v20 := ((t_v20 ((by simp [Tk, Tb, DL, DF, DX]))).trans ((a_ρ15 _ _ _ (by first | exact xs_ (by decide) | exact xc_ (by decide) | omega)).trans ((a_ρ7 _ _ _ (by first | exact xs_ (by decide) | exact xc_ (by decide) | omega)).trans qg2))).symm
  clear t_v20
  subst e_v20
  refine r_imulE hC ((2 * n2)) dX1_addLetter_38 (by omega) (by unfold inR; omega) ?_
  refine r_ishr hC dX1_addLetter_39 ?_
  have f_v21 := ishr_fr (σ 16 0 (v % 8)) (2 * n2)
  refine r_iconst hC dX1_addLetter_40 rfl ?_
  refine r_iand hC dX1_addLetter_41 ?_
  have f_v22 := iand_rng (a := (ishr (σ 16 0 (v % 8)) (2 * n2))) (b := 3) (by omega) (inR_lit rfl)
  refine z_iastG hM dX1_addLetter_42 rfl (by omega) (by omega) (by simp [Tl, DL, DF]) (by first | trivial | (simp only [Okv]; omega) | (simp [Okv]; try omega)) (fun ρ23 a_ρ23 q_ρ23 => ?_)
  refine r_iload_n hC dX1_addLetter_43 rfl ?_
  refine r_iconst hC dX1_addLetter_44 rfl ?_
  refine r_aload_n hC dX1_addLetter_45 rfl ?_
  refine z_getR hM dX1_addLetter_46 fl_RX1_24 rfl rfl (vld_of (n := 1) rfl (by omega) (by omega)) ?_
  refine r_iload hC dX1_addLetter_49 rfl ?_
  refine z_iald hM dX1_addLetter_51 rfl (by omega) (by omega) (fun v24 h_v24 o_v24 t_v24 => ?_)
  have e_v24 : (iand (ishr (σ 16 0 (v % 8)) (2 * n2)) 3) = v24 := ((t_v24 ((by simp [Tk, Tb, DL, DF, DX]))).trans q_ρ23).symm
  clear t_v24
  subst e_v24
  refine r_ishl hC dX1_addLetter_52 ?_
  have f_v25 := ishl_fr 1 (iand (ishr (σ 16 0 (v % 8)) (2 * n2)) 3)
  refine r_ior hC dX1_addLetter_53 ?_
  have f_v26 := ior_fr (ior (ior 0 (ishl 1 (iand (ishr (σ 16 0 (v % 8)) (2 * n0)) 3))) (ishl 1 (iand (ishr (σ 16 0 (v % 8)) (2 * n1)) 3))) (ishl 1 (iand (ishr (σ 16 0 (v % 8)) (2 * n2)) 3))
  refine r_istore_n hC dX1_addLetter_54 rfl ?_
  refine r_iincE hC (3) dX1_addLetter_55 rfl rfl (by omega) (by unfold inR; omega) ?_
  show K _ [_, _, _, _, _] _ _
  refine r_goto (tgt := 17) hC dX1_addLetter_58 rfl ?_
  refine r_iload hC dX1_addLetter_17 rfl ?_
  refine r_iconst hC dX1_addLetter_19 rfl ?_
  refine r_icmp_ge (tgt := 61) hC dX1_addLetter_20 rfl (fun h27 => by omega) (fun h27 => ?_)
  refine r_aload_n hC dX1_addLetter_23 rfl ?_
  refine z_getR hM dX1_addLetter_24 fl_RX1_24 rfl rfl (vld_of (n := 1) rfl (by omega) (by omega)) ?_
  refine r_iload hC dX1_addLetter_27 rfl ?_
  refine r_iload_n hC dX1_addLetter_29 rfl ?_
  refine r_iconst hC dX1_addLetter_30 rfl ?_
  refine r_aload_n hC dX1_addLetter_31 rfl ?_
  refine z_getR hM dX1_addLetter_32 fl_RX1_24 rfl rfl (vld_of (n := 1) rfl (by omega) (by omega)) ?_
  refine r_iload hC dX1_addLetter_35 rfl ?_
  refine z_iald hM dX1_addLetter_37 rfl (by omega) (by omega) (fun v28 h_v28 o_v28 t_v28 => ?_)
  have e_v28 : n3 = v28 := ((t_v28 ((by simp [Tk, Tb, DL, DF, DX]))).trans ((a_ρ23 _ _ _ (by first | exact xs_ (by decide) | exact xc_ (by decide) | omega)).trans ((a_ρ15 _ _ _ (by first | exact xs_ (by decide) | exact xc_ (by decide) | omega)).trans ((a_ρ7 _ _ _ (by first | exact xs_ (by decide) | exact xc_ (by decide) | omega)).trans qg3)))).symm
  clear t_v28
  subst e_v28
  refine r_imulE hC ((2 * n3)) dX1_addLetter_38 (by omega) (by unfold inR; omega) ?_
  refine r_ishr hC dX1_addLetter_39 ?_
  have f_v29 := ishr_fr (σ 16 0 (v % 8)) (2 * n3)
  refine r_iconst hC dX1_addLetter_40 rfl ?_
  refine r_iand hC dX1_addLetter_41 ?_
  have f_v30 := iand_rng (a := (ishr (σ 16 0 (v % 8)) (2 * n3))) (b := 3) (by omega) (inR_lit rfl)
  refine z_iastG hM dX1_addLetter_42 rfl (by omega) (by omega) (by simp [Tl, DL, DF]) (by first | trivial | (simp only [Okv]; omega) | (simp [Okv]; try omega)) (fun ρ31 a_ρ31 q_ρ31 => ?_)
  refine r_iload_n hC dX1_addLetter_43 rfl ?_
  refine r_iconst hC dX1_addLetter_44 rfl ?_
  refine r_aload_n hC dX1_addLetter_45 rfl ?_
  refine z_getR hM dX1_addLetter_46 fl_RX1_24 rfl rfl (vld_of (n := 1) rfl (by omega) (by omega)) ?_
  refine r_iload hC dX1_addLetter_49 rfl ?_
  refine z_iald hM dX1_addLetter_51 rfl (by omega) (by omega) (fun v32 h_v32 o_v32 t_v32 => ?_)
  have e_v32 : (iand (ishr (σ 16 0 (v % 8)) (2 * n3)) 3) = v32 := ((t_v32 ((by simp [Tk, Tb, DL, DF, DX]))).trans q_ρ31).symm
  clear t_v32
  subst e_v32
  refine r_ishl hC dX1_addLetter_52 ?_
  have f_v33 := ishl_fr 1 (iand (ishr (σ 16 0 (v % 8)) (2 * n3)) 3)
  refine r_ior hC dX1_addLetter_53 ?_
  have f_v34 := ior_fr (ior (ior (ior 0 (ishl 1 (iand (ishr (σ 16 0 (v % 8)) (2 * n0)) 3))) (ishl 1 (iand (ishr (σ 16 0 (v % 8)) (2 * n1)) 3))) (ishl 1 (iand (ishr (σ 16 0 (v % 8)) (2 * n2)) 3))) (ishl 1 (iand (ishr (σ 16 0 (v % 8)) (2 * n3)) 3))
  refine r_istore_n hC dX1_addLetter_54 rfl ?_
  refine r_iincE hC (4) dX1_addLetter_55 rfl rfl (by omega) (by unfold inR; omega) ?_
  refine r_goto (tgt := 17) hC dX1_addLetter_58 rfl ?_
  refine r_iload hC dX1_addLetter_17 rfl ?_
  refine r_iconst hC dX1_addLetter_19 rfl ?_
  refine r_icmp_ge (tgt := 61) hC dX1_addLetter_20 rfl (fun h35 => ?_) (fun h35 => by omega)
  refine r_aload_n hC dX1_addLetter_61 rfl ?_
  refine z_getR hM dX1_addLetter_62 fl_RX1_24 rfl rfl (vld_of (n := 1) rfl (by omega) (by omega)) ?_
  refine r_iconst hC dX1_addLetter_65 rfl ?_
  refine r_iload_n hC dX1_addLetter_66 rfl ?_
  refine z_ins1 hM dX1_addLetter_67 tl_RX1_100 rfl (Nat.le_of_ble_eq_true rfl) (Nat.le_of_ble_eq_true rfl) ?_
  have hE := reach_ok (by omega : 0 ≤ (iand (ishr (σ 16 0 (v % 8)) (2 * n0)) 3) ∧ (iand (ishr (σ 16 0 (v % 8)) (2 * n0)) 3) ≤ 3) (by omega : 0 ≤ (iand (ishr (σ 16 0 (v % 8)) (2 * n1)) 3) ∧ (iand (ishr (σ 16 0 (v % 8)) (2 * n1)) 3) ≤ 3) (by omega : 0 ≤ (iand (ishr (σ 16 0 (v % 8)) (2 * n2)) 3) ∧ (iand (ishr (σ 16 0 (v % 8)) (2 * n2)) 3) ≤ 3) (by omega : 0 ≤ (iand (ishr (σ 16 0 (v % 8)) (2 * n3)) 3) ∧ (iand (ishr (σ 16 0 (v % 8)) (2 * n3)) 3) ≤ 3)
  refine x_bitCount ⟨hE.1, hE.2.1⟩ ?_
  refine z_iastG hM dX1_addLetter_70 rfl (by omega) (by omega) (by simp [Tl, DL, DF]) (by first | trivial | (simp only [Okv]; omega) | (simp [Okv]; try omega)) (fun ρ36 a_ρ36 q_ρ36 => ?_)
  refine y_vret hK rfl dX1_addLetter_71 ?_
  exact k _ ((((((Gx.rf).al a_ρ7 (by first | (simp; done) | omega | (simp; omega))).al a_ρ15 (by first | (simp; done) | omega | (simp; omega))).al a_ρ23 (by first | (simp; done) | omega | (simp; omega))).al a_ρ31 (by first | (simp; done) | omega | (simp; omega))).al a_ρ36 (by first | (simp; done) | omega | (simp; omega))) (by have hq := ((a_ρ36 _ _ _ (by first | exact xs_ (by decide) | exact xc_ (by decide) | omega)).trans ((a_ρ31 _ _ _ (by first | exact xs_ (by decide) | exact xc_ (by decide) | omega)).trans ((a_ρ23 _ _ _ (by first | exact xs_ (by decide) | exact xc_ (by decide) | omega)).trans ((a_ρ15 _ _ _ (by first | exact xs_ (by decide) | exact xc_ (by decide) | omega)).trans q_ρ7)))); exact hq) (by have hq := ((a_ρ36 _ _ _ (by first | exact xs_ (by decide) | exact xc_ (by decide) | omega)).trans ((a_ρ31 _ _ _ (by first | exact xs_ (by decide) | exact xc_ (by decide) | omega)).trans ((a_ρ23 _ _ _ (by first | exact xs_ (by decide) | exact xc_ (by decide) | omega)).trans q_ρ15))); exact hq) (by have hq := ((a_ρ36 _ _ _ (by first | exact xs_ (by decide) | exact xc_ (by decide) | omega)).trans ((a_ρ31 _ _ _ (by first | exact xs_ (by decide) | exact xc_ (by decide) | omega)).trans q_ρ23)); exact hq) (by have hq := ((a_ρ36 _ _ _ (by first | exact xs_ (by decide) | exact xc_ (by decide) | omega)).trans q_ρ31); exact hq) (by have hq := q_ρ36; exact hq.trans hE.2.2)
theorem x_addNest {eb : Bool} {d : Nat} {P : Option Vl → Mm → Prop} {σ : Mm} {v n0 n1 n2 n3 : Int} (b_v : -1000 ≤ v ∧ v ≤ 1000) (b_n0 : 0 ≤ n0 ∧ n0 ≤ 1000) (qg0 : σ 17 0 0 = n0) (b_n1 : 0 ≤ n1 ∧ n1 ≤ 1000) (qg1 : σ 17 0 1 = n1) (b_n2 : 0 ≤ n2 ∧ n2 ≤ 1000) (qg2 : σ 17 0 2 = n2) (b_n3 : -1000 ≤ n3 ∧ n3 ≤ 1000) (qg3 : σ 17 0 3 = n3)  (k : ∀ ρ : Mm, Gx (fun c x y => c = 17 ∧ x = 0 ∨ c = 14 ∧ x = 0 ∧ y = 7) σ ρ → ρ 17 0 0 = (if 0 ≤ v then n0 else if 0 < n1 then n0 else n0 + 1) → ρ 17 0 1 = (if 0 ≤ v then n1 + 1 else if 0 < n1 then n1 - 1 else n1) → ρ 17 0 2 = (if 0 ≤ v then n2 else if 0 < n1 then n2 + 1 else n2) → ρ 17 0 3 = (max n3 ((if 0 ≤ v then n1 + 1 else if 0 < n1 then n1 - 1 else n1) - (if 0 ≤ v then n0 else if 0 < n1 then n0 else n0 + 1))) → P none ρ) : WT (true, true, eb) (d + 2) 20 [vR 14 0, vI v] σ P := by
  refine WT_in fun K hK => ?_
  have hK : StpY (true, true, eb) cX1_addNest RX1 (none) (WT (true, true, eb) (d + 1)) P K := hK
  have hM := hK.1
  have hC := hK.1.1
  show K 0 [some (vR 14 0), some (vI v)] [] σ
  refine r_iload_n hC dX1_addNest_0 rfl ?_
  refine r_if_lt (tgt := 17) hC dX1_addNest_1 rfl (fun h1 => ?_) (fun h1 => ?_)
  · refine r_aload_n hC dX1_addNest_17 rfl ?_
    refine z_getR hM dX1_addNest_18 fl_RX1_24 rfl rfl (vld_of (n := 1) rfl (by omega) (by omega)) ?_
    refine r_iconst hC dX1_addNest_21 rfl ?_
    refine z_iald hM dX1_addNest_22 rfl (by omega) (by omega) (fun v2 h_v2 o_v2 t_v2 => ?_)
    have e_v2 : n1 = v2 := ((t_v2 ((by simp [Tk, Tb, DL, DF, DX]))).trans qg1).symm
    clear t_v2
    subst e_v2
    refine r_if_le (tgt := 49) hC dX1_addNest_23 rfl (fun h3 => ?_) (fun h3 => ?_)
    · refine r_aload_n hC dX1_addNest_49 rfl ?_
      refine z_getR hM dX1_addNest_50 fl_RX1_24 rfl rfl (vld_of (n := 1) rfl (by omega) (by omega)) ?_
      refine r_iconst hC dX1_addNest_53 rfl ?_
      refine r_dup2 hC dX1_addNest_54 rfl rfl ?_
      refine z_iald hM dX1_addNest_55 rfl (by omega) (by omega) (fun v4 h_v4 o_v4 t_v4 => ?_)
      have e_v4 : n0 = v4 := ((t_v4 ((by simp [Tk, Tb, DL, DF, DX]))).trans qg0).symm
      clear t_v4
      subst e_v4
      refine r_iconst hC dX1_addNest_56 rfl ?_
      refine r_iaddE hC ((n0 + 1)) dX1_addNest_57 (by omega) (by unfold inR; omega) ?_
      refine z_iastG hM dX1_addNest_58 rfl (by omega) (by omega) (by simp [Tl, DL, DF]) (by first | trivial | (simp only [Okv]; omega) | (simp [Okv]; try omega)) (fun ρ5 a_ρ5 q_ρ5 => ?_)
      refine r_aload_n hC dX1_addNest_59 rfl ?_
      refine z_getR hM dX1_addNest_60 fl_RX1_24 rfl rfl (vld_of (n := 1) rfl (by omega) (by omega)) ?_
      refine r_iconst hC dX1_addNest_63 rfl ?_
      refine r_aload_n hC dX1_addNest_64 rfl ?_
      refine z_getR hM dX1_addNest_65 fl_RX1_24 rfl rfl (vld_of (n := 1) rfl (by omega) (by omega)) ?_
      refine r_iconst hC dX1_addNest_68 rfl ?_
      refine z_iald hM dX1_addNest_69 rfl (by omega) (by omega) (fun v6 h_v6 o_v6 t_v6 => ?_)
      have e_v6 : n3 = v6 := ((t_v6 ((by simp [Tk, Tb, DL, DF, DX]))).trans ((a_ρ5 _ _ _ (by first | exact xs_ (by decide) | exact xc_ (by decide) | omega)).trans qg3)).symm
      clear t_v6
      subst e_v6
      refine r_aload_n hC dX1_addNest_70 rfl ?_
      refine z_getR hM dX1_addNest_71 fl_RX1_24 rfl rfl (vld_of (n := 1) rfl (by omega) (by omega)) ?_
      refine r_iconst hC dX1_addNest_74 rfl ?_
      refine z_iald hM dX1_addNest_75 rfl (by omega) (by omega) (fun v7 h_v7 o_v7 t_v7 => ?_)
      have e_v7 : n1 = v7 := ((t_v7 ((by simp [Tk, Tb, DL, DF, DX]))).trans ((a_ρ5 _ _ _ (by first | exact xs_ (by decide) | exact xc_ (by decide) | omega)).trans qg1)).symm
      clear t_v7
      subst e_v7
      refine r_aload_n hC dX1_addNest_76 rfl ?_
      refine z_getR hM dX1_addNest_77 fl_RX1_24 rfl rfl (vld_of (n := 1) rfl (by omega) (by omega)) ?_
      refine r_iconst hC dX1_addNest_80 rfl ?_
      refine z_iald hM dX1_addNest_81 rfl (by omega) (by omega) (fun v8 h_v8 o_v8 t_v8 => ?_)
      have e_v8 : (n0 + 1) = v8 := ((t_v8 ((by simp [Tk, Tb, DL, DF, DX]))).trans q_ρ5).symm
      clear t_v8
      subst e_v8
      refine r_isubE hC ((n1 - (n0 + 1))) dX1_addNest_82 (by omega) (by unfold inR; omega) ?_
      refine z_ins2 hM dX1_addNest_83 tl_RX1_97 rfl (Nat.le_of_ble_eq_true rfl) (Nat.le_of_ble_eq_true rfl) ?_
      refine x_max (fun v9 h_v9 => ?_)
      refine z_iastG hM dX1_addNest_86 rfl (by omega) (by omega) (by simp [Tl, DL, DF]) (by first | trivial | (simp only [Okv]; omega) | (simp [Okv]; try omega)) (fun ρ10 a_ρ10 q_ρ10 => ?_)
      refine y_vret hK rfl dX1_addNest_87 ?_
      exact k _ (((Gx.rf).al a_ρ5 (by first | (simp; done) | omega | (simp; omega))).al a_ρ10 (by first | (simp; done) | omega | (simp; omega))) (by have hq := ((a_ρ10 _ _ _ (by first | exact xs_ (by decide) | exact xc_ (by decide) | omega)).trans q_ρ5); (repeat' split) <;> omega) (by have hq := ((a_ρ10 _ _ _ (by first | exact xs_ (by decide) | exact xc_ (by decide) | omega)).trans ((a_ρ5 _ _ _ (by first | exact xs_ (by decide) | exact xc_ (by decide) | omega)).trans qg1)); (repeat' split) <;> omega) (by have hq := ((a_ρ10 _ _ _ (by first | exact xs_ (by decide) | exact xc_ (by decide) | omega)).trans ((a_ρ5 _ _ _ (by first | exact xs_ (by decide) | exact xc_ (by decide) | omega)).trans qg2)); (repeat' split) <;> omega) (by have hq := q_ρ10; (repeat' split) <;> omega)
    · refine r_aload_n hC dX1_addNest_26 rfl ?_
      refine z_getR hM dX1_addNest_27 fl_RX1_24 rfl rfl (vld_of (n := 1) rfl (by omega) (by omega)) ?_
      refine r_iconst hC dX1_addNest_30 rfl ?_
      refine r_dup2 hC dX1_addNest_31 rfl rfl ?_
      refine z_iald hM dX1_addNest_32 rfl (by omega) (by omega) (fun v11 h_v11 o_v11 t_v11 => ?_)
      have e_v11 : n1 = v11 := ((t_v11 ((by simp [Tk, Tb, DL, DF, DX]))).trans qg1).symm
      clear t_v11
      subst e_v11
      refine r_iconst hC dX1_addNest_33 rfl ?_
      refine r_isubE hC ((n1 - 1)) dX1_addNest_34 (by omega) (by unfold inR; omega) ?_
      refine z_iastG hM dX1_addNest_35 rfl (by omega) (by omega) (by simp [Tl, DL, DF]) (by first | trivial | (simp only [Okv]; omega) | (simp [Okv]; try omega)) (fun ρ12 a_ρ12 q_ρ12 => ?_)
      refine r_aload_n hC dX1_addNest_36 rfl ?_
      refine z_getR hM dX1_addNest_37 fl_RX1_24 rfl rfl (vld_of (n := 1) rfl (by omega) (by omega)) ?_
      refine r_iconst hC dX1_addNest_40 rfl ?_
      refine r_dup2 hC dX1_addNest_41 rfl rfl ?_
      refine z_iald hM dX1_addNest_42 rfl (by omega) (by omega) (fun v13 h_v13 o_v13 t_v13 => ?_)
      have e_v13 : n2 = v13 := ((t_v13 ((by simp [Tk, Tb, DL, DF, DX]))).trans ((a_ρ12 _ _ _ (by first | exact xs_ (by decide) | exact xc_ (by decide) | omega)).trans qg2)).symm
      clear t_v13
      subst e_v13
      refine r_iconst hC dX1_addNest_43 rfl ?_
      refine r_iaddE hC ((n2 + 1)) dX1_addNest_44 (by omega) (by unfold inR; omega) ?_
      refine z_iastG hM dX1_addNest_45 rfl (by omega) (by omega) (by simp [Tl, DL, DF]) (by first | trivial | (simp only [Okv]; omega) | (simp [Okv]; try omega)) (fun ρ14 a_ρ14 q_ρ14 => ?_)
      refine r_goto (tgt := 59) hC dX1_addNest_46 rfl ?_
      refine r_aload_n hC dX1_addNest_59 rfl ?_
      refine z_getR hM dX1_addNest_60 fl_RX1_24 rfl rfl (vld_of (n := 1) rfl (by omega) (by omega)) ?_
      refine r_iconst hC dX1_addNest_63 rfl ?_
      refine r_aload_n hC dX1_addNest_64 rfl ?_
      refine z_getR hM dX1_addNest_65 fl_RX1_24 rfl rfl (vld_of (n := 1) rfl (by omega) (by omega)) ?_
      refine r_iconst hC dX1_addNest_68 rfl ?_
      refine z_iald hM dX1_addNest_69 rfl (by omega) (by omega) (fun v15 h_v15 o_v15 t_v15 => ?_)
      have e_v15 : n3 = v15 := ((t_v15 ((by simp [Tk, Tb, DL, DF, DX]))).trans ((a_ρ14 _ _ _ (by first | exact xs_ (by decide) | exact xc_ (by decide) | omega)).trans ((a_ρ12 _ _ _ (by first | exact xs_ (by decide) | exact xc_ (by decide) | omega)).trans qg3))).symm
      clear t_v15
      subst e_v15
      refine r_aload_n hC dX1_addNest_70 rfl ?_
      refine z_getR hM dX1_addNest_71 fl_RX1_24 rfl rfl (vld_of (n := 1) rfl (by omega) (by omega)) ?_
      refine r_iconst hC dX1_addNest_74 rfl ?_
      refine z_iald hM dX1_addNest_75 rfl (by omega) (by omega) (fun v16 h_v16 o_v16 t_v16 => ?_)
      have e_v16 : (n1 - 1) = v16 := ((t_v16 ((by simp [Tk, Tb, DL, DF, DX]))).trans ((a_ρ14 _ _ _ (by first | exact xs_ (by decide) | exact xc_ (by decide) | omega)).trans q_ρ12)).symm
      clear t_v16
      subst e_v16
      refine r_aload_n hC dX1_addNest_76 rfl ?_
      refine z_getR hM dX1_addNest_77 fl_RX1_24 rfl rfl (vld_of (n := 1) rfl (by omega) (by omega)) ?_
      refine r_iconst hC dX1_addNest_80 rfl ?_
      refine z_iald hM dX1_addNest_81 rfl (by omega) (by omega) (fun v17 h_v17 o_v17 t_v17 => ?_)
      have e_v17 : n0 = v17 := ((t_v17 ((by simp [Tk, Tb, DL, DF, DX]))).trans ((a_ρ14 _ _ _ (by first | exact xs_ (by decide) | exact xc_ (by decide) | omega)).trans ((a_ρ12 _ _ _ (by first | exact xs_ (by decide) | exact xc_ (by decide) | omega)).trans qg0))).symm
      clear t_v17
      subst e_v17
      refine r_isubE hC (((n1 - 1) - n0)) dX1_addNest_82 (by omega) (by unfold inR; omega) ?_
      refine z_ins2 hM dX1_addNest_83 tl_RX1_97 rfl (Nat.le_of_ble_eq_true rfl) (Nat.le_of_ble_eq_true rfl) ?_
      refine x_max (fun v18 h_v18 => ?_)
      refine z_iastG hM dX1_addNest_86 rfl (by omega) (by omega) (by simp [Tl, DL, DF]) (by first | trivial | (simp only [Okv]; omega) | (simp [Okv]; try omega)) (fun ρ19 a_ρ19 q_ρ19 => ?_)
      refine y_vret hK rfl dX1_addNest_87 ?_
      exact k _ ((((Gx.rf).al a_ρ12 (by first | (simp; done) | omega | (simp; omega))).al a_ρ14 (by first | (simp; done) | omega | (simp; omega))).al a_ρ19 (by first | (simp; done) | omega | (simp; omega))) (by have hq := ((a_ρ19 _ _ _ (by first | exact xs_ (by decide) | exact xc_ (by decide) | omega)).trans ((a_ρ14 _ _ _ (by first | exact xs_ (by decide) | exact xc_ (by decide) | omega)).trans ((a_ρ12 _ _ _ (by first | exact xs_ (by decide) | exact xc_ (by decide) | omega)).trans qg0))); (repeat' split) <;> omega) (by have hq := ((a_ρ19 _ _ _ (by first | exact xs_ (by decide) | exact xc_ (by decide) | omega)).trans ((a_ρ14 _ _ _ (by first | exact xs_ (by decide) | exact xc_ (by decide) | omega)).trans q_ρ12)); (repeat' split) <;> omega) (by have hq := ((a_ρ19 _ _ _ (by first | exact xs_ (by decide) | exact xc_ (by decide) | omega)).trans q_ρ14); (repeat' split) <;> omega) (by have hq := q_ρ19; (repeat' split) <;> omega)
  · refine r_aload_n hC dX1_addNest_4 rfl ?_
    refine z_getR hM dX1_addNest_5 fl_RX1_24 rfl rfl (vld_of (n := 1) rfl (by omega) (by omega)) ?_
    refine r_iconst hC dX1_addNest_8 rfl ?_
    refine r_dup2 hC dX1_addNest_9 rfl rfl ?_
    refine z_iald hM dX1_addNest_10 rfl (by omega) (by omega) (fun v20 h_v20 o_v20 t_v20 => ?_)
    have e_v20 : n1 = v20 := ((t_v20 ((by simp [Tk, Tb, DL, DF, DX]))).trans qg1).symm
    clear t_v20
    subst e_v20
    refine r_iconst hC dX1_addNest_11 rfl ?_
    refine r_iaddE hC ((n1 + 1)) dX1_addNest_12 (by omega) (by unfold inR; omega) ?_
    refine z_iastG hM dX1_addNest_13 rfl (by omega) (by omega) (by simp [Tl, DL, DF]) (by first | trivial | (simp only [Okv]; omega) | (simp [Okv]; try omega)) (fun ρ21 a_ρ21 q_ρ21 => ?_)
    refine r_goto (tgt := 59) hC dX1_addNest_14 rfl ?_
    refine r_aload_n hC dX1_addNest_59 rfl ?_
    refine z_getR hM dX1_addNest_60 fl_RX1_24 rfl rfl (vld_of (n := 1) rfl (by omega) (by omega)) ?_
    refine r_iconst hC dX1_addNest_63 rfl ?_
    refine r_aload_n hC dX1_addNest_64 rfl ?_
    refine z_getR hM dX1_addNest_65 fl_RX1_24 rfl rfl (vld_of (n := 1) rfl (by omega) (by omega)) ?_
    refine r_iconst hC dX1_addNest_68 rfl ?_
    refine z_iald hM dX1_addNest_69 rfl (by omega) (by omega) (fun v22 h_v22 o_v22 t_v22 => ?_)
    have e_v22 : n3 = v22 := ((t_v22 ((by simp [Tk, Tb, DL, DF, DX]))).trans ((a_ρ21 _ _ _ (by first | exact xs_ (by decide) | exact xc_ (by decide) | omega)).trans qg3)).symm
    clear t_v22
    subst e_v22
    refine r_aload_n hC dX1_addNest_70 rfl ?_
    refine z_getR hM dX1_addNest_71 fl_RX1_24 rfl rfl (vld_of (n := 1) rfl (by omega) (by omega)) ?_
    refine r_iconst hC dX1_addNest_74 rfl ?_
    refine z_iald hM dX1_addNest_75 rfl (by omega) (by omega) (fun v23 h_v23 o_v23 t_v23 => ?_)
    have e_v23 : (n1 + 1) = v23 := ((t_v23 ((by simp [Tk, Tb, DL, DF, DX]))).trans q_ρ21).symm
    clear t_v23
    subst e_v23
    refine r_aload_n hC dX1_addNest_76 rfl ?_
    refine z_getR hM dX1_addNest_77 fl_RX1_24 rfl rfl (vld_of (n := 1) rfl (by omega) (by omega)) ?_
    refine r_iconst hC dX1_addNest_80 rfl ?_
    refine z_iald hM dX1_addNest_81 rfl (by omega) (by omega) (fun v24 h_v24 o_v24 t_v24 => ?_)
    have e_v24 : n0 = v24 := ((t_v24 ((by simp [Tk, Tb, DL, DF, DX]))).trans ((a_ρ21 _ _ _ (by first | exact xs_ (by decide) | exact xc_ (by decide) | omega)).trans qg0)).symm
    clear t_v24
    subst e_v24
    refine r_isubE hC (((n1 + 1) - n0)) dX1_addNest_82 (by omega) (by unfold inR; omega) ?_
    refine z_ins2 hM dX1_addNest_83 tl_RX1_97 rfl (Nat.le_of_ble_eq_true rfl) (Nat.le_of_ble_eq_true rfl) ?_
    refine x_max (fun v25 h_v25 => ?_)
    refine z_iastG hM dX1_addNest_86 rfl (by omega) (by omega) (by simp [Tl, DL, DF]) (by first | trivial | (simp only [Okv]; omega) | (simp [Okv]; try omega)) (fun ρ26 a_ρ26 q_ρ26 => ?_)
    refine y_vret hK rfl dX1_addNest_87 ?_
    exact k _ (((Gx.rf).al a_ρ21 (by first | (simp; done) | omega | (simp; omega))).al a_ρ26 (by first | (simp; done) | omega | (simp; omega))) (by have hq := ((a_ρ26 _ _ _ (by first | exact xs_ (by decide) | exact xc_ (by decide) | omega)).trans ((a_ρ21 _ _ _ (by first | exact xs_ (by decide) | exact xc_ (by decide) | omega)).trans qg0)); (repeat' split) <;> omega) (by have hq := ((a_ρ26 _ _ _ (by first | exact xs_ (by decide) | exact xc_ (by decide) | omega)).trans q_ρ21); (repeat' split) <;> omega) (by have hq := ((a_ρ26 _ _ _ (by first | exact xs_ (by decide) | exact xc_ (by decide) | omega)).trans ((a_ρ21 _ _ _ (by first | exact xs_ (by decide) | exact xc_ (by decide) | omega)).trans qg2)); (repeat' split) <;> omega) (by have hq := q_ρ26; (repeat' split) <;> omega)
theorem x_addLike {eb : Bool} {d : Nat} {P : Option Vl → Mm → Prop} {σ : Mm} {v n0 n1 n2 n3 n4 n5 n6 n : Int} (b_v : -1000 ≤ v ∧ v ≤ 1000) (qg0 : σ 17 0 0 = n0) (qg1 : σ 17 0 1 = n1) (b_n2 : 0 ≤ n2 ∧ n2 ≤ 1000) (qg2 : σ 17 0 2 = n2) (qg3 : σ 17 0 3 = n3) (b_n4 : 0 ≤ n4 ∧ n4 ≤ 1000) (qg4 : σ 17 0 4 = n4) (qg5 : σ 17 0 5 = n5) (qg6 : σ 17 0 6 = n6) (b_n : 0 ≤ n ∧ n ≤ 1000) (qg7 : σ 14 0 6 = n)  (k : ∀ ρ : Mm, Gx (fun c x y => c = 17 ∧ x = 0 ∨ c = 14 ∧ x = 0 ∧ y = 7) σ ρ → ρ 17 0 4 = (if (0 < n ∧ v = n6) then n4 + 1 else 1) → ρ 17 0 2 = (if (0 < n ∧ v = n6) then n2 else n2 + 1) → ρ 17 0 3 = (if (if (0 < n ∧ v = n6) then n2 else n2 + 1) = 1 then (if (0 < n ∧ v = n6) then n4 + 1 else 1) else n3) → ρ 17 0 0 = (if (if (0 < n ∧ v = n6) then n4 + 1 else 1) > n0 then (if (0 < n ∧ v = n6) then n4 + 1 else 1) else n0) → ρ 17 0 1 = (if (if (0 < n ∧ v = n6) then n4 + 1 else 1) > n0 then v else n1) → ρ 17 0 5 = (if n = 0 then v else n5) → ρ 17 0 6 = (v) → P none ρ) : WT (true, true, eb) (d + 1) 21 [vR 14 0, vI v] σ P := by
  refine WT_in fun K hK => ?_
  have hK : StpY (true, true, eb) cX1_addLike RX1 (none) (WT (true, true, eb) (d + 0)) P K := hK
  have hM := hK.1
  have hC := hK.1.1
  show K 0 [some (vR 14 0), some (vI v)] [] σ
  refine r_aload_n hC dX1_addLike_0 rfl ?_
  refine z_getI (jz := 6) hM dX1_addLike_1 fl_RX1_34 rfl rfl rfl (fun v1 h_v1 o_v1 t_v1 => ?_)
  have e_v1 : n = v1 := ((t_v1 ((by simp [Tk, Tb, DL, DF, DX]))).trans qg7).symm
  clear t_v1
  subst e_v1
  refine r_if_le (tgt := 31) hC dX1_addLike_4 rfl (fun h2 => ?_) (fun h2 => ?_)
  · refine r_aload_n hC dX1_addLike_31 rfl ?_
    refine z_getR hM dX1_addLike_32 fl_RX1_24 rfl rfl (vld_of (n := 1) rfl (by omega) (by omega)) ?_
    refine r_iconst hC dX1_addLike_35 rfl ?_
    refine r_dup2 hC dX1_addLike_36 rfl rfl ?_
    refine z_iald hM dX1_addLike_37 rfl (by omega) (by omega) (fun v3 h_v3 o_v3 t_v3 => ?_)
    have e_v3 : n2 = v3 := ((t_v3 ((by simp [Tk, Tb, DL, DF, DX]))).trans qg2).symm
    clear t_v3
    subst e_v3
    refine r_iconst hC dX1_addLike_38 rfl ?_
    refine r_iaddE hC ((n2 + 1)) dX1_addLike_39 (by omega) (by unfold inR; omega) ?_
    refine z_iastG hM dX1_addLike_40 rfl (by omega) (by omega) (by simp [Tl, DL, DF]) (by first | trivial | (simp only [Okv]; omega) | (simp [Okv]; try omega)) (fun ρ4 a_ρ4 q_ρ4 => ?_)
    refine r_aload_n hC dX1_addLike_41 rfl ?_
    refine z_getR hM dX1_addLike_42 fl_RX1_24 rfl rfl (vld_of (n := 1) rfl (by omega) (by omega)) ?_
    refine r_iconst hC dX1_addLike_45 rfl ?_
    refine r_iconst hC dX1_addLike_46 rfl ?_
    refine z_iastG hM dX1_addLike_47 rfl (by omega) (by omega) (by simp [Tl, DL, DF]) (by first | trivial | (simp only [Okv]; omega) | (simp [Okv]; try omega)) (fun ρ5 a_ρ5 q_ρ5 => ?_)
    refine r_aload_n hC dX1_addLike_48 rfl ?_
    refine z_getI (jz := 6) hM dX1_addLike_49 fl_RX1_34 rfl rfl rfl (fun v6 h_v6 o_v6 t_v6 => ?_)
    have e_v6 : n = v6 := ((t_v6 ((by simp [Tk, Tb, DL, DF, DX]))).trans ((a_ρ5 _ _ _ (by first | exact xs_ (by decide) | exact xc_ (by decide) | omega)).trans ((a_ρ4 _ _ _ (by first | exact xs_ (by decide) | exact xc_ (by decide) | omega)).trans qg7))).symm
    clear t_v6
    subst e_v6
    refine r_if_ne (tgt := 62) hC dX1_addLike_52 rfl (fun h7 => by omega) (fun h7 => ?_)
    refine r_aload_n hC dX1_addLike_55 rfl ?_
    refine z_getR hM dX1_addLike_56 fl_RX1_24 rfl rfl (vld_of (n := 1) rfl (by omega) (by omega)) ?_
    refine r_iconst hC dX1_addLike_59 rfl ?_
    refine r_iload_n hC dX1_addLike_60 rfl ?_
    refine z_iastG hM dX1_addLike_61 rfl (by omega) (by omega) (by simp [Tl, DL, DF]) (by first | trivial | (simp only [Okv]; omega) | (simp [Okv]; try omega)) (fun ρ8 a_ρ8 q_ρ8 => ?_)
    refine r_aload_n hC dX1_addLike_62 rfl ?_
    refine z_getR hM dX1_addLike_63 fl_RX1_24 rfl rfl (vld_of (n := 1) rfl (by omega) (by omega)) ?_
    refine r_iconst hC dX1_addLike_66 rfl ?_
    refine z_iald hM dX1_addLike_67 rfl (by omega) (by omega) (fun v9 h_v9 o_v9 t_v9 => ?_)
    have e_v9 : (n2 + 1) = v9 := ((t_v9 ((by simp [Tk, Tb, DL, DF, DX]))).trans ((a_ρ8 _ _ _ (by first | exact xs_ (by decide) | exact xc_ (by decide) | omega)).trans ((a_ρ5 _ _ _ (by first | exact xs_ (by decide) | exact xc_ (by decide) | omega)).trans q_ρ4))).symm
    clear t_v9
    subst e_v9
    refine r_iconst hC dX1_addLike_68 rfl ?_
    refine r_icmp_ne (tgt := 84) hC dX1_addLike_69 rfl (fun h10 => ?_) (fun h10 => ?_)
    · refine r_aload_n hC dX1_addLike_84 rfl ?_
      refine z_getR hM dX1_addLike_85 fl_RX1_24 rfl rfl (vld_of (n := 1) rfl (by omega) (by omega)) ?_
      refine r_iconst hC dX1_addLike_88 rfl ?_
      refine z_iald hM dX1_addLike_89 rfl (by omega) (by omega) (fun v11 h_v11 o_v11 t_v11 => ?_)
      have e_v11 : 1 = v11 := ((t_v11 ((by simp [Tk, Tb, DL, DF, DX]))).trans ((a_ρ8 _ _ _ (by first | exact xs_ (by decide) | exact xc_ (by decide) | omega)).trans q_ρ5)).symm
      clear t_v11
      subst e_v11
      refine r_aload_n hC dX1_addLike_90 rfl ?_
      refine z_getR hM dX1_addLike_91 fl_RX1_24 rfl rfl (vld_of (n := 1) rfl (by omega) (by omega)) ?_
      refine r_iconst hC dX1_addLike_94 rfl ?_
      refine z_iald hM dX1_addLike_95 rfl (by omega) (by omega) (fun v12 h_v12 o_v12 t_v12 => ?_)
      have e_v12 : n0 = v12 := ((t_v12 ((by simp [Tk, Tb, DL, DF, DX]))).trans ((a_ρ8 _ _ _ (by first | exact xs_ (by decide) | exact xc_ (by decide) | omega)).trans ((a_ρ5 _ _ _ (by first | exact xs_ (by decide) | exact xc_ (by decide) | omega)).trans ((a_ρ4 _ _ _ (by first | exact xs_ (by decide) | exact xc_ (by decide) | omega)).trans qg0)))).symm
      clear t_v12
      subst e_v12
      refine r_icmp_le (tgt := 118) hC dX1_addLike_96 rfl (fun h13 => ?_) (fun h13 => ?_)
      · refine r_aload_n hC dX1_addLike_118 rfl ?_
        refine z_getR hM dX1_addLike_119 fl_RX1_24 rfl rfl (vld_of (n := 1) rfl (by omega) (by omega)) ?_
        refine r_bipush hC dX1_addLike_122 rfl ?_
        refine r_iload_n hC dX1_addLike_124 rfl ?_
        refine z_iastG hM dX1_addLike_125 rfl (by omega) (by omega) (by simp [Tl, DL, DF]) (by first | trivial | (simp only [Okv]; omega) | (simp [Okv]; try omega)) (fun ρ14 a_ρ14 q_ρ14 => ?_)
        refine y_vret hK rfl dX1_addLike_126 ?_
        exact k _ (((((Gx.rf).al a_ρ4 (by first | (simp; done) | omega | (simp; omega))).al a_ρ5 (by first | (simp; done) | omega | (simp; omega))).al a_ρ8 (by first | (simp; done) | omega | (simp; omega))).al a_ρ14 (by first | (simp; done) | omega | (simp; omega))) (by have hq := ((a_ρ14 _ _ _ (by first | exact xs_ (by decide) | exact xc_ (by decide) | omega)).trans ((a_ρ8 _ _ _ (by first | exact xs_ (by decide) | exact xc_ (by decide) | omega)).trans q_ρ5)); (repeat' split) <;> omega) (by have hq := ((a_ρ14 _ _ _ (by first | exact xs_ (by decide) | exact xc_ (by decide) | omega)).trans ((a_ρ8 _ _ _ (by first | exact xs_ (by decide) | exact xc_ (by decide) | omega)).trans ((a_ρ5 _ _ _ (by first | exact xs_ (by decide) | exact xc_ (by decide) | omega)).trans q_ρ4))); (repeat' split) <;> omega) (by have hq := ((a_ρ14 _ _ _ (by first | exact xs_ (by decide) | exact xc_ (by decide) | omega)).trans ((a_ρ8 _ _ _ (by first | exact xs_ (by decide) | exact xc_ (by decide) | omega)).trans ((a_ρ5 _ _ _ (by first | exact xs_ (by decide) | exact xc_ (by decide) | omega)).trans ((a_ρ4 _ _ _ (by first | exact xs_ (by decide) | exact xc_ (by decide) | omega)).trans qg3)))); (repeat' split) <;> omega) (by have hq := ((a_ρ14 _ _ _ (by first | exact xs_ (by decide) | exact xc_ (by decide) | omega)).trans ((a_ρ8 _ _ _ (by first | exact xs_ (by decide) | exact xc_ (by decide) | omega)).trans ((a_ρ5 _ _ _ (by first | exact xs_ (by decide) | exact xc_ (by decide) | omega)).trans ((a_ρ4 _ _ _ (by first | exact xs_ (by decide) | exact xc_ (by decide) | omega)).trans qg0)))); (repeat' split) <;> omega) (by have hq := ((a_ρ14 _ _ _ (by first | exact xs_ (by decide) | exact xc_ (by decide) | omega)).trans ((a_ρ8 _ _ _ (by first | exact xs_ (by decide) | exact xc_ (by decide) | omega)).trans ((a_ρ5 _ _ _ (by first | exact xs_ (by decide) | exact xc_ (by decide) | omega)).trans ((a_ρ4 _ _ _ (by first | exact xs_ (by decide) | exact xc_ (by decide) | omega)).trans qg1)))); (repeat' split) <;> omega) (by have hq := ((a_ρ14 _ _ _ (by first | exact xs_ (by decide) | exact xc_ (by decide) | omega)).trans q_ρ8); (repeat' split) <;> omega) (by have hq := q_ρ14; (repeat' split) <;> omega)
      · refine r_aload_n hC dX1_addLike_99 rfl ?_
        refine z_getR hM dX1_addLike_100 fl_RX1_24 rfl rfl (vld_of (n := 1) rfl (by omega) (by omega)) ?_
        refine r_iconst hC dX1_addLike_103 rfl ?_
        refine r_aload_n hC dX1_addLike_104 rfl ?_
        refine z_getR hM dX1_addLike_105 fl_RX1_24 rfl rfl (vld_of (n := 1) rfl (by omega) (by omega)) ?_
        refine r_iconst hC dX1_addLike_108 rfl ?_
        refine z_iald hM dX1_addLike_109 rfl (by omega) (by omega) (fun v15 h_v15 o_v15 t_v15 => ?_)
        have e_v15 : 1 = v15 := ((t_v15 ((by simp [Tk, Tb, DL, DF, DX]))).trans ((a_ρ8 _ _ _ (by first | exact xs_ (by decide) | exact xc_ (by decide) | omega)).trans q_ρ5)).symm
        clear t_v15
        subst e_v15
        refine z_iastG hM dX1_addLike_110 rfl (by omega) (by omega) (by simp [Tl, DL, DF]) (by first | trivial | (simp only [Okv]; omega) | (simp [Okv]; try omega)) (fun ρ16 a_ρ16 q_ρ16 => ?_)
        refine r_aload_n hC dX1_addLike_111 rfl ?_
        refine z_getR hM dX1_addLike_112 fl_RX1_24 rfl rfl (vld_of (n := 1) rfl (by omega) (by omega)) ?_
        refine r_iconst hC dX1_addLike_115 rfl ?_
        refine r_iload_n hC dX1_addLike_116 rfl ?_
        refine z_iastG hM dX1_addLike_117 rfl (by omega) (by omega) (by simp [Tl, DL, DF]) (by first | trivial | (simp only [Okv]; omega) | (simp [Okv]; try omega)) (fun ρ17 a_ρ17 q_ρ17 => ?_)
        refine r_aload_n hC dX1_addLike_118 rfl ?_
        refine z_getR hM dX1_addLike_119 fl_RX1_24 rfl rfl (vld_of (n := 1) rfl (by omega) (by omega)) ?_
        refine r_bipush hC dX1_addLike_122 rfl ?_
        refine r_iload_n hC dX1_addLike_124 rfl ?_
        refine z_iastG hM dX1_addLike_125 rfl (by omega) (by omega) (by simp [Tl, DL, DF]) (by first | trivial | (simp only [Okv]; omega) | (simp [Okv]; try omega)) (fun ρ18 a_ρ18 q_ρ18 => ?_)
        refine y_vret hK rfl dX1_addLike_126 ?_
        exact k _ (((((((Gx.rf).al a_ρ4 (by first | (simp; done) | omega | (simp; omega))).al a_ρ5 (by first | (simp; done) | omega | (simp; omega))).al a_ρ8 (by first | (simp; done) | omega | (simp; omega))).al a_ρ16 (by first | (simp; done) | omega | (simp; omega))).al a_ρ17 (by first | (simp; done) | omega | (simp; omega))).al a_ρ18 (by first | (simp; done) | omega | (simp; omega))) (by have hq := ((a_ρ18 _ _ _ (by first | exact xs_ (by decide) | exact xc_ (by decide) | omega)).trans ((a_ρ17 _ _ _ (by first | exact xs_ (by decide) | exact xc_ (by decide) | omega)).trans ((a_ρ16 _ _ _ (by first | exact xs_ (by decide) | exact xc_ (by decide) | omega)).trans ((a_ρ8 _ _ _ (by first | exact xs_ (by decide) | exact xc_ (by decide) | omega)).trans q_ρ5)))); (repeat' split) <;> omega) (by have hq := ((a_ρ18 _ _ _ (by first | exact xs_ (by decide) | exact xc_ (by decide) | omega)).trans ((a_ρ17 _ _ _ (by first | exact xs_ (by decide) | exact xc_ (by decide) | omega)).trans ((a_ρ16 _ _ _ (by first | exact xs_ (by decide) | exact xc_ (by decide) | omega)).trans ((a_ρ8 _ _ _ (by first | exact xs_ (by decide) | exact xc_ (by decide) | omega)).trans ((a_ρ5 _ _ _ (by first | exact xs_ (by decide) | exact xc_ (by decide) | omega)).trans q_ρ4))))); (repeat' split) <;> omega) (by have hq := ((a_ρ18 _ _ _ (by first | exact xs_ (by decide) | exact xc_ (by decide) | omega)).trans ((a_ρ17 _ _ _ (by first | exact xs_ (by decide) | exact xc_ (by decide) | omega)).trans ((a_ρ16 _ _ _ (by first | exact xs_ (by decide) | exact xc_ (by decide) | omega)).trans ((a_ρ8 _ _ _ (by first | exact xs_ (by decide) | exact xc_ (by decide) | omega)).trans ((a_ρ5 _ _ _ (by first | exact xs_ (by decide) | exact xc_ (by decide) | omega)).trans ((a_ρ4 _ _ _ (by first | exact xs_ (by decide) | exact xc_ (by decide) | omega)).trans qg3)))))); (repeat' split) <;> omega) (by have hq := ((a_ρ18 _ _ _ (by first | exact xs_ (by decide) | exact xc_ (by decide) | omega)).trans ((a_ρ17 _ _ _ (by first | exact xs_ (by decide) | exact xc_ (by decide) | omega)).trans q_ρ16)); (repeat' split) <;> omega) (by have hq := ((a_ρ18 _ _ _ (by first | exact xs_ (by decide) | exact xc_ (by decide) | omega)).trans q_ρ17); (repeat' split) <;> omega) (by have hq := ((a_ρ18 _ _ _ (by first | exact xs_ (by decide) | exact xc_ (by decide) | omega)).trans ((a_ρ17 _ _ _ (by first | exact xs_ (by decide) | exact xc_ (by decide) | omega)).trans ((a_ρ16 _ _ _ (by first | exact xs_ (by decide) | exact xc_ (by decide) | omega)).trans q_ρ8))); (repeat' split) <;> omega) (by have hq := q_ρ18; (repeat' split) <;> omega)
    · refine r_aload_n hC dX1_addLike_72 rfl ?_
      refine z_getR hM dX1_addLike_73 fl_RX1_24 rfl rfl (vld_of (n := 1) rfl (by omega) (by omega)) ?_
      refine r_iconst hC dX1_addLike_76 rfl ?_
      refine r_aload_n hC dX1_addLike_77 rfl ?_
      refine z_getR hM dX1_addLike_78 fl_RX1_24 rfl rfl (vld_of (n := 1) rfl (by omega) (by omega)) ?_
      refine r_iconst hC dX1_addLike_81 rfl ?_
      refine z_iald hM dX1_addLike_82 rfl (by omega) (by omega) (fun v19 h_v19 o_v19 t_v19 => ?_)
      have e_v19 : 1 = v19 := ((t_v19 ((by simp [Tk, Tb, DL, DF, DX]))).trans ((a_ρ8 _ _ _ (by first | exact xs_ (by decide) | exact xc_ (by decide) | omega)).trans q_ρ5)).symm
      clear t_v19
      subst e_v19
      refine z_iastG hM dX1_addLike_83 rfl (by omega) (by omega) (by simp [Tl, DL, DF]) (by first | trivial | (simp only [Okv]; omega) | (simp [Okv]; try omega)) (fun ρ20 a_ρ20 q_ρ20 => ?_)
      refine r_aload_n hC dX1_addLike_84 rfl ?_
      refine z_getR hM dX1_addLike_85 fl_RX1_24 rfl rfl (vld_of (n := 1) rfl (by omega) (by omega)) ?_
      refine r_iconst hC dX1_addLike_88 rfl ?_
      refine z_iald hM dX1_addLike_89 rfl (by omega) (by omega) (fun v21 h_v21 o_v21 t_v21 => ?_)
      have e_v21 : 1 = v21 := ((t_v21 ((by simp [Tk, Tb, DL, DF, DX]))).trans ((a_ρ20 _ _ _ (by first | exact xs_ (by decide) | exact xc_ (by decide) | omega)).trans ((a_ρ8 _ _ _ (by first | exact xs_ (by decide) | exact xc_ (by decide) | omega)).trans q_ρ5))).symm
      clear t_v21
      subst e_v21
      refine r_aload_n hC dX1_addLike_90 rfl ?_
      refine z_getR hM dX1_addLike_91 fl_RX1_24 rfl rfl (vld_of (n := 1) rfl (by omega) (by omega)) ?_
      refine r_iconst hC dX1_addLike_94 rfl ?_
      refine z_iald hM dX1_addLike_95 rfl (by omega) (by omega) (fun v22 h_v22 o_v22 t_v22 => ?_)
      have e_v22 : n0 = v22 := ((t_v22 ((by simp [Tk, Tb, DL, DF, DX]))).trans ((a_ρ20 _ _ _ (by first | exact xs_ (by decide) | exact xc_ (by decide) | omega)).trans ((a_ρ8 _ _ _ (by first | exact xs_ (by decide) | exact xc_ (by decide) | omega)).trans ((a_ρ5 _ _ _ (by first | exact xs_ (by decide) | exact xc_ (by decide) | omega)).trans ((a_ρ4 _ _ _ (by first | exact xs_ (by decide) | exact xc_ (by decide) | omega)).trans qg0))))).symm
      clear t_v22
      subst e_v22
      refine r_icmp_le (tgt := 118) hC dX1_addLike_96 rfl (fun h23 => ?_) (fun h23 => ?_)
      · refine r_aload_n hC dX1_addLike_118 rfl ?_
        refine z_getR hM dX1_addLike_119 fl_RX1_24 rfl rfl (vld_of (n := 1) rfl (by omega) (by omega)) ?_
        refine r_bipush hC dX1_addLike_122 rfl ?_
        refine r_iload_n hC dX1_addLike_124 rfl ?_
        refine z_iastG hM dX1_addLike_125 rfl (by omega) (by omega) (by simp [Tl, DL, DF]) (by first | trivial | (simp only [Okv]; omega) | (simp [Okv]; try omega)) (fun ρ24 a_ρ24 q_ρ24 => ?_)
        refine y_vret hK rfl dX1_addLike_126 ?_
        exact k _ ((((((Gx.rf).al a_ρ4 (by first | (simp; done) | omega | (simp; omega))).al a_ρ5 (by first | (simp; done) | omega | (simp; omega))).al a_ρ8 (by first | (simp; done) | omega | (simp; omega))).al a_ρ20 (by first | (simp; done) | omega | (simp; omega))).al a_ρ24 (by first | (simp; done) | omega | (simp; omega))) (by have hq := ((a_ρ24 _ _ _ (by first | exact xs_ (by decide) | exact xc_ (by decide) | omega)).trans ((a_ρ20 _ _ _ (by first | exact xs_ (by decide) | exact xc_ (by decide) | omega)).trans ((a_ρ8 _ _ _ (by first | exact xs_ (by decide) | exact xc_ (by decide) | omega)).trans q_ρ5))); (repeat' split) <;> omega) (by have hq := ((a_ρ24 _ _ _ (by first | exact xs_ (by decide) | exact xc_ (by decide) | omega)).trans ((a_ρ20 _ _ _ (by first | exact xs_ (by decide) | exact xc_ (by decide) | omega)).trans ((a_ρ8 _ _ _ (by first | exact xs_ (by decide) | exact xc_ (by decide) | omega)).trans ((a_ρ5 _ _ _ (by first | exact xs_ (by decide) | exact xc_ (by decide) | omega)).trans q_ρ4)))); (repeat' split) <;> omega) (by have hq := ((a_ρ24 _ _ _ (by first | exact xs_ (by decide) | exact xc_ (by decide) | omega)).trans q_ρ20); (repeat' split) <;> omega) (by have hq := ((a_ρ24 _ _ _ (by first | exact xs_ (by decide) | exact xc_ (by decide) | omega)).trans ((a_ρ20 _ _ _ (by first | exact xs_ (by decide) | exact xc_ (by decide) | omega)).trans ((a_ρ8 _ _ _ (by first | exact xs_ (by decide) | exact xc_ (by decide) | omega)).trans ((a_ρ5 _ _ _ (by first | exact xs_ (by decide) | exact xc_ (by decide) | omega)).trans ((a_ρ4 _ _ _ (by first | exact xs_ (by decide) | exact xc_ (by decide) | omega)).trans qg0))))); (repeat' split) <;> omega) (by have hq := ((a_ρ24 _ _ _ (by first | exact xs_ (by decide) | exact xc_ (by decide) | omega)).trans ((a_ρ20 _ _ _ (by first | exact xs_ (by decide) | exact xc_ (by decide) | omega)).trans ((a_ρ8 _ _ _ (by first | exact xs_ (by decide) | exact xc_ (by decide) | omega)).trans ((a_ρ5 _ _ _ (by first | exact xs_ (by decide) | exact xc_ (by decide) | omega)).trans ((a_ρ4 _ _ _ (by first | exact xs_ (by decide) | exact xc_ (by decide) | omega)).trans qg1))))); (repeat' split) <;> omega) (by have hq := ((a_ρ24 _ _ _ (by first | exact xs_ (by decide) | exact xc_ (by decide) | omega)).trans ((a_ρ20 _ _ _ (by first | exact xs_ (by decide) | exact xc_ (by decide) | omega)).trans q_ρ8)); (repeat' split) <;> omega) (by have hq := q_ρ24; (repeat' split) <;> omega)
      · refine r_aload_n hC dX1_addLike_99 rfl ?_
        refine z_getR hM dX1_addLike_100 fl_RX1_24 rfl rfl (vld_of (n := 1) rfl (by omega) (by omega)) ?_
        refine r_iconst hC dX1_addLike_103 rfl ?_
        refine r_aload_n hC dX1_addLike_104 rfl ?_
        refine z_getR hM dX1_addLike_105 fl_RX1_24 rfl rfl (vld_of (n := 1) rfl (by omega) (by omega)) ?_
        refine r_iconst hC dX1_addLike_108 rfl ?_
        refine z_iald hM dX1_addLike_109 rfl (by omega) (by omega) (fun v25 h_v25 o_v25 t_v25 => ?_)
        have e_v25 : 1 = v25 := ((t_v25 ((by simp [Tk, Tb, DL, DF, DX]))).trans ((a_ρ20 _ _ _ (by first | exact xs_ (by decide) | exact xc_ (by decide) | omega)).trans ((a_ρ8 _ _ _ (by first | exact xs_ (by decide) | exact xc_ (by decide) | omega)).trans q_ρ5))).symm
        clear t_v25
        subst e_v25
        refine z_iastG hM dX1_addLike_110 rfl (by omega) (by omega) (by simp [Tl, DL, DF]) (by first | trivial | (simp only [Okv]; omega) | (simp [Okv]; try omega)) (fun ρ26 a_ρ26 q_ρ26 => ?_)
        refine r_aload_n hC dX1_addLike_111 rfl ?_
        refine z_getR hM dX1_addLike_112 fl_RX1_24 rfl rfl (vld_of (n := 1) rfl (by omega) (by omega)) ?_
        refine r_iconst hC dX1_addLike_115 rfl ?_
        refine r_iload_n hC dX1_addLike_116 rfl ?_
        refine z_iastG hM dX1_addLike_117 rfl (by omega) (by omega) (by simp [Tl, DL, DF]) (by first | trivial | (simp only [Okv]; omega) | (simp [Okv]; try omega)) (fun ρ27 a_ρ27 q_ρ27 => ?_)
        refine r_aload_n hC dX1_addLike_118 rfl ?_
        refine z_getR hM dX1_addLike_119 fl_RX1_24 rfl rfl (vld_of (n := 1) rfl (by omega) (by omega)) ?_
        refine r_bipush hC dX1_addLike_122 rfl ?_
        refine r_iload_n hC dX1_addLike_124 rfl ?_
        refine z_iastG hM dX1_addLike_125 rfl (by omega) (by omega) (by simp [Tl, DL, DF]) (by first | trivial | (simp only [Okv]; omega) | (simp [Okv]; try omega)) (fun ρ28 a_ρ28 q_ρ28 => ?_)
        refine y_vret hK rfl dX1_addLike_126 ?_
        exact k _ ((((((((Gx.rf).al a_ρ4 (by first | (simp; done) | omega | (simp; omega))).al a_ρ5 (by first | (simp; done) | omega | (simp; omega))).al a_ρ8 (by first | (simp; done) | omega | (simp; omega))).al a_ρ20 (by first | (simp; done) | omega | (simp; omega))).al a_ρ26 (by first | (simp; done) | omega | (simp; omega))).al a_ρ27 (by first | (simp; done) | omega | (simp; omega))).al a_ρ28 (by first | (simp; done) | omega | (simp; omega))) (by have hq := ((a_ρ28 _ _ _ (by first | exact xs_ (by decide) | exact xc_ (by decide) | omega)).trans ((a_ρ27 _ _ _ (by first | exact xs_ (by decide) | exact xc_ (by decide) | omega)).trans ((a_ρ26 _ _ _ (by first | exact xs_ (by decide) | exact xc_ (by decide) | omega)).trans ((a_ρ20 _ _ _ (by first | exact xs_ (by decide) | exact xc_ (by decide) | omega)).trans ((a_ρ8 _ _ _ (by first | exact xs_ (by decide) | exact xc_ (by decide) | omega)).trans q_ρ5))))); (repeat' split) <;> omega) (by have hq := ((a_ρ28 _ _ _ (by first | exact xs_ (by decide) | exact xc_ (by decide) | omega)).trans ((a_ρ27 _ _ _ (by first | exact xs_ (by decide) | exact xc_ (by decide) | omega)).trans ((a_ρ26 _ _ _ (by first | exact xs_ (by decide) | exact xc_ (by decide) | omega)).trans ((a_ρ20 _ _ _ (by first | exact xs_ (by decide) | exact xc_ (by decide) | omega)).trans ((a_ρ8 _ _ _ (by first | exact xs_ (by decide) | exact xc_ (by decide) | omega)).trans ((a_ρ5 _ _ _ (by first | exact xs_ (by decide) | exact xc_ (by decide) | omega)).trans q_ρ4)))))); (repeat' split) <;> omega) (by have hq := ((a_ρ28 _ _ _ (by first | exact xs_ (by decide) | exact xc_ (by decide) | omega)).trans ((a_ρ27 _ _ _ (by first | exact xs_ (by decide) | exact xc_ (by decide) | omega)).trans ((a_ρ26 _ _ _ (by first | exact xs_ (by decide) | exact xc_ (by decide) | omega)).trans q_ρ20))); (repeat' split) <;> omega) (by have hq := ((a_ρ28 _ _ _ (by first | exact xs_ (by decide) | exact xc_ (by decide) | omega)).trans ((a_ρ27 _ _ _ (by first | exact xs_ (by decide) | exact xc_ (by decide) | omega)).trans q_ρ26)); (repeat' split) <;> omega) (by have hq := ((a_ρ28 _ _ _ (by first | exact xs_ (by decide) | exact xc_ (by decide) | omega)).trans q_ρ27); (repeat' split) <;> omega) (by have hq := ((a_ρ28 _ _ _ (by first | exact xs_ (by decide) | exact xc_ (by decide) | omega)).trans ((a_ρ27 _ _ _ (by first | exact xs_ (by decide) | exact xc_ (by decide) | omega)).trans ((a_ρ26 _ _ _ (by first | exact xs_ (by decide) | exact xc_ (by decide) | omega)).trans ((a_ρ20 _ _ _ (by first | exact xs_ (by decide) | exact xc_ (by decide) | omega)).trans q_ρ8)))); (repeat' split) <;> omega) (by have hq := q_ρ28; (repeat' split) <;> omega)
  · refine r_iload_n hC dX1_addLike_7 rfl ?_
    refine r_aload_n hC dX1_addLike_8 rfl ?_
    refine z_getR hM dX1_addLike_9 fl_RX1_24 rfl rfl (vld_of (n := 1) rfl (by omega) (by omega)) ?_
    refine r_bipush hC dX1_addLike_12 rfl ?_
    refine z_iald hM dX1_addLike_14 rfl (by omega) (by omega) (fun v29 h_v29 o_v29 t_v29 => ?_)
    have e_v29 : n6 = v29 := ((t_v29 ((by simp [Tk, Tb, DL, DF, DX]))).trans qg6).symm
    clear t_v29
    subst e_v29
    refine r_icmp_ne (tgt := 31) hC dX1_addLike_15 rfl (fun h30 => ?_) (fun h30 => ?_)
    · refine r_aload_n hC dX1_addLike_31 rfl ?_
      refine z_getR hM dX1_addLike_32 fl_RX1_24 rfl rfl (vld_of (n := 1) rfl (by omega) (by omega)) ?_
      refine r_iconst hC dX1_addLike_35 rfl ?_
      refine r_dup2 hC dX1_addLike_36 rfl rfl ?_
      refine z_iald hM dX1_addLike_37 rfl (by omega) (by omega) (fun v31 h_v31 o_v31 t_v31 => ?_)
      have e_v31 : n2 = v31 := ((t_v31 ((by simp [Tk, Tb, DL, DF, DX]))).trans qg2).symm
      clear t_v31
      subst e_v31
      refine r_iconst hC dX1_addLike_38 rfl ?_
      refine r_iaddE hC ((n2 + 1)) dX1_addLike_39 (by omega) (by unfold inR; omega) ?_
      refine z_iastG hM dX1_addLike_40 rfl (by omega) (by omega) (by simp [Tl, DL, DF]) (by first | trivial | (simp only [Okv]; omega) | (simp [Okv]; try omega)) (fun ρ32 a_ρ32 q_ρ32 => ?_)
      refine r_aload_n hC dX1_addLike_41 rfl ?_
      refine z_getR hM dX1_addLike_42 fl_RX1_24 rfl rfl (vld_of (n := 1) rfl (by omega) (by omega)) ?_
      refine r_iconst hC dX1_addLike_45 rfl ?_
      refine r_iconst hC dX1_addLike_46 rfl ?_
      refine z_iastG hM dX1_addLike_47 rfl (by omega) (by omega) (by simp [Tl, DL, DF]) (by first | trivial | (simp only [Okv]; omega) | (simp [Okv]; try omega)) (fun ρ33 a_ρ33 q_ρ33 => ?_)
      refine r_aload_n hC dX1_addLike_48 rfl ?_
      refine z_getI (jz := 6) hM dX1_addLike_49 fl_RX1_34 rfl rfl rfl (fun v34 h_v34 o_v34 t_v34 => ?_)
      have e_v34 : n = v34 := ((t_v34 ((by simp [Tk, Tb, DL, DF, DX]))).trans ((a_ρ33 _ _ _ (by first | exact xs_ (by decide) | exact xc_ (by decide) | omega)).trans ((a_ρ32 _ _ _ (by first | exact xs_ (by decide) | exact xc_ (by decide) | omega)).trans qg7))).symm
      clear t_v34
      subst e_v34
      refine r_if_ne (tgt := 62) hC dX1_addLike_52 rfl (fun h35 => ?_) (fun h35 => by omega)
      refine r_aload_n hC dX1_addLike_62 rfl ?_
      refine z_getR hM dX1_addLike_63 fl_RX1_24 rfl rfl (vld_of (n := 1) rfl (by omega) (by omega)) ?_
      refine r_iconst hC dX1_addLike_66 rfl ?_
      refine z_iald hM dX1_addLike_67 rfl (by omega) (by omega) (fun v36 h_v36 o_v36 t_v36 => ?_)
      have e_v36 : (n2 + 1) = v36 := ((t_v36 ((by simp [Tk, Tb, DL, DF, DX]))).trans ((a_ρ33 _ _ _ (by first | exact xs_ (by decide) | exact xc_ (by decide) | omega)).trans q_ρ32)).symm
      clear t_v36
      subst e_v36
      refine r_iconst hC dX1_addLike_68 rfl ?_
      refine r_icmp_ne (tgt := 84) hC dX1_addLike_69 rfl (fun h37 => ?_) (fun h37 => ?_)
      · refine r_aload_n hC dX1_addLike_84 rfl ?_
        refine z_getR hM dX1_addLike_85 fl_RX1_24 rfl rfl (vld_of (n := 1) rfl (by omega) (by omega)) ?_
        refine r_iconst hC dX1_addLike_88 rfl ?_
        refine z_iald hM dX1_addLike_89 rfl (by omega) (by omega) (fun v38 h_v38 o_v38 t_v38 => ?_)
        have e_v38 : 1 = v38 := ((t_v38 ((by simp [Tk, Tb, DL, DF, DX]))).trans q_ρ33).symm
        clear t_v38
        subst e_v38
        refine r_aload_n hC dX1_addLike_90 rfl ?_
        refine z_getR hM dX1_addLike_91 fl_RX1_24 rfl rfl (vld_of (n := 1) rfl (by omega) (by omega)) ?_
        refine r_iconst hC dX1_addLike_94 rfl ?_
        refine z_iald hM dX1_addLike_95 rfl (by omega) (by omega) (fun v39 h_v39 o_v39 t_v39 => ?_)
        have e_v39 : n0 = v39 := ((t_v39 ((by simp [Tk, Tb, DL, DF, DX]))).trans ((a_ρ33 _ _ _ (by first | exact xs_ (by decide) | exact xc_ (by decide) | omega)).trans ((a_ρ32 _ _ _ (by first | exact xs_ (by decide) | exact xc_ (by decide) | omega)).trans qg0))).symm
        clear t_v39
        subst e_v39
        refine r_icmp_le (tgt := 118) hC dX1_addLike_96 rfl (fun h40 => ?_) (fun h40 => ?_)
        · refine r_aload_n hC dX1_addLike_118 rfl ?_
          refine z_getR hM dX1_addLike_119 fl_RX1_24 rfl rfl (vld_of (n := 1) rfl (by omega) (by omega)) ?_
          refine r_bipush hC dX1_addLike_122 rfl ?_
          refine r_iload_n hC dX1_addLike_124 rfl ?_
          refine z_iastG hM dX1_addLike_125 rfl (by omega) (by omega) (by simp [Tl, DL, DF]) (by first | trivial | (simp only [Okv]; omega) | (simp [Okv]; try omega)) (fun ρ41 a_ρ41 q_ρ41 => ?_)
          refine y_vret hK rfl dX1_addLike_126 ?_
          exact k _ ((((Gx.rf).al a_ρ32 (by first | (simp; done) | omega | (simp; omega))).al a_ρ33 (by first | (simp; done) | omega | (simp; omega))).al a_ρ41 (by first | (simp; done) | omega | (simp; omega))) (by have hq := ((a_ρ41 _ _ _ (by first | exact xs_ (by decide) | exact xc_ (by decide) | omega)).trans q_ρ33); (repeat' split) <;> omega) (by have hq := ((a_ρ41 _ _ _ (by first | exact xs_ (by decide) | exact xc_ (by decide) | omega)).trans ((a_ρ33 _ _ _ (by first | exact xs_ (by decide) | exact xc_ (by decide) | omega)).trans q_ρ32)); (repeat' split) <;> omega) (by have hq := ((a_ρ41 _ _ _ (by first | exact xs_ (by decide) | exact xc_ (by decide) | omega)).trans ((a_ρ33 _ _ _ (by first | exact xs_ (by decide) | exact xc_ (by decide) | omega)).trans ((a_ρ32 _ _ _ (by first | exact xs_ (by decide) | exact xc_ (by decide) | omega)).trans qg3))); (repeat' split) <;> omega) (by have hq := ((a_ρ41 _ _ _ (by first | exact xs_ (by decide) | exact xc_ (by decide) | omega)).trans ((a_ρ33 _ _ _ (by first | exact xs_ (by decide) | exact xc_ (by decide) | omega)).trans ((a_ρ32 _ _ _ (by first | exact xs_ (by decide) | exact xc_ (by decide) | omega)).trans qg0))); (repeat' split) <;> omega) (by have hq := ((a_ρ41 _ _ _ (by first | exact xs_ (by decide) | exact xc_ (by decide) | omega)).trans ((a_ρ33 _ _ _ (by first | exact xs_ (by decide) | exact xc_ (by decide) | omega)).trans ((a_ρ32 _ _ _ (by first | exact xs_ (by decide) | exact xc_ (by decide) | omega)).trans qg1))); (repeat' split) <;> omega) (by have hq := ((a_ρ41 _ _ _ (by first | exact xs_ (by decide) | exact xc_ (by decide) | omega)).trans ((a_ρ33 _ _ _ (by first | exact xs_ (by decide) | exact xc_ (by decide) | omega)).trans ((a_ρ32 _ _ _ (by first | exact xs_ (by decide) | exact xc_ (by decide) | omega)).trans qg5))); (repeat' split) <;> omega) (by have hq := q_ρ41; (repeat' split) <;> omega)
        · refine r_aload_n hC dX1_addLike_99 rfl ?_
          refine z_getR hM dX1_addLike_100 fl_RX1_24 rfl rfl (vld_of (n := 1) rfl (by omega) (by omega)) ?_
          refine r_iconst hC dX1_addLike_103 rfl ?_
          refine r_aload_n hC dX1_addLike_104 rfl ?_
          refine z_getR hM dX1_addLike_105 fl_RX1_24 rfl rfl (vld_of (n := 1) rfl (by omega) (by omega)) ?_
          refine r_iconst hC dX1_addLike_108 rfl ?_
          refine z_iald hM dX1_addLike_109 rfl (by omega) (by omega) (fun v42 h_v42 o_v42 t_v42 => ?_)
          have e_v42 : 1 = v42 := ((t_v42 ((by simp [Tk, Tb, DL, DF, DX]))).trans q_ρ33).symm
          clear t_v42
          subst e_v42
          refine z_iastG hM dX1_addLike_110 rfl (by omega) (by omega) (by simp [Tl, DL, DF]) (by first | trivial | (simp only [Okv]; omega) | (simp [Okv]; try omega)) (fun ρ43 a_ρ43 q_ρ43 => ?_)
          refine r_aload_n hC dX1_addLike_111 rfl ?_
          refine z_getR hM dX1_addLike_112 fl_RX1_24 rfl rfl (vld_of (n := 1) rfl (by omega) (by omega)) ?_
          refine r_iconst hC dX1_addLike_115 rfl ?_
          refine r_iload_n hC dX1_addLike_116 rfl ?_
          refine z_iastG hM dX1_addLike_117 rfl (by omega) (by omega) (by simp [Tl, DL, DF]) (by first | trivial | (simp only [Okv]; omega) | (simp [Okv]; try omega)) (fun ρ44 a_ρ44 q_ρ44 => ?_)
          refine r_aload_n hC dX1_addLike_118 rfl ?_
          refine z_getR hM dX1_addLike_119 fl_RX1_24 rfl rfl (vld_of (n := 1) rfl (by omega) (by omega)) ?_
          refine r_bipush hC dX1_addLike_122 rfl ?_
          refine r_iload_n hC dX1_addLike_124 rfl ?_
          refine z_iastG hM dX1_addLike_125 rfl (by omega) (by omega) (by simp [Tl, DL, DF]) (by first | trivial | (simp only [Okv]; omega) | (simp [Okv]; try omega)) (fun ρ45 a_ρ45 q_ρ45 => ?_)
          refine y_vret hK rfl dX1_addLike_126 ?_
          exact k _ ((((((Gx.rf).al a_ρ32 (by first | (simp; done) | omega | (simp; omega))).al a_ρ33 (by first | (simp; done) | omega | (simp; omega))).al a_ρ43 (by first | (simp; done) | omega | (simp; omega))).al a_ρ44 (by first | (simp; done) | omega | (simp; omega))).al a_ρ45 (by first | (simp; done) | omega | (simp; omega))) (by have hq := ((a_ρ45 _ _ _ (by first | exact xs_ (by decide) | exact xc_ (by decide) | omega)).trans ((a_ρ44 _ _ _ (by first | exact xs_ (by decide) | exact xc_ (by decide) | omega)).trans ((a_ρ43 _ _ _ (by first | exact xs_ (by decide) | exact xc_ (by decide) | omega)).trans q_ρ33))); (repeat' split) <;> omega) (by have hq := ((a_ρ45 _ _ _ (by first | exact xs_ (by decide) | exact xc_ (by decide) | omega)).trans ((a_ρ44 _ _ _ (by first | exact xs_ (by decide) | exact xc_ (by decide) | omega)).trans ((a_ρ43 _ _ _ (by first | exact xs_ (by decide) | exact xc_ (by decide) | omega)).trans ((a_ρ33 _ _ _ (by first | exact xs_ (by decide) | exact xc_ (by decide) | omega)).trans q_ρ32)))); (repeat' split) <;> omega) (by have hq := ((a_ρ45 _ _ _ (by first | exact xs_ (by decide) | exact xc_ (by decide) | omega)).trans ((a_ρ44 _ _ _ (by first | exact xs_ (by decide) | exact xc_ (by decide) | omega)).trans ((a_ρ43 _ _ _ (by first | exact xs_ (by decide) | exact xc_ (by decide) | omega)).trans ((a_ρ33 _ _ _ (by first | exact xs_ (by decide) | exact xc_ (by decide) | omega)).trans ((a_ρ32 _ _ _ (by first | exact xs_ (by decide) | exact xc_ (by decide) | omega)).trans qg3))))); (repeat' split) <;> omega) (by have hq := ((a_ρ45 _ _ _ (by first | exact xs_ (by decide) | exact xc_ (by decide) | omega)).trans ((a_ρ44 _ _ _ (by first | exact xs_ (by decide) | exact xc_ (by decide) | omega)).trans q_ρ43)); (repeat' split) <;> omega) (by have hq := ((a_ρ45 _ _ _ (by first | exact xs_ (by decide) | exact xc_ (by decide) | omega)).trans q_ρ44); (repeat' split) <;> omega) (by have hq := ((a_ρ45 _ _ _ (by first | exact xs_ (by decide) | exact xc_ (by decide) | omega)).trans ((a_ρ44 _ _ _ (by first | exact xs_ (by decide) | exact xc_ (by decide) | omega)).trans ((a_ρ43 _ _ _ (by first | exact xs_ (by decide) | exact xc_ (by decide) | omega)).trans ((a_ρ33 _ _ _ (by first | exact xs_ (by decide) | exact xc_ (by decide) | omega)).trans ((a_ρ32 _ _ _ (by first | exact xs_ (by decide) | exact xc_ (by decide) | omega)).trans qg5))))); (repeat' split) <;> omega) (by have hq := q_ρ45; (repeat' split) <;> omega)
      · refine r_aload_n hC dX1_addLike_72 rfl ?_
        refine z_getR hM dX1_addLike_73 fl_RX1_24 rfl rfl (vld_of (n := 1) rfl (by omega) (by omega)) ?_
        refine r_iconst hC dX1_addLike_76 rfl ?_
        refine r_aload_n hC dX1_addLike_77 rfl ?_
        refine z_getR hM dX1_addLike_78 fl_RX1_24 rfl rfl (vld_of (n := 1) rfl (by omega) (by omega)) ?_
        refine r_iconst hC dX1_addLike_81 rfl ?_
        refine z_iald hM dX1_addLike_82 rfl (by omega) (by omega) (fun v46 h_v46 o_v46 t_v46 => ?_)
        have e_v46 : 1 = v46 := ((t_v46 ((by simp [Tk, Tb, DL, DF, DX]))).trans q_ρ33).symm
        clear t_v46
        subst e_v46
        refine z_iastG hM dX1_addLike_83 rfl (by omega) (by omega) (by simp [Tl, DL, DF]) (by first | trivial | (simp only [Okv]; omega) | (simp [Okv]; try omega)) (fun ρ47 a_ρ47 q_ρ47 => ?_)
        refine r_aload_n hC dX1_addLike_84 rfl ?_
        refine z_getR hM dX1_addLike_85 fl_RX1_24 rfl rfl (vld_of (n := 1) rfl (by omega) (by omega)) ?_
        refine r_iconst hC dX1_addLike_88 rfl ?_
        refine z_iald hM dX1_addLike_89 rfl (by omega) (by omega) (fun v48 h_v48 o_v48 t_v48 => ?_)
        have e_v48 : 1 = v48 := ((t_v48 ((by simp [Tk, Tb, DL, DF, DX]))).trans ((a_ρ47 _ _ _ (by first | exact xs_ (by decide) | exact xc_ (by decide) | omega)).trans q_ρ33)).symm
        clear t_v48
        subst e_v48
        refine r_aload_n hC dX1_addLike_90 rfl ?_
        refine z_getR hM dX1_addLike_91 fl_RX1_24 rfl rfl (vld_of (n := 1) rfl (by omega) (by omega)) ?_
        refine r_iconst hC dX1_addLike_94 rfl ?_
        refine z_iald hM dX1_addLike_95 rfl (by omega) (by omega) (fun v49 h_v49 o_v49 t_v49 => ?_)
        have e_v49 : n0 = v49 := ((t_v49 ((by simp [Tk, Tb, DL, DF, DX]))).trans ((a_ρ47 _ _ _ (by first | exact xs_ (by decide) | exact xc_ (by decide) | omega)).trans ((a_ρ33 _ _ _ (by first | exact xs_ (by decide) | exact xc_ (by decide) | omega)).trans ((a_ρ32 _ _ _ (by first | exact xs_ (by decide) | exact xc_ (by decide) | omega)).trans qg0)))).symm
        clear t_v49
        subst e_v49
        refine r_icmp_le (tgt := 118) hC dX1_addLike_96 rfl (fun h50 => ?_) (fun h50 => ?_)
        · refine r_aload_n hC dX1_addLike_118 rfl ?_
          refine z_getR hM dX1_addLike_119 fl_RX1_24 rfl rfl (vld_of (n := 1) rfl (by omega) (by omega)) ?_
          refine r_bipush hC dX1_addLike_122 rfl ?_
          refine r_iload_n hC dX1_addLike_124 rfl ?_
          refine z_iastG hM dX1_addLike_125 rfl (by omega) (by omega) (by simp [Tl, DL, DF]) (by first | trivial | (simp only [Okv]; omega) | (simp [Okv]; try omega)) (fun ρ51 a_ρ51 q_ρ51 => ?_)
          refine y_vret hK rfl dX1_addLike_126 ?_
          exact k _ (((((Gx.rf).al a_ρ32 (by first | (simp; done) | omega | (simp; omega))).al a_ρ33 (by first | (simp; done) | omega | (simp; omega))).al a_ρ47 (by first | (simp; done) | omega | (simp; omega))).al a_ρ51 (by first | (simp; done) | omega | (simp; omega))) (by have hq := ((a_ρ51 _ _ _ (by first | exact xs_ (by decide) | exact xc_ (by decide) | omega)).trans ((a_ρ47 _ _ _ (by first | exact xs_ (by decide) | exact xc_ (by decide) | omega)).trans q_ρ33)); (repeat' split) <;> omega) (by have hq := ((a_ρ51 _ _ _ (by first | exact xs_ (by decide) | exact xc_ (by decide) | omega)).trans ((a_ρ47 _ _ _ (by first | exact xs_ (by decide) | exact xc_ (by decide) | omega)).trans ((a_ρ33 _ _ _ (by first | exact xs_ (by decide) | exact xc_ (by decide) | omega)).trans q_ρ32))); (repeat' split) <;> omega) (by have hq := ((a_ρ51 _ _ _ (by first | exact xs_ (by decide) | exact xc_ (by decide) | omega)).trans q_ρ47); (repeat' split) <;> omega) (by have hq := ((a_ρ51 _ _ _ (by first | exact xs_ (by decide) | exact xc_ (by decide) | omega)).trans ((a_ρ47 _ _ _ (by first | exact xs_ (by decide) | exact xc_ (by decide) | omega)).trans ((a_ρ33 _ _ _ (by first | exact xs_ (by decide) | exact xc_ (by decide) | omega)).trans ((a_ρ32 _ _ _ (by first | exact xs_ (by decide) | exact xc_ (by decide) | omega)).trans qg0)))); (repeat' split) <;> omega) (by have hq := ((a_ρ51 _ _ _ (by first | exact xs_ (by decide) | exact xc_ (by decide) | omega)).trans ((a_ρ47 _ _ _ (by first | exact xs_ (by decide) | exact xc_ (by decide) | omega)).trans ((a_ρ33 _ _ _ (by first | exact xs_ (by decide) | exact xc_ (by decide) | omega)).trans ((a_ρ32 _ _ _ (by first | exact xs_ (by decide) | exact xc_ (by decide) | omega)).trans qg1)))); (repeat' split) <;> omega) (by have hq := ((a_ρ51 _ _ _ (by first | exact xs_ (by decide) | exact xc_ (by decide) | omega)).trans ((a_ρ47 _ _ _ (by first | exact xs_ (by decide) | exact xc_ (by decide) | omega)).trans ((a_ρ33 _ _ _ (by first | exact xs_ (by decide) | exact xc_ (by decide) | omega)).trans ((a_ρ32 _ _ _ (by first | exact xs_ (by decide) | exact xc_ (by decide) | omega)).trans qg5)))); (repeat' split) <;> omega) (by have hq := q_ρ51; (repeat' split) <;> omega)
        · refine r_aload_n hC dX1_addLike_99 rfl ?_
          refine z_getR hM dX1_addLike_100 fl_RX1_24 rfl rfl (vld_of (n := 1) rfl (by omega) (by omega)) ?_
          refine r_iconst hC dX1_addLike_103 rfl ?_
          refine r_aload_n hC dX1_addLike_104 rfl ?_
          refine z_getR hM dX1_addLike_105 fl_RX1_24 rfl rfl (vld_of (n := 1) rfl (by omega) (by omega)) ?_
          refine r_iconst hC dX1_addLike_108 rfl ?_
          refine z_iald hM dX1_addLike_109 rfl (by omega) (by omega) (fun v52 h_v52 o_v52 t_v52 => ?_)
          have e_v52 : 1 = v52 := ((t_v52 ((by simp [Tk, Tb, DL, DF, DX]))).trans ((a_ρ47 _ _ _ (by first | exact xs_ (by decide) | exact xc_ (by decide) | omega)).trans q_ρ33)).symm
          clear t_v52
          subst e_v52
          refine z_iastG hM dX1_addLike_110 rfl (by omega) (by omega) (by simp [Tl, DL, DF]) (by first | trivial | (simp only [Okv]; omega) | (simp [Okv]; try omega)) (fun ρ53 a_ρ53 q_ρ53 => ?_)
          refine r_aload_n hC dX1_addLike_111 rfl ?_
          refine z_getR hM dX1_addLike_112 fl_RX1_24 rfl rfl (vld_of (n := 1) rfl (by omega) (by omega)) ?_
          refine r_iconst hC dX1_addLike_115 rfl ?_
          refine r_iload_n hC dX1_addLike_116 rfl ?_
          refine z_iastG hM dX1_addLike_117 rfl (by omega) (by omega) (by simp [Tl, DL, DF]) (by first | trivial | (simp only [Okv]; omega) | (simp [Okv]; try omega)) (fun ρ54 a_ρ54 q_ρ54 => ?_)
          refine r_aload_n hC dX1_addLike_118 rfl ?_
          refine z_getR hM dX1_addLike_119 fl_RX1_24 rfl rfl (vld_of (n := 1) rfl (by omega) (by omega)) ?_
          refine r_bipush hC dX1_addLike_122 rfl ?_
          refine r_iload_n hC dX1_addLike_124 rfl ?_
          refine z_iastG hM dX1_addLike_125 rfl (by omega) (by omega) (by simp [Tl, DL, DF]) (by first | trivial | (simp only [Okv]; omega) | (simp [Okv]; try omega)) (fun ρ55 a_ρ55 q_ρ55 => ?_)
          refine y_vret hK rfl dX1_addLike_126 ?_
          exact k _ (((((((Gx.rf).al a_ρ32 (by first | (simp; done) | omega | (simp; omega))).al a_ρ33 (by first | (simp; done) | omega | (simp; omega))).al a_ρ47 (by first | (simp; done) | omega | (simp; omega))).al a_ρ53 (by first | (simp; done) | omega | (simp; omega))).al a_ρ54 (by first | (simp; done) | omega | (simp; omega))).al a_ρ55 (by first | (simp; done) | omega | (simp; omega))) (by have hq := ((a_ρ55 _ _ _ (by first | exact xs_ (by decide) | exact xc_ (by decide) | omega)).trans ((a_ρ54 _ _ _ (by first | exact xs_ (by decide) | exact xc_ (by decide) | omega)).trans ((a_ρ53 _ _ _ (by first | exact xs_ (by decide) | exact xc_ (by decide) | omega)).trans ((a_ρ47 _ _ _ (by first | exact xs_ (by decide) | exact xc_ (by decide) | omega)).trans q_ρ33)))); (repeat' split) <;> omega) (by have hq := ((a_ρ55 _ _ _ (by first | exact xs_ (by decide) | exact xc_ (by decide) | omega)).trans ((a_ρ54 _ _ _ (by first | exact xs_ (by decide) | exact xc_ (by decide) | omega)).trans ((a_ρ53 _ _ _ (by first | exact xs_ (by decide) | exact xc_ (by decide) | omega)).trans ((a_ρ47 _ _ _ (by first | exact xs_ (by decide) | exact xc_ (by decide) | omega)).trans ((a_ρ33 _ _ _ (by first | exact xs_ (by decide) | exact xc_ (by decide) | omega)).trans q_ρ32))))); (repeat' split) <;> omega) (by have hq := ((a_ρ55 _ _ _ (by first | exact xs_ (by decide) | exact xc_ (by decide) | omega)).trans ((a_ρ54 _ _ _ (by first | exact xs_ (by decide) | exact xc_ (by decide) | omega)).trans ((a_ρ53 _ _ _ (by first | exact xs_ (by decide) | exact xc_ (by decide) | omega)).trans q_ρ47))); (repeat' split) <;> omega) (by have hq := ((a_ρ55 _ _ _ (by first | exact xs_ (by decide) | exact xc_ (by decide) | omega)).trans ((a_ρ54 _ _ _ (by first | exact xs_ (by decide) | exact xc_ (by decide) | omega)).trans q_ρ53)); (repeat' split) <;> omega) (by have hq := ((a_ρ55 _ _ _ (by first | exact xs_ (by decide) | exact xc_ (by decide) | omega)).trans q_ρ54); (repeat' split) <;> omega) (by have hq := ((a_ρ55 _ _ _ (by first | exact xs_ (by decide) | exact xc_ (by decide) | omega)).trans ((a_ρ54 _ _ _ (by first | exact xs_ (by decide) | exact xc_ (by decide) | omega)).trans ((a_ρ53 _ _ _ (by first | exact xs_ (by decide) | exact xc_ (by decide) | omega)).trans ((a_ρ47 _ _ _ (by first | exact xs_ (by decide) | exact xc_ (by decide) | omega)).trans ((a_ρ33 _ _ _ (by first | exact xs_ (by decide) | exact xc_ (by decide) | omega)).trans ((a_ρ32 _ _ _ (by first | exact xs_ (by decide) | exact xc_ (by decide) | omega)).trans qg5)))))); (repeat' split) <;> omega) (by have hq := q_ρ55; (repeat' split) <;> omega)
    · refine r_aload_n hC dX1_addLike_18 rfl ?_
      refine z_getR hM dX1_addLike_19 fl_RX1_24 rfl rfl (vld_of (n := 1) rfl (by omega) (by omega)) ?_
      refine r_iconst hC dX1_addLike_22 rfl ?_
      refine r_dup2 hC dX1_addLike_23 rfl rfl ?_
      refine z_iald hM dX1_addLike_24 rfl (by omega) (by omega) (fun v56 h_v56 o_v56 t_v56 => ?_)
      have e_v56 : n4 = v56 := ((t_v56 ((by simp [Tk, Tb, DL, DF, DX]))).trans qg4).symm
      clear t_v56
      subst e_v56
      refine r_iconst hC dX1_addLike_25 rfl ?_
      refine r_iaddE hC ((n4 + 1)) dX1_addLike_26 (by omega) (by unfold inR; omega) ?_
      refine z_iastG hM dX1_addLike_27 rfl (by omega) (by omega) (by simp [Tl, DL, DF]) (by first | trivial | (simp only [Okv]; omega) | (simp [Okv]; try omega)) (fun ρ57 a_ρ57 q_ρ57 => ?_)
      refine r_goto (tgt := 48) hC dX1_addLike_28 rfl ?_
      refine r_aload_n hC dX1_addLike_48 rfl ?_
      refine z_getI (jz := 6) hM dX1_addLike_49 fl_RX1_34 rfl rfl rfl (fun v58 h_v58 o_v58 t_v58 => ?_)
      have e_v58 : n = v58 := ((t_v58 ((by simp [Tk, Tb, DL, DF, DX]))).trans ((a_ρ57 _ _ _ (by first | exact xs_ (by decide) | exact xc_ (by decide) | omega)).trans qg7)).symm
      clear t_v58
      subst e_v58
      refine r_if_ne (tgt := 62) hC dX1_addLike_52 rfl (fun h59 => ?_) (fun h59 => by omega)
      refine r_aload_n hC dX1_addLike_62 rfl ?_
      refine z_getR hM dX1_addLike_63 fl_RX1_24 rfl rfl (vld_of (n := 1) rfl (by omega) (by omega)) ?_
      refine r_iconst hC dX1_addLike_66 rfl ?_
      refine z_iald hM dX1_addLike_67 rfl (by omega) (by omega) (fun v60 h_v60 o_v60 t_v60 => ?_)
      have e_v60 : n2 = v60 := ((t_v60 ((by simp [Tk, Tb, DL, DF, DX]))).trans ((a_ρ57 _ _ _ (by first | exact xs_ (by decide) | exact xc_ (by decide) | omega)).trans qg2)).symm
      clear t_v60
      subst e_v60
      refine r_iconst hC dX1_addLike_68 rfl ?_
      refine r_icmp_ne (tgt := 84) hC dX1_addLike_69 rfl (fun h61 => ?_) (fun h61 => ?_)
      · refine r_aload_n hC dX1_addLike_84 rfl ?_
        refine z_getR hM dX1_addLike_85 fl_RX1_24 rfl rfl (vld_of (n := 1) rfl (by omega) (by omega)) ?_
        refine r_iconst hC dX1_addLike_88 rfl ?_
        refine z_iald hM dX1_addLike_89 rfl (by omega) (by omega) (fun v62 h_v62 o_v62 t_v62 => ?_)
        have e_v62 : (n4 + 1) = v62 := ((t_v62 ((by simp [Tk, Tb, DL, DF, DX]))).trans q_ρ57).symm
        clear t_v62
        subst e_v62
        refine r_aload_n hC dX1_addLike_90 rfl ?_
        refine z_getR hM dX1_addLike_91 fl_RX1_24 rfl rfl (vld_of (n := 1) rfl (by omega) (by omega)) ?_
        refine r_iconst hC dX1_addLike_94 rfl ?_
        refine z_iald hM dX1_addLike_95 rfl (by omega) (by omega) (fun v63 h_v63 o_v63 t_v63 => ?_)
        have e_v63 : n0 = v63 := ((t_v63 ((by simp [Tk, Tb, DL, DF, DX]))).trans ((a_ρ57 _ _ _ (by first | exact xs_ (by decide) | exact xc_ (by decide) | omega)).trans qg0)).symm
        clear t_v63
        subst e_v63
        refine r_icmp_le (tgt := 118) hC dX1_addLike_96 rfl (fun h64 => ?_) (fun h64 => ?_)
        · refine r_aload_n hC dX1_addLike_118 rfl ?_
          refine z_getR hM dX1_addLike_119 fl_RX1_24 rfl rfl (vld_of (n := 1) rfl (by omega) (by omega)) ?_
          refine r_bipush hC dX1_addLike_122 rfl ?_
          refine r_iload_n hC dX1_addLike_124 rfl ?_
          refine z_iastG hM dX1_addLike_125 rfl (by omega) (by omega) (by simp [Tl, DL, DF]) (by first | trivial | (simp only [Okv]; omega) | (simp [Okv]; try omega)) (fun ρ65 a_ρ65 q_ρ65 => ?_)
          refine y_vret hK rfl dX1_addLike_126 ?_
          exact k _ (((Gx.rf).al a_ρ57 (by first | (simp; done) | omega | (simp; omega))).al a_ρ65 (by first | (simp; done) | omega | (simp; omega))) (by have hq := ((a_ρ65 _ _ _ (by first | exact xs_ (by decide) | exact xc_ (by decide) | omega)).trans q_ρ57); (repeat' split) <;> omega) (by have hq := ((a_ρ65 _ _ _ (by first | exact xs_ (by decide) | exact xc_ (by decide) | omega)).trans ((a_ρ57 _ _ _ (by first | exact xs_ (by decide) | exact xc_ (by decide) | omega)).trans qg2)); (repeat' split) <;> omega) (by have hq := ((a_ρ65 _ _ _ (by first | exact xs_ (by decide) | exact xc_ (by decide) | omega)).trans ((a_ρ57 _ _ _ (by first | exact xs_ (by decide) | exact xc_ (by decide) | omega)).trans qg3)); (repeat' split) <;> omega) (by have hq := ((a_ρ65 _ _ _ (by first | exact xs_ (by decide) | exact xc_ (by decide) | omega)).trans ((a_ρ57 _ _ _ (by first | exact xs_ (by decide) | exact xc_ (by decide) | omega)).trans qg0)); (repeat' split) <;> omega) (by have hq := ((a_ρ65 _ _ _ (by first | exact xs_ (by decide) | exact xc_ (by decide) | omega)).trans ((a_ρ57 _ _ _ (by first | exact xs_ (by decide) | exact xc_ (by decide) | omega)).trans qg1)); (repeat' split) <;> omega) (by have hq := ((a_ρ65 _ _ _ (by first | exact xs_ (by decide) | exact xc_ (by decide) | omega)).trans ((a_ρ57 _ _ _ (by first | exact xs_ (by decide) | exact xc_ (by decide) | omega)).trans qg5)); (repeat' split) <;> omega) (by have hq := q_ρ65; (repeat' split) <;> omega)
        · refine r_aload_n hC dX1_addLike_99 rfl ?_
          refine z_getR hM dX1_addLike_100 fl_RX1_24 rfl rfl (vld_of (n := 1) rfl (by omega) (by omega)) ?_
          refine r_iconst hC dX1_addLike_103 rfl ?_
          refine r_aload_n hC dX1_addLike_104 rfl ?_
          refine z_getR hM dX1_addLike_105 fl_RX1_24 rfl rfl (vld_of (n := 1) rfl (by omega) (by omega)) ?_
          refine r_iconst hC dX1_addLike_108 rfl ?_
          refine z_iald hM dX1_addLike_109 rfl (by omega) (by omega) (fun v66 h_v66 o_v66 t_v66 => ?_)
          have e_v66 : (n4 + 1) = v66 := ((t_v66 ((by simp [Tk, Tb, DL, DF, DX]))).trans q_ρ57).symm
          clear t_v66
          subst e_v66
          refine z_iastG hM dX1_addLike_110 rfl (by omega) (by omega) (by simp [Tl, DL, DF]) (by first | trivial | (simp only [Okv]; omega) | (simp [Okv]; try omega)) (fun ρ67 a_ρ67 q_ρ67 => ?_)
          refine r_aload_n hC dX1_addLike_111 rfl ?_
          refine z_getR hM dX1_addLike_112 fl_RX1_24 rfl rfl (vld_of (n := 1) rfl (by omega) (by omega)) ?_
          refine r_iconst hC dX1_addLike_115 rfl ?_
          refine r_iload_n hC dX1_addLike_116 rfl ?_
          refine z_iastG hM dX1_addLike_117 rfl (by omega) (by omega) (by simp [Tl, DL, DF]) (by first | trivial | (simp only [Okv]; omega) | (simp [Okv]; try omega)) (fun ρ68 a_ρ68 q_ρ68 => ?_)
          refine r_aload_n hC dX1_addLike_118 rfl ?_
          refine z_getR hM dX1_addLike_119 fl_RX1_24 rfl rfl (vld_of (n := 1) rfl (by omega) (by omega)) ?_
          refine r_bipush hC dX1_addLike_122 rfl ?_
          refine r_iload_n hC dX1_addLike_124 rfl ?_
          refine z_iastG hM dX1_addLike_125 rfl (by omega) (by omega) (by simp [Tl, DL, DF]) (by first | trivial | (simp only [Okv]; omega) | (simp [Okv]; try omega)) (fun ρ69 a_ρ69 q_ρ69 => ?_)
          refine y_vret hK rfl dX1_addLike_126 ?_
          exact k _ (((((Gx.rf).al a_ρ57 (by first | (simp; done) | omega | (simp; omega))).al a_ρ67 (by first | (simp; done) | omega | (simp; omega))).al a_ρ68 (by first | (simp; done) | omega | (simp; omega))).al a_ρ69 (by first | (simp; done) | omega | (simp; omega))) (by have hq := ((a_ρ69 _ _ _ (by first | exact xs_ (by decide) | exact xc_ (by decide) | omega)).trans ((a_ρ68 _ _ _ (by first | exact xs_ (by decide) | exact xc_ (by decide) | omega)).trans ((a_ρ67 _ _ _ (by first | exact xs_ (by decide) | exact xc_ (by decide) | omega)).trans q_ρ57))); (repeat' split) <;> omega) (by have hq := ((a_ρ69 _ _ _ (by first | exact xs_ (by decide) | exact xc_ (by decide) | omega)).trans ((a_ρ68 _ _ _ (by first | exact xs_ (by decide) | exact xc_ (by decide) | omega)).trans ((a_ρ67 _ _ _ (by first | exact xs_ (by decide) | exact xc_ (by decide) | omega)).trans ((a_ρ57 _ _ _ (by first | exact xs_ (by decide) | exact xc_ (by decide) | omega)).trans qg2)))); (repeat' split) <;> omega) (by have hq := ((a_ρ69 _ _ _ (by first | exact xs_ (by decide) | exact xc_ (by decide) | omega)).trans ((a_ρ68 _ _ _ (by first | exact xs_ (by decide) | exact xc_ (by decide) | omega)).trans ((a_ρ67 _ _ _ (by first | exact xs_ (by decide) | exact xc_ (by decide) | omega)).trans ((a_ρ57 _ _ _ (by first | exact xs_ (by decide) | exact xc_ (by decide) | omega)).trans qg3)))); (repeat' split) <;> omega) (by have hq := ((a_ρ69 _ _ _ (by first | exact xs_ (by decide) | exact xc_ (by decide) | omega)).trans ((a_ρ68 _ _ _ (by first | exact xs_ (by decide) | exact xc_ (by decide) | omega)).trans q_ρ67)); (repeat' split) <;> omega) (by have hq := ((a_ρ69 _ _ _ (by first | exact xs_ (by decide) | exact xc_ (by decide) | omega)).trans q_ρ68); (repeat' split) <;> omega) (by have hq := ((a_ρ69 _ _ _ (by first | exact xs_ (by decide) | exact xc_ (by decide) | omega)).trans ((a_ρ68 _ _ _ (by first | exact xs_ (by decide) | exact xc_ (by decide) | omega)).trans ((a_ρ67 _ _ _ (by first | exact xs_ (by decide) | exact xc_ (by decide) | omega)).trans ((a_ρ57 _ _ _ (by first | exact xs_ (by decide) | exact xc_ (by decide) | omega)).trans qg5)))); (repeat' split) <;> omega) (by have hq := q_ρ69; (repeat' split) <;> omega)
      · refine r_aload_n hC dX1_addLike_72 rfl ?_
        refine z_getR hM dX1_addLike_73 fl_RX1_24 rfl rfl (vld_of (n := 1) rfl (by omega) (by omega)) ?_
        refine r_iconst hC dX1_addLike_76 rfl ?_
        refine r_aload_n hC dX1_addLike_77 rfl ?_
        refine z_getR hM dX1_addLike_78 fl_RX1_24 rfl rfl (vld_of (n := 1) rfl (by omega) (by omega)) ?_
        refine r_iconst hC dX1_addLike_81 rfl ?_
        refine z_iald hM dX1_addLike_82 rfl (by omega) (by omega) (fun v70 h_v70 o_v70 t_v70 => ?_)
        have e_v70 : (n4 + 1) = v70 := ((t_v70 ((by simp [Tk, Tb, DL, DF, DX]))).trans q_ρ57).symm
        clear t_v70
        subst e_v70
        refine z_iastG hM dX1_addLike_83 rfl (by omega) (by omega) (by simp [Tl, DL, DF]) (by first | trivial | (simp only [Okv]; omega) | (simp [Okv]; try omega)) (fun ρ71 a_ρ71 q_ρ71 => ?_)
        refine r_aload_n hC dX1_addLike_84 rfl ?_
        refine z_getR hM dX1_addLike_85 fl_RX1_24 rfl rfl (vld_of (n := 1) rfl (by omega) (by omega)) ?_
        refine r_iconst hC dX1_addLike_88 rfl ?_
        refine z_iald hM dX1_addLike_89 rfl (by omega) (by omega) (fun v72 h_v72 o_v72 t_v72 => ?_)
        have e_v72 : (n4 + 1) = v72 := ((t_v72 ((by simp [Tk, Tb, DL, DF, DX]))).trans ((a_ρ71 _ _ _ (by first | exact xs_ (by decide) | exact xc_ (by decide) | omega)).trans q_ρ57)).symm
        clear t_v72
        subst e_v72
        refine r_aload_n hC dX1_addLike_90 rfl ?_
        refine z_getR hM dX1_addLike_91 fl_RX1_24 rfl rfl (vld_of (n := 1) rfl (by omega) (by omega)) ?_
        refine r_iconst hC dX1_addLike_94 rfl ?_
        refine z_iald hM dX1_addLike_95 rfl (by omega) (by omega) (fun v73 h_v73 o_v73 t_v73 => ?_)
        have e_v73 : n0 = v73 := ((t_v73 ((by simp [Tk, Tb, DL, DF, DX]))).trans ((a_ρ71 _ _ _ (by first | exact xs_ (by decide) | exact xc_ (by decide) | omega)).trans ((a_ρ57 _ _ _ (by first | exact xs_ (by decide) | exact xc_ (by decide) | omega)).trans qg0))).symm
        clear t_v73
        subst e_v73
        refine r_icmp_le (tgt := 118) hC dX1_addLike_96 rfl (fun h74 => ?_) (fun h74 => ?_)
        · refine r_aload_n hC dX1_addLike_118 rfl ?_
          refine z_getR hM dX1_addLike_119 fl_RX1_24 rfl rfl (vld_of (n := 1) rfl (by omega) (by omega)) ?_
          refine r_bipush hC dX1_addLike_122 rfl ?_
          refine r_iload_n hC dX1_addLike_124 rfl ?_
          refine z_iastG hM dX1_addLike_125 rfl (by omega) (by omega) (by simp [Tl, DL, DF]) (by first | trivial | (simp only [Okv]; omega) | (simp [Okv]; try omega)) (fun ρ75 a_ρ75 q_ρ75 => ?_)
          refine y_vret hK rfl dX1_addLike_126 ?_
          exact k _ ((((Gx.rf).al a_ρ57 (by first | (simp; done) | omega | (simp; omega))).al a_ρ71 (by first | (simp; done) | omega | (simp; omega))).al a_ρ75 (by first | (simp; done) | omega | (simp; omega))) (by have hq := ((a_ρ75 _ _ _ (by first | exact xs_ (by decide) | exact xc_ (by decide) | omega)).trans ((a_ρ71 _ _ _ (by first | exact xs_ (by decide) | exact xc_ (by decide) | omega)).trans q_ρ57)); (repeat' split) <;> omega) (by have hq := ((a_ρ75 _ _ _ (by first | exact xs_ (by decide) | exact xc_ (by decide) | omega)).trans ((a_ρ71 _ _ _ (by first | exact xs_ (by decide) | exact xc_ (by decide) | omega)).trans ((a_ρ57 _ _ _ (by first | exact xs_ (by decide) | exact xc_ (by decide) | omega)).trans qg2))); (repeat' split) <;> omega) (by have hq := ((a_ρ75 _ _ _ (by first | exact xs_ (by decide) | exact xc_ (by decide) | omega)).trans q_ρ71); (repeat' split) <;> omega) (by have hq := ((a_ρ75 _ _ _ (by first | exact xs_ (by decide) | exact xc_ (by decide) | omega)).trans ((a_ρ71 _ _ _ (by first | exact xs_ (by decide) | exact xc_ (by decide) | omega)).trans ((a_ρ57 _ _ _ (by first | exact xs_ (by decide) | exact xc_ (by decide) | omega)).trans qg0))); (repeat' split) <;> omega) (by have hq := ((a_ρ75 _ _ _ (by first | exact xs_ (by decide) | exact xc_ (by decide) | omega)).trans ((a_ρ71 _ _ _ (by first | exact xs_ (by decide) | exact xc_ (by decide) | omega)).trans ((a_ρ57 _ _ _ (by first | exact xs_ (by decide) | exact xc_ (by decide) | omega)).trans qg1))); (repeat' split) <;> omega) (by have hq := ((a_ρ75 _ _ _ (by first | exact xs_ (by decide) | exact xc_ (by decide) | omega)).trans ((a_ρ71 _ _ _ (by first | exact xs_ (by decide) | exact xc_ (by decide) | omega)).trans ((a_ρ57 _ _ _ (by first | exact xs_ (by decide) | exact xc_ (by decide) | omega)).trans qg5))); (repeat' split) <;> omega) (by have hq := q_ρ75; (repeat' split) <;> omega)
        · refine r_aload_n hC dX1_addLike_99 rfl ?_
          refine z_getR hM dX1_addLike_100 fl_RX1_24 rfl rfl (vld_of (n := 1) rfl (by omega) (by omega)) ?_
          refine r_iconst hC dX1_addLike_103 rfl ?_
          refine r_aload_n hC dX1_addLike_104 rfl ?_
          refine z_getR hM dX1_addLike_105 fl_RX1_24 rfl rfl (vld_of (n := 1) rfl (by omega) (by omega)) ?_
          refine r_iconst hC dX1_addLike_108 rfl ?_
          refine z_iald hM dX1_addLike_109 rfl (by omega) (by omega) (fun v76 h_v76 o_v76 t_v76 => ?_)
          have e_v76 : (n4 + 1) = v76 := ((t_v76 ((by simp [Tk, Tb, DL, DF, DX]))).trans ((a_ρ71 _ _ _ (by first | exact xs_ (by decide) | exact xc_ (by decide) | omega)).trans q_ρ57)).symm
          clear t_v76
          subst e_v76
          refine z_iastG hM dX1_addLike_110 rfl (by omega) (by omega) (by simp [Tl, DL, DF]) (by first | trivial | (simp only [Okv]; omega) | (simp [Okv]; try omega)) (fun ρ77 a_ρ77 q_ρ77 => ?_)
          refine r_aload_n hC dX1_addLike_111 rfl ?_
          refine z_getR hM dX1_addLike_112 fl_RX1_24 rfl rfl (vld_of (n := 1) rfl (by omega) (by omega)) ?_
          refine r_iconst hC dX1_addLike_115 rfl ?_
          refine r_iload_n hC dX1_addLike_116 rfl ?_
          refine z_iastG hM dX1_addLike_117 rfl (by omega) (by omega) (by simp [Tl, DL, DF]) (by first | trivial | (simp only [Okv]; omega) | (simp [Okv]; try omega)) (fun ρ78 a_ρ78 q_ρ78 => ?_)
          refine r_aload_n hC dX1_addLike_118 rfl ?_
          refine z_getR hM dX1_addLike_119 fl_RX1_24 rfl rfl (vld_of (n := 1) rfl (by omega) (by omega)) ?_
          refine r_bipush hC dX1_addLike_122 rfl ?_
          refine r_iload_n hC dX1_addLike_124 rfl ?_
          refine z_iastG hM dX1_addLike_125 rfl (by omega) (by omega) (by simp [Tl, DL, DF]) (by first | trivial | (simp only [Okv]; omega) | (simp [Okv]; try omega)) (fun ρ79 a_ρ79 q_ρ79 => ?_)
          refine y_vret hK rfl dX1_addLike_126 ?_
          exact k _ ((((((Gx.rf).al a_ρ57 (by first | (simp; done) | omega | (simp; omega))).al a_ρ71 (by first | (simp; done) | omega | (simp; omega))).al a_ρ77 (by first | (simp; done) | omega | (simp; omega))).al a_ρ78 (by first | (simp; done) | omega | (simp; omega))).al a_ρ79 (by first | (simp; done) | omega | (simp; omega))) (by have hq := ((a_ρ79 _ _ _ (by first | exact xs_ (by decide) | exact xc_ (by decide) | omega)).trans ((a_ρ78 _ _ _ (by first | exact xs_ (by decide) | exact xc_ (by decide) | omega)).trans ((a_ρ77 _ _ _ (by first | exact xs_ (by decide) | exact xc_ (by decide) | omega)).trans ((a_ρ71 _ _ _ (by first | exact xs_ (by decide) | exact xc_ (by decide) | omega)).trans q_ρ57)))); (repeat' split) <;> omega) (by have hq := ((a_ρ79 _ _ _ (by first | exact xs_ (by decide) | exact xc_ (by decide) | omega)).trans ((a_ρ78 _ _ _ (by first | exact xs_ (by decide) | exact xc_ (by decide) | omega)).trans ((a_ρ77 _ _ _ (by first | exact xs_ (by decide) | exact xc_ (by decide) | omega)).trans ((a_ρ71 _ _ _ (by first | exact xs_ (by decide) | exact xc_ (by decide) | omega)).trans ((a_ρ57 _ _ _ (by first | exact xs_ (by decide) | exact xc_ (by decide) | omega)).trans qg2))))); (repeat' split) <;> omega) (by have hq := ((a_ρ79 _ _ _ (by first | exact xs_ (by decide) | exact xc_ (by decide) | omega)).trans ((a_ρ78 _ _ _ (by first | exact xs_ (by decide) | exact xc_ (by decide) | omega)).trans ((a_ρ77 _ _ _ (by first | exact xs_ (by decide) | exact xc_ (by decide) | omega)).trans q_ρ71))); (repeat' split) <;> omega) (by have hq := ((a_ρ79 _ _ _ (by first | exact xs_ (by decide) | exact xc_ (by decide) | omega)).trans ((a_ρ78 _ _ _ (by first | exact xs_ (by decide) | exact xc_ (by decide) | omega)).trans q_ρ77)); (repeat' split) <;> omega) (by have hq := ((a_ρ79 _ _ _ (by first | exact xs_ (by decide) | exact xc_ (by decide) | omega)).trans q_ρ78); (repeat' split) <;> omega) (by have hq := ((a_ρ79 _ _ _ (by first | exact xs_ (by decide) | exact xc_ (by decide) | omega)).trans ((a_ρ78 _ _ _ (by first | exact xs_ (by decide) | exact xc_ (by decide) | omega)).trans ((a_ρ77 _ _ _ (by first | exact xs_ (by decide) | exact xc_ (by decide) | omega)).trans ((a_ρ71 _ _ _ (by first | exact xs_ (by decide) | exact xc_ (by decide) | omega)).trans ((a_ρ57 _ _ _ (by first | exact xs_ (by decide) | exact xc_ (by decide) | omega)).trans qg5))))); (repeat' split) <;> omega) (by have hq := q_ρ79; (repeat' split) <;> omega)
theorem x_addStep {eb : Bool} {d : Nat} {P : Option Vl → Mm → Prop} {σ : Mm} {v n0 n1 n2 n3 n4 n r : Int} (b_v : -1000 ≤ v ∧ v ≤ 1000) (b_n0 : 0 ≤ n0 ∧ n0 ≤ 1000) (qg0 : σ 17 0 0 = n0) (b_n1 : 0 ≤ n1 ∧ n1 ≤ 1000) (qg1 : σ 17 0 1 = n1) (qg2 : σ 17 0 2 = n2) (qg3 : σ 17 0 3 = n3) (b_n4 : 0 ≤ n4 ∧ n4 ≤ 1000) (qg4 : σ 17 0 4 = n4) (b_n : 0 ≤ n ∧ n ≤ 1000) (qg5 : σ 14 0 6 = n) (b_r : 0 ≤ r ∧ r ≤ 1000) (qg6 : σ 14 0 7 = r)  (k : ∀ ρ : Mm, Gx (fun c x y => c = 17 ∧ x = 0 ∨ c = 14 ∧ x = 0 ∧ y = 7) σ ρ → ρ 17 0 0 = (n0 + (if (0 < n ∧ v < n3) then 1 else 0)) → ρ 17 0 1 = (n1 + (if 0 < n ∧ v > n3 then 1 else 0)) → ρ 17 0 2 = (if n = 0 then v else n2) → ρ 17 0 3 = (v) → ρ 17 0 4 = (max n4 (if (0 < n ∧ v < n3) then 1 else r + 1)) → ρ 14 0 7 = (if (0 < n ∧ v < n3) then 1 else r + 1) → P none ρ) : WT (true, true, eb) (d + 2) 22 [vR 14 0, vI v] σ P := by
  refine WT_in fun K hK => ?_
  have hK : StpY (true, true, eb) cX1_addStep RX1 (none) (WT (true, true, eb) (d + 1)) P K := hK
  have hM := hK.1
  have hC := hK.1.1
  show K 0 [some (vR 14 0), some (vI v), none, none, none] [] σ
  refine r_aload_n hC dX1_addStep_0 rfl ?_
  refine z_getI (jz := 6) hM dX1_addStep_1 fl_RX1_34 rfl rfl rfl (fun v1 h_v1 o_v1 t_v1 => ?_)
  have e_v1 : n = v1 := ((t_v1 ((by simp [Tk, Tb, DL, DF, DX]))).trans qg5).symm
  clear t_v1
  subst e_v1
  refine r_if_ne (tgt := 11) hC dX1_addStep_4 rfl (fun h2 => ?_) (fun h2 => ?_)
  · refine r_iconst hC dX1_addStep_11 rfl ?_
    refine r_istore_n hC dX1_addStep_12 rfl ?_
    refine r_iload_n hC dX1_addStep_13 rfl ?_
    refine r_if_ne (tgt := 31) hC dX1_addStep_14 rfl (fun h3 => by omega) (fun h3 => ?_)
    refine r_iload_n hC dX1_addStep_17 rfl ?_
    refine r_aload_n hC dX1_addStep_18 rfl ?_
    refine z_getR hM dX1_addStep_19 fl_RX1_24 rfl rfl (vld_of (n := 1) rfl (by omega) (by omega)) ?_
    refine r_iconst hC dX1_addStep_22 rfl ?_
    refine z_iald hM dX1_addStep_23 rfl (by omega) (by omega) (fun v4 h_v4 o_v4 t_v4 => ?_)
    have e_v4 : n3 = v4 := ((t_v4 ((by simp [Tk, Tb, DL, DF, DX]))).trans qg3).symm
    clear t_v4
    subst e_v4
    refine r_icmp_ge (tgt := 31) hC dX1_addStep_24 rfl (fun h5 => ?_) (fun h5 => ?_)
    · refine r_iconst hC dX1_addStep_31 rfl ?_
      refine r_istore_n hC dX1_addStep_32 rfl ?_
      refine r_iload_n hC dX1_addStep_33 rfl ?_
      refine r_if_ne (tgt := 51) hC dX1_addStep_34 rfl (fun h6 => by omega) (fun h6 => ?_)
      refine r_iload_n hC dX1_addStep_37 rfl ?_
      refine r_aload_n hC dX1_addStep_38 rfl ?_
      refine z_getR hM dX1_addStep_39 fl_RX1_24 rfl rfl (vld_of (n := 1) rfl (by omega) (by omega)) ?_
      refine r_iconst hC dX1_addStep_42 rfl ?_
      refine z_iald hM dX1_addStep_43 rfl (by omega) (by omega) (fun v7 h_v7 o_v7 t_v7 => ?_)
      have e_v7 : n3 = v7 := ((t_v7 ((by simp [Tk, Tb, DL, DF, DX]))).trans qg3).symm
      clear t_v7
      subst e_v7
      refine r_icmp_le (tgt := 51) hC dX1_addStep_44 rfl (fun h8 => ?_) (fun h8 => ?_)
      · refine r_iconst hC dX1_addStep_51 rfl ?_
        refine r_istore hC dX1_addStep_52 rfl ?_
        refine r_aload_n hC dX1_addStep_54 rfl ?_
        refine z_getR hM dX1_addStep_55 fl_RX1_24 rfl rfl (vld_of (n := 1) rfl (by omega) (by omega)) ?_
        refine r_iconst hC dX1_addStep_58 rfl ?_
        refine r_dup2 hC dX1_addStep_59 rfl rfl ?_
        refine z_iald hM dX1_addStep_60 rfl (by omega) (by omega) (fun v9 h_v9 o_v9 t_v9 => ?_)
        have e_v9 : n0 = v9 := ((t_v9 ((by simp [Tk, Tb, DL, DF, DX]))).trans qg0).symm
        clear t_v9
        subst e_v9
        refine r_iload_n hC dX1_addStep_61 rfl ?_
        refine r_if_eq (tgt := 69) hC dX1_addStep_62 rfl (fun h10 => ?_) (fun h10 => by omega)
        refine r_iconst hC dX1_addStep_69 rfl ?_
        refine r_iaddE hC (n0) dX1_addStep_70 (by omega) (by unfold inR; omega) ?_
        refine z_iastG hM dX1_addStep_71 rfl (by omega) (by omega) (by simp [Tl, DL, DF]) (by first | trivial | (simp only [Okv]; omega) | (simp [Okv]; try omega)) (fun ρ11 a_ρ11 q_ρ11 => ?_)
        refine r_aload_n hC dX1_addStep_72 rfl ?_
        refine z_getR hM dX1_addStep_73 fl_RX1_24 rfl rfl (vld_of (n := 1) rfl (by omega) (by omega)) ?_
        refine r_iconst hC dX1_addStep_76 rfl ?_
        refine r_dup2 hC dX1_addStep_77 rfl rfl ?_
        refine z_iald hM dX1_addStep_78 rfl (by omega) (by omega) (fun v12 h_v12 o_v12 t_v12 => ?_)
        have e_v12 : n1 = v12 := ((t_v12 ((by simp [Tk, Tb, DL, DF, DX]))).trans ((a_ρ11 _ _ _ (by first | exact xs_ (by decide) | exact xc_ (by decide) | omega)).trans qg1)).symm
        clear t_v12
        subst e_v12
        refine r_iload hC dX1_addStep_79 rfl ?_
        refine r_if_eq (tgt := 88) hC dX1_addStep_81 rfl (fun h13 => ?_) (fun h13 => by omega)
        refine r_iconst hC dX1_addStep_88 rfl ?_
        refine r_iaddE hC (n1) dX1_addStep_89 (by omega) (by unfold inR; omega) ?_
        refine z_iastG hM dX1_addStep_90 rfl (by omega) (by omega) (by simp [Tl, DL, DF]) (by first | trivial | (simp only [Okv]; omega) | (simp [Okv]; try omega)) (fun ρ14 a_ρ14 q_ρ14 => ?_)
        refine r_aload_n hC dX1_addStep_91 rfl ?_
        refine z_getR hM dX1_addStep_92 fl_RX1_24 rfl rfl (vld_of (n := 1) rfl (by omega) (by omega)) ?_
        refine r_iconst hC dX1_addStep_95 rfl ?_
        refine r_iload_n hC dX1_addStep_96 rfl ?_
        refine r_if_eq (tgt := 104) hC dX1_addStep_97 rfl (fun h15 => ?_) (fun h15 => by omega)
        refine r_aload_n hC dX1_addStep_104 rfl ?_
        refine z_getR hM dX1_addStep_105 fl_RX1_24 rfl rfl (vld_of (n := 1) rfl (by omega) (by omega)) ?_
        refine r_iconst hC dX1_addStep_108 rfl ?_
        refine z_iald hM dX1_addStep_109 rfl (by omega) (by omega) (fun v16 h_v16 o_v16 t_v16 => ?_)
        have e_v16 : n2 = v16 := ((t_v16 ((by simp [Tk, Tb, DL, DF, DX]))).trans ((a_ρ14 _ _ _ (by first | exact xs_ (by decide) | exact xc_ (by decide) | omega)).trans ((a_ρ11 _ _ _ (by first | exact xs_ (by decide) | exact xc_ (by decide) | omega)).trans qg2))).symm
        clear t_v16
        subst e_v16
        refine z_iastG hM dX1_addStep_110 rfl (by omega) (by omega) (by simp [Tl, DL, DF]) (by first | trivial | (simp only [Okv]; omega) | (simp [Okv]; try omega)) (fun ρ17 a_ρ17 q_ρ17 => ?_)
        refine r_aload_n hC dX1_addStep_111 rfl ?_
        refine z_getR hM dX1_addStep_112 fl_RX1_24 rfl rfl (vld_of (n := 1) rfl (by omega) (by omega)) ?_
        refine r_iconst hC dX1_addStep_115 rfl ?_
        refine r_iload_n hC dX1_addStep_116 rfl ?_
        refine z_iastG hM dX1_addStep_117 rfl (by omega) (by omega) (by simp [Tl, DL, DF]) (by first | trivial | (simp only [Okv]; omega) | (simp [Okv]; try omega)) (fun ρ18 a_ρ18 q_ρ18 => ?_)
        refine r_aload_n hC dX1_addStep_118 rfl ?_
        refine r_iload_n hC dX1_addStep_119 rfl ?_
        refine r_if_eq (tgt := 127) hC dX1_addStep_120 rfl (fun h19 => ?_) (fun h19 => by omega)
        refine r_aload_n hC dX1_addStep_127 rfl ?_
        refine z_getI (jz := 7) hM dX1_addStep_128 fl_RX1_37 rfl rfl rfl (fun v20 h_v20 o_v20 t_v20 => ?_)
        have e_v20 : r = v20 := ((t_v20 ((by simp [Tk, Tb, DL, DF, DX]))).trans ((a_ρ18 _ _ _ (by first | exact xs_ (by decide) | exact xc_ (by decide) | omega)).trans ((a_ρ17 _ _ _ (by first | exact xs_ (by decide) | exact xc_ (by decide) | omega)).trans ((a_ρ14 _ _ _ (by first | exact xs_ (by decide) | exact xc_ (by decide) | omega)).trans ((a_ρ11 _ _ _ (by first | exact xs_ (by decide) | exact xc_ (by decide) | omega)).trans qg6))))).symm
        clear t_v20
        subst e_v20
        refine r_iconst hC dX1_addStep_131 rfl ?_
        refine r_iaddE hC ((r + 1)) dX1_addStep_132 (by omega) (by unfold inR; omega) ?_
        refine z_putIG (jz := 7) hM dX1_addStep_133 fw_RX1_37 rfl rfl rfl (by simp [Tl, DL, DF]) (by first | trivial | (simp only [Okv]; omega) | (simp [Okv]; try omega)) (fun ρ21 a_ρ21 q_ρ21 => ?_)
        refine r_aload_n hC dX1_addStep_136 rfl ?_
        refine z_getR hM dX1_addStep_137 fl_RX1_24 rfl rfl (vld_of (n := 1) rfl (by omega) (by omega)) ?_
        refine r_iconst hC dX1_addStep_140 rfl ?_
        refine r_aload_n hC dX1_addStep_141 rfl ?_
        refine z_getR hM dX1_addStep_142 fl_RX1_24 rfl rfl (vld_of (n := 1) rfl (by omega) (by omega)) ?_
        refine r_iconst hC dX1_addStep_145 rfl ?_
        refine z_iald hM dX1_addStep_146 rfl (by omega) (by omega) (fun v22 h_v22 o_v22 t_v22 => ?_)
        have e_v22 : n4 = v22 := ((t_v22 ((by simp [Tk, Tb, DL, DF, DX]))).trans ((a_ρ21 _ _ _ (by first | exact xs_ (by decide) | exact xc_ (by decide) | omega)).trans ((a_ρ18 _ _ _ (by first | exact xs_ (by decide) | exact xc_ (by decide) | omega)).trans ((a_ρ17 _ _ _ (by first | exact xs_ (by decide) | exact xc_ (by decide) | omega)).trans ((a_ρ14 _ _ _ (by first | exact xs_ (by decide) | exact xc_ (by decide) | omega)).trans ((a_ρ11 _ _ _ (by first | exact xs_ (by decide) | exact xc_ (by decide) | omega)).trans qg4)))))).symm
        clear t_v22
        subst e_v22
        refine r_aload_n hC dX1_addStep_147 rfl ?_
        refine z_getI (jz := 7) hM dX1_addStep_148 fl_RX1_37 rfl rfl rfl (fun v23 h_v23 o_v23 t_v23 => ?_)
        have e_v23 : (r + 1) = v23 := ((t_v23 ((by simp [Tk, Tb, DL, DF, DX]))).trans q_ρ21).symm
        clear t_v23
        subst e_v23
        refine z_ins2 hM dX1_addStep_151 tl_RX1_97 rfl (Nat.le_of_ble_eq_true rfl) (Nat.le_of_ble_eq_true rfl) ?_
        refine x_max (fun v24 h_v24 => ?_)
        refine z_iastG hM dX1_addStep_154 rfl (by omega) (by omega) (by simp [Tl, DL, DF]) (by first | trivial | (simp only [Okv]; omega) | (simp [Okv]; try omega)) (fun ρ25 a_ρ25 q_ρ25 => ?_)
        refine y_vret hK rfl dX1_addStep_155 ?_
        exact k _ (((((((Gx.rf).al a_ρ11 (by first | (simp; done) | omega | (simp; omega))).al a_ρ14 (by first | (simp; done) | omega | (simp; omega))).al a_ρ17 (by first | (simp; done) | omega | (simp; omega))).al a_ρ18 (by first | (simp; done) | omega | (simp; omega))).al a_ρ21 (by first | (simp; done) | omega | (simp; omega))).al a_ρ25 (by first | (simp; done) | omega | (simp; omega))) (by have hq := ((a_ρ25 _ _ _ (by first | exact xs_ (by decide) | exact xc_ (by decide) | omega)).trans ((a_ρ21 _ _ _ (by first | exact xs_ (by decide) | exact xc_ (by decide) | omega)).trans ((a_ρ18 _ _ _ (by first | exact xs_ (by decide) | exact xc_ (by decide) | omega)).trans ((a_ρ17 _ _ _ (by first | exact xs_ (by decide) | exact xc_ (by decide) | omega)).trans ((a_ρ14 _ _ _ (by first | exact xs_ (by decide) | exact xc_ (by decide) | omega)).trans q_ρ11))))); (repeat' split) <;> omega) (by have hq := ((a_ρ25 _ _ _ (by first | exact xs_ (by decide) | exact xc_ (by decide) | omega)).trans ((a_ρ21 _ _ _ (by first | exact xs_ (by decide) | exact xc_ (by decide) | omega)).trans ((a_ρ18 _ _ _ (by first | exact xs_ (by decide) | exact xc_ (by decide) | omega)).trans ((a_ρ17 _ _ _ (by first | exact xs_ (by decide) | exact xc_ (by decide) | omega)).trans q_ρ14)))); (repeat' split) <;> omega) (by have hq := ((a_ρ25 _ _ _ (by first | exact xs_ (by decide) | exact xc_ (by decide) | omega)).trans ((a_ρ21 _ _ _ (by first | exact xs_ (by decide) | exact xc_ (by decide) | omega)).trans ((a_ρ18 _ _ _ (by first | exact xs_ (by decide) | exact xc_ (by decide) | omega)).trans q_ρ17))); (repeat' split) <;> omega) (by have hq := ((a_ρ25 _ _ _ (by first | exact xs_ (by decide) | exact xc_ (by decide) | omega)).trans ((a_ρ21 _ _ _ (by first | exact xs_ (by decide) | exact xc_ (by decide) | omega)).trans q_ρ18)); (repeat' split) <;> omega) (by have hq := q_ρ25; (repeat' split) <;> omega) (by have hq := ((a_ρ25 _ _ _ (by first | exact xs_ (by decide) | exact xc_ (by decide) | omega)).trans q_ρ21); (repeat' split) <;> omega)
      · refine r_iconst hC dX1_addStep_47 rfl ?_
        refine r_goto (tgt := 52) hC dX1_addStep_48 rfl ?_
        refine r_istore hC dX1_addStep_52 rfl ?_
        refine r_aload_n hC dX1_addStep_54 rfl ?_
        refine z_getR hM dX1_addStep_55 fl_RX1_24 rfl rfl (vld_of (n := 1) rfl (by omega) (by omega)) ?_
        refine r_iconst hC dX1_addStep_58 rfl ?_
        refine r_dup2 hC dX1_addStep_59 rfl rfl ?_
        refine z_iald hM dX1_addStep_60 rfl (by omega) (by omega) (fun v26 h_v26 o_v26 t_v26 => ?_)
        have e_v26 : n0 = v26 := ((t_v26 ((by simp [Tk, Tb, DL, DF, DX]))).trans qg0).symm
        clear t_v26
        subst e_v26
        refine r_iload_n hC dX1_addStep_61 rfl ?_
        refine r_if_eq (tgt := 69) hC dX1_addStep_62 rfl (fun h27 => ?_) (fun h27 => by omega)
        refine r_iconst hC dX1_addStep_69 rfl ?_
        refine r_iaddE hC (n0) dX1_addStep_70 (by omega) (by unfold inR; omega) ?_
        refine z_iastG hM dX1_addStep_71 rfl (by omega) (by omega) (by simp [Tl, DL, DF]) (by first | trivial | (simp only [Okv]; omega) | (simp [Okv]; try omega)) (fun ρ28 a_ρ28 q_ρ28 => ?_)
        refine r_aload_n hC dX1_addStep_72 rfl ?_
        refine z_getR hM dX1_addStep_73 fl_RX1_24 rfl rfl (vld_of (n := 1) rfl (by omega) (by omega)) ?_
        refine r_iconst hC dX1_addStep_76 rfl ?_
        refine r_dup2 hC dX1_addStep_77 rfl rfl ?_
        refine z_iald hM dX1_addStep_78 rfl (by omega) (by omega) (fun v29 h_v29 o_v29 t_v29 => ?_)
        have e_v29 : n1 = v29 := ((t_v29 ((by simp [Tk, Tb, DL, DF, DX]))).trans ((a_ρ28 _ _ _ (by first | exact xs_ (by decide) | exact xc_ (by decide) | omega)).trans qg1)).symm
        clear t_v29
        subst e_v29
        refine r_iload hC dX1_addStep_79 rfl ?_
        refine r_if_eq (tgt := 88) hC dX1_addStep_81 rfl (fun h30 => by omega) (fun h30 => ?_)
        refine r_iconst hC dX1_addStep_84 rfl ?_
        refine r_goto (tgt := 89) hC dX1_addStep_85 rfl ?_
        refine r_iaddE hC ((n1 + 1)) dX1_addStep_89 (by omega) (by unfold inR; omega) ?_
        refine z_iastG hM dX1_addStep_90 rfl (by omega) (by omega) (by simp [Tl, DL, DF]) (by first | trivial | (simp only [Okv]; omega) | (simp [Okv]; try omega)) (fun ρ31 a_ρ31 q_ρ31 => ?_)
        refine r_aload_n hC dX1_addStep_91 rfl ?_
        refine z_getR hM dX1_addStep_92 fl_RX1_24 rfl rfl (vld_of (n := 1) rfl (by omega) (by omega)) ?_
        refine r_iconst hC dX1_addStep_95 rfl ?_
        refine r_iload_n hC dX1_addStep_96 rfl ?_
        refine r_if_eq (tgt := 104) hC dX1_addStep_97 rfl (fun h32 => ?_) (fun h32 => by omega)
        refine r_aload_n hC dX1_addStep_104 rfl ?_
        refine z_getR hM dX1_addStep_105 fl_RX1_24 rfl rfl (vld_of (n := 1) rfl (by omega) (by omega)) ?_
        refine r_iconst hC dX1_addStep_108 rfl ?_
        refine z_iald hM dX1_addStep_109 rfl (by omega) (by omega) (fun v33 h_v33 o_v33 t_v33 => ?_)
        have e_v33 : n2 = v33 := ((t_v33 ((by simp [Tk, Tb, DL, DF, DX]))).trans ((a_ρ31 _ _ _ (by first | exact xs_ (by decide) | exact xc_ (by decide) | omega)).trans ((a_ρ28 _ _ _ (by first | exact xs_ (by decide) | exact xc_ (by decide) | omega)).trans qg2))).symm
        clear t_v33
        subst e_v33
        refine z_iastG hM dX1_addStep_110 rfl (by omega) (by omega) (by simp [Tl, DL, DF]) (by first | trivial | (simp only [Okv]; omega) | (simp [Okv]; try omega)) (fun ρ34 a_ρ34 q_ρ34 => ?_)
        refine r_aload_n hC dX1_addStep_111 rfl ?_
        refine z_getR hM dX1_addStep_112 fl_RX1_24 rfl rfl (vld_of (n := 1) rfl (by omega) (by omega)) ?_
        refine r_iconst hC dX1_addStep_115 rfl ?_
        refine r_iload_n hC dX1_addStep_116 rfl ?_
        refine z_iastG hM dX1_addStep_117 rfl (by omega) (by omega) (by simp [Tl, DL, DF]) (by first | trivial | (simp only [Okv]; omega) | (simp [Okv]; try omega)) (fun ρ35 a_ρ35 q_ρ35 => ?_)
        refine r_aload_n hC dX1_addStep_118 rfl ?_
        refine r_iload_n hC dX1_addStep_119 rfl ?_
        refine r_if_eq (tgt := 127) hC dX1_addStep_120 rfl (fun h36 => ?_) (fun h36 => by omega)
        refine r_aload_n hC dX1_addStep_127 rfl ?_
        refine z_getI (jz := 7) hM dX1_addStep_128 fl_RX1_37 rfl rfl rfl (fun v37 h_v37 o_v37 t_v37 => ?_)
        have e_v37 : r = v37 := ((t_v37 ((by simp [Tk, Tb, DL, DF, DX]))).trans ((a_ρ35 _ _ _ (by first | exact xs_ (by decide) | exact xc_ (by decide) | omega)).trans ((a_ρ34 _ _ _ (by first | exact xs_ (by decide) | exact xc_ (by decide) | omega)).trans ((a_ρ31 _ _ _ (by first | exact xs_ (by decide) | exact xc_ (by decide) | omega)).trans ((a_ρ28 _ _ _ (by first | exact xs_ (by decide) | exact xc_ (by decide) | omega)).trans qg6))))).symm
        clear t_v37
        subst e_v37
        refine r_iconst hC dX1_addStep_131 rfl ?_
        refine r_iaddE hC ((r + 1)) dX1_addStep_132 (by omega) (by unfold inR; omega) ?_
        refine z_putIG (jz := 7) hM dX1_addStep_133 fw_RX1_37 rfl rfl rfl (by simp [Tl, DL, DF]) (by first | trivial | (simp only [Okv]; omega) | (simp [Okv]; try omega)) (fun ρ38 a_ρ38 q_ρ38 => ?_)
        refine r_aload_n hC dX1_addStep_136 rfl ?_
        refine z_getR hM dX1_addStep_137 fl_RX1_24 rfl rfl (vld_of (n := 1) rfl (by omega) (by omega)) ?_
        refine r_iconst hC dX1_addStep_140 rfl ?_
        refine r_aload_n hC dX1_addStep_141 rfl ?_
        refine z_getR hM dX1_addStep_142 fl_RX1_24 rfl rfl (vld_of (n := 1) rfl (by omega) (by omega)) ?_
        refine r_iconst hC dX1_addStep_145 rfl ?_
        refine z_iald hM dX1_addStep_146 rfl (by omega) (by omega) (fun v39 h_v39 o_v39 t_v39 => ?_)
        have e_v39 : n4 = v39 := ((t_v39 ((by simp [Tk, Tb, DL, DF, DX]))).trans ((a_ρ38 _ _ _ (by first | exact xs_ (by decide) | exact xc_ (by decide) | omega)).trans ((a_ρ35 _ _ _ (by first | exact xs_ (by decide) | exact xc_ (by decide) | omega)).trans ((a_ρ34 _ _ _ (by first | exact xs_ (by decide) | exact xc_ (by decide) | omega)).trans ((a_ρ31 _ _ _ (by first | exact xs_ (by decide) | exact xc_ (by decide) | omega)).trans ((a_ρ28 _ _ _ (by first | exact xs_ (by decide) | exact xc_ (by decide) | omega)).trans qg4)))))).symm
        clear t_v39
        subst e_v39
        refine r_aload_n hC dX1_addStep_147 rfl ?_
        refine z_getI (jz := 7) hM dX1_addStep_148 fl_RX1_37 rfl rfl rfl (fun v40 h_v40 o_v40 t_v40 => ?_)
        have e_v40 : (r + 1) = v40 := ((t_v40 ((by simp [Tk, Tb, DL, DF, DX]))).trans q_ρ38).symm
        clear t_v40
        subst e_v40
        refine z_ins2 hM dX1_addStep_151 tl_RX1_97 rfl (Nat.le_of_ble_eq_true rfl) (Nat.le_of_ble_eq_true rfl) ?_
        refine x_max (fun v41 h_v41 => ?_)
        refine z_iastG hM dX1_addStep_154 rfl (by omega) (by omega) (by simp [Tl, DL, DF]) (by first | trivial | (simp only [Okv]; omega) | (simp [Okv]; try omega)) (fun ρ42 a_ρ42 q_ρ42 => ?_)
        refine y_vret hK rfl dX1_addStep_155 ?_
        exact k _ (((((((Gx.rf).al a_ρ28 (by first | (simp; done) | omega | (simp; omega))).al a_ρ31 (by first | (simp; done) | omega | (simp; omega))).al a_ρ34 (by first | (simp; done) | omega | (simp; omega))).al a_ρ35 (by first | (simp; done) | omega | (simp; omega))).al a_ρ38 (by first | (simp; done) | omega | (simp; omega))).al a_ρ42 (by first | (simp; done) | omega | (simp; omega))) (by have hq := ((a_ρ42 _ _ _ (by first | exact xs_ (by decide) | exact xc_ (by decide) | omega)).trans ((a_ρ38 _ _ _ (by first | exact xs_ (by decide) | exact xc_ (by decide) | omega)).trans ((a_ρ35 _ _ _ (by first | exact xs_ (by decide) | exact xc_ (by decide) | omega)).trans ((a_ρ34 _ _ _ (by first | exact xs_ (by decide) | exact xc_ (by decide) | omega)).trans ((a_ρ31 _ _ _ (by first | exact xs_ (by decide) | exact xc_ (by decide) | omega)).trans q_ρ28))))); (repeat' split) <;> omega) (by have hq := ((a_ρ42 _ _ _ (by first | exact xs_ (by decide) | exact xc_ (by decide) | omega)).trans ((a_ρ38 _ _ _ (by first | exact xs_ (by decide) | exact xc_ (by decide) | omega)).trans ((a_ρ35 _ _ _ (by first | exact xs_ (by decide) | exact xc_ (by decide) | omega)).trans ((a_ρ34 _ _ _ (by first | exact xs_ (by decide) | exact xc_ (by decide) | omega)).trans q_ρ31)))); (repeat' split) <;> omega) (by have hq := ((a_ρ42 _ _ _ (by first | exact xs_ (by decide) | exact xc_ (by decide) | omega)).trans ((a_ρ38 _ _ _ (by first | exact xs_ (by decide) | exact xc_ (by decide) | omega)).trans ((a_ρ35 _ _ _ (by first | exact xs_ (by decide) | exact xc_ (by decide) | omega)).trans q_ρ34))); (repeat' split) <;> omega) (by have hq := ((a_ρ42 _ _ _ (by first | exact xs_ (by decide) | exact xc_ (by decide) | omega)).trans ((a_ρ38 _ _ _ (by first | exact xs_ (by decide) | exact xc_ (by decide) | omega)).trans q_ρ35)); (repeat' split) <;> omega) (by have hq := q_ρ42; (repeat' split) <;> omega) (by have hq := ((a_ρ42 _ _ _ (by first | exact xs_ (by decide) | exact xc_ (by decide) | omega)).trans q_ρ38); (repeat' split) <;> omega)
    · refine r_iconst hC dX1_addStep_27 rfl ?_
      refine r_goto (tgt := 32) hC dX1_addStep_28 rfl ?_
      refine r_istore_n hC dX1_addStep_32 rfl ?_
      refine r_iload_n hC dX1_addStep_33 rfl ?_
      refine r_if_ne (tgt := 51) hC dX1_addStep_34 rfl (fun h43 => by omega) (fun h43 => ?_)
      refine r_iload_n hC dX1_addStep_37 rfl ?_
      refine r_aload_n hC dX1_addStep_38 rfl ?_
      refine z_getR hM dX1_addStep_39 fl_RX1_24 rfl rfl (vld_of (n := 1) rfl (by omega) (by omega)) ?_
      refine r_iconst hC dX1_addStep_42 rfl ?_
      refine z_iald hM dX1_addStep_43 rfl (by omega) (by omega) (fun v44 h_v44 o_v44 t_v44 => ?_)
      have e_v44 : n3 = v44 := ((t_v44 ((by simp [Tk, Tb, DL, DF, DX]))).trans qg3).symm
      clear t_v44
      subst e_v44
      refine r_icmp_le (tgt := 51) hC dX1_addStep_44 rfl (fun h45 => ?_) (fun h45 => ?_)
      · refine r_iconst hC dX1_addStep_51 rfl ?_
        refine r_istore hC dX1_addStep_52 rfl ?_
        refine r_aload_n hC dX1_addStep_54 rfl ?_
        refine z_getR hM dX1_addStep_55 fl_RX1_24 rfl rfl (vld_of (n := 1) rfl (by omega) (by omega)) ?_
        refine r_iconst hC dX1_addStep_58 rfl ?_
        refine r_dup2 hC dX1_addStep_59 rfl rfl ?_
        refine z_iald hM dX1_addStep_60 rfl (by omega) (by omega) (fun v46 h_v46 o_v46 t_v46 => ?_)
        have e_v46 : n0 = v46 := ((t_v46 ((by simp [Tk, Tb, DL, DF, DX]))).trans qg0).symm
        clear t_v46
        subst e_v46
        refine r_iload_n hC dX1_addStep_61 rfl ?_
        refine r_if_eq (tgt := 69) hC dX1_addStep_62 rfl (fun h47 => by omega) (fun h47 => ?_)
        refine r_iconst hC dX1_addStep_65 rfl ?_
        refine r_goto (tgt := 70) hC dX1_addStep_66 rfl ?_
        refine r_iaddE hC ((n0 + 1)) dX1_addStep_70 (by omega) (by unfold inR; omega) ?_
        refine z_iastG hM dX1_addStep_71 rfl (by omega) (by omega) (by simp [Tl, DL, DF]) (by first | trivial | (simp only [Okv]; omega) | (simp [Okv]; try omega)) (fun ρ48 a_ρ48 q_ρ48 => ?_)
        refine r_aload_n hC dX1_addStep_72 rfl ?_
        refine z_getR hM dX1_addStep_73 fl_RX1_24 rfl rfl (vld_of (n := 1) rfl (by omega) (by omega)) ?_
        refine r_iconst hC dX1_addStep_76 rfl ?_
        refine r_dup2 hC dX1_addStep_77 rfl rfl ?_
        refine z_iald hM dX1_addStep_78 rfl (by omega) (by omega) (fun v49 h_v49 o_v49 t_v49 => ?_)
        have e_v49 : n1 = v49 := ((t_v49 ((by simp [Tk, Tb, DL, DF, DX]))).trans ((a_ρ48 _ _ _ (by first | exact xs_ (by decide) | exact xc_ (by decide) | omega)).trans qg1)).symm
        clear t_v49
        subst e_v49
        refine r_iload hC dX1_addStep_79 rfl ?_
        refine r_if_eq (tgt := 88) hC dX1_addStep_81 rfl (fun h50 => ?_) (fun h50 => by omega)
        refine r_iconst hC dX1_addStep_88 rfl ?_
        refine r_iaddE hC (n1) dX1_addStep_89 (by omega) (by unfold inR; omega) ?_
        refine z_iastG hM dX1_addStep_90 rfl (by omega) (by omega) (by simp [Tl, DL, DF]) (by first | trivial | (simp only [Okv]; omega) | (simp [Okv]; try omega)) (fun ρ51 a_ρ51 q_ρ51 => ?_)
        refine r_aload_n hC dX1_addStep_91 rfl ?_
        refine z_getR hM dX1_addStep_92 fl_RX1_24 rfl rfl (vld_of (n := 1) rfl (by omega) (by omega)) ?_
        refine r_iconst hC dX1_addStep_95 rfl ?_
        refine r_iload_n hC dX1_addStep_96 rfl ?_
        refine r_if_eq (tgt := 104) hC dX1_addStep_97 rfl (fun h52 => ?_) (fun h52 => by omega)
        refine r_aload_n hC dX1_addStep_104 rfl ?_
        refine z_getR hM dX1_addStep_105 fl_RX1_24 rfl rfl (vld_of (n := 1) rfl (by omega) (by omega)) ?_
        refine r_iconst hC dX1_addStep_108 rfl ?_
        refine z_iald hM dX1_addStep_109 rfl (by omega) (by omega) (fun v53 h_v53 o_v53 t_v53 => ?_)
        have e_v53 : n2 = v53 := ((t_v53 ((by simp [Tk, Tb, DL, DF, DX]))).trans ((a_ρ51 _ _ _ (by first | exact xs_ (by decide) | exact xc_ (by decide) | omega)).trans ((a_ρ48 _ _ _ (by first | exact xs_ (by decide) | exact xc_ (by decide) | omega)).trans qg2))).symm
        clear t_v53
        subst e_v53
        refine z_iastG hM dX1_addStep_110 rfl (by omega) (by omega) (by simp [Tl, DL, DF]) (by first | trivial | (simp only [Okv]; omega) | (simp [Okv]; try omega)) (fun ρ54 a_ρ54 q_ρ54 => ?_)
        refine r_aload_n hC dX1_addStep_111 rfl ?_
        refine z_getR hM dX1_addStep_112 fl_RX1_24 rfl rfl (vld_of (n := 1) rfl (by omega) (by omega)) ?_
        refine r_iconst hC dX1_addStep_115 rfl ?_
        refine r_iload_n hC dX1_addStep_116 rfl ?_
        refine z_iastG hM dX1_addStep_117 rfl (by omega) (by omega) (by simp [Tl, DL, DF]) (by first | trivial | (simp only [Okv]; omega) | (simp [Okv]; try omega)) (fun ρ55 a_ρ55 q_ρ55 => ?_)
        refine r_aload_n hC dX1_addStep_118 rfl ?_
        refine r_iload_n hC dX1_addStep_119 rfl ?_
        refine r_if_eq (tgt := 127) hC dX1_addStep_120 rfl (fun h56 => by omega) (fun h56 => ?_)
        refine r_iconst hC dX1_addStep_123 rfl ?_
        refine r_goto (tgt := 133) hC dX1_addStep_124 rfl ?_
        refine z_putIG (jz := 7) hM dX1_addStep_133 fw_RX1_37 rfl rfl rfl (by simp [Tl, DL, DF]) (by first | trivial | (simp only [Okv]; omega) | (simp [Okv]; try omega)) (fun ρ57 a_ρ57 q_ρ57 => ?_)
        refine r_aload_n hC dX1_addStep_136 rfl ?_
        refine z_getR hM dX1_addStep_137 fl_RX1_24 rfl rfl (vld_of (n := 1) rfl (by omega) (by omega)) ?_
        refine r_iconst hC dX1_addStep_140 rfl ?_
        refine r_aload_n hC dX1_addStep_141 rfl ?_
        refine z_getR hM dX1_addStep_142 fl_RX1_24 rfl rfl (vld_of (n := 1) rfl (by omega) (by omega)) ?_
        refine r_iconst hC dX1_addStep_145 rfl ?_
        refine z_iald hM dX1_addStep_146 rfl (by omega) (by omega) (fun v58 h_v58 o_v58 t_v58 => ?_)
        have e_v58 : n4 = v58 := ((t_v58 ((by simp [Tk, Tb, DL, DF, DX]))).trans ((a_ρ57 _ _ _ (by first | exact xs_ (by decide) | exact xc_ (by decide) | omega)).trans ((a_ρ55 _ _ _ (by first | exact xs_ (by decide) | exact xc_ (by decide) | omega)).trans ((a_ρ54 _ _ _ (by first | exact xs_ (by decide) | exact xc_ (by decide) | omega)).trans ((a_ρ51 _ _ _ (by first | exact xs_ (by decide) | exact xc_ (by decide) | omega)).trans ((a_ρ48 _ _ _ (by first | exact xs_ (by decide) | exact xc_ (by decide) | omega)).trans qg4)))))).symm
        clear t_v58
        subst e_v58
        refine r_aload_n hC dX1_addStep_147 rfl ?_
        refine z_getI (jz := 7) hM dX1_addStep_148 fl_RX1_37 rfl rfl rfl (fun v59 h_v59 o_v59 t_v59 => ?_)
        have e_v59 : 1 = v59 := ((t_v59 ((by simp [Tk, Tb, DL, DF, DX]))).trans q_ρ57).symm
        clear t_v59
        subst e_v59
        refine z_ins2 hM dX1_addStep_151 tl_RX1_97 rfl (Nat.le_of_ble_eq_true rfl) (Nat.le_of_ble_eq_true rfl) ?_
        refine x_max (fun v60 h_v60 => ?_)
        refine z_iastG hM dX1_addStep_154 rfl (by omega) (by omega) (by simp [Tl, DL, DF]) (by first | trivial | (simp only [Okv]; omega) | (simp [Okv]; try omega)) (fun ρ61 a_ρ61 q_ρ61 => ?_)
        refine y_vret hK rfl dX1_addStep_155 ?_
        exact k _ (((((((Gx.rf).al a_ρ48 (by first | (simp; done) | omega | (simp; omega))).al a_ρ51 (by first | (simp; done) | omega | (simp; omega))).al a_ρ54 (by first | (simp; done) | omega | (simp; omega))).al a_ρ55 (by first | (simp; done) | omega | (simp; omega))).al a_ρ57 (by first | (simp; done) | omega | (simp; omega))).al a_ρ61 (by first | (simp; done) | omega | (simp; omega))) (by have hq := ((a_ρ61 _ _ _ (by first | exact xs_ (by decide) | exact xc_ (by decide) | omega)).trans ((a_ρ57 _ _ _ (by first | exact xs_ (by decide) | exact xc_ (by decide) | omega)).trans ((a_ρ55 _ _ _ (by first | exact xs_ (by decide) | exact xc_ (by decide) | omega)).trans ((a_ρ54 _ _ _ (by first | exact xs_ (by decide) | exact xc_ (by decide) | omega)).trans ((a_ρ51 _ _ _ (by first | exact xs_ (by decide) | exact xc_ (by decide) | omega)).trans q_ρ48))))); (repeat' split) <;> omega) (by have hq := ((a_ρ61 _ _ _ (by first | exact xs_ (by decide) | exact xc_ (by decide) | omega)).trans ((a_ρ57 _ _ _ (by first | exact xs_ (by decide) | exact xc_ (by decide) | omega)).trans ((a_ρ55 _ _ _ (by first | exact xs_ (by decide) | exact xc_ (by decide) | omega)).trans ((a_ρ54 _ _ _ (by first | exact xs_ (by decide) | exact xc_ (by decide) | omega)).trans q_ρ51)))); (repeat' split) <;> omega) (by have hq := ((a_ρ61 _ _ _ (by first | exact xs_ (by decide) | exact xc_ (by decide) | omega)).trans ((a_ρ57 _ _ _ (by first | exact xs_ (by decide) | exact xc_ (by decide) | omega)).trans ((a_ρ55 _ _ _ (by first | exact xs_ (by decide) | exact xc_ (by decide) | omega)).trans q_ρ54))); (repeat' split) <;> omega) (by have hq := ((a_ρ61 _ _ _ (by first | exact xs_ (by decide) | exact xc_ (by decide) | omega)).trans ((a_ρ57 _ _ _ (by first | exact xs_ (by decide) | exact xc_ (by decide) | omega)).trans q_ρ55)); (repeat' split) <;> omega) (by have hq := q_ρ61; (repeat' split) <;> omega) (by have hq := ((a_ρ61 _ _ _ (by first | exact xs_ (by decide) | exact xc_ (by decide) | omega)).trans q_ρ57); (repeat' split) <;> omega)
      · refine r_iconst hC dX1_addStep_47 rfl ?_
        refine r_goto (tgt := 52) hC dX1_addStep_48 rfl ?_
        refine r_istore hC dX1_addStep_52 rfl ?_
        refine r_aload_n hC dX1_addStep_54 rfl ?_
        refine z_getR hM dX1_addStep_55 fl_RX1_24 rfl rfl (vld_of (n := 1) rfl (by omega) (by omega)) ?_
        refine r_iconst hC dX1_addStep_58 rfl ?_
        refine r_dup2 hC dX1_addStep_59 rfl rfl ?_
        refine z_iald hM dX1_addStep_60 rfl (by omega) (by omega) (fun v62 h_v62 o_v62 t_v62 => ?_)
        have e_v62 : n0 = v62 := ((t_v62 ((by simp [Tk, Tb, DL, DF, DX]))).trans qg0).symm
        clear t_v62
        subst e_v62
        refine r_iload_n hC dX1_addStep_61 rfl ?_
        refine r_if_eq (tgt := 69) hC dX1_addStep_62 rfl (fun h63 => by omega) (fun h63 => ?_)
        refine r_iconst hC dX1_addStep_65 rfl ?_
        refine r_goto (tgt := 70) hC dX1_addStep_66 rfl ?_
        refine r_iaddE hC ((n0 + 1)) dX1_addStep_70 (by omega) (by unfold inR; omega) ?_
        refine z_iastG hM dX1_addStep_71 rfl (by omega) (by omega) (by simp [Tl, DL, DF]) (by first | trivial | (simp only [Okv]; omega) | (simp [Okv]; try omega)) (fun ρ64 a_ρ64 q_ρ64 => ?_)
        refine r_aload_n hC dX1_addStep_72 rfl ?_
        refine z_getR hM dX1_addStep_73 fl_RX1_24 rfl rfl (vld_of (n := 1) rfl (by omega) (by omega)) ?_
        refine r_iconst hC dX1_addStep_76 rfl ?_
        refine r_dup2 hC dX1_addStep_77 rfl rfl ?_
        refine z_iald hM dX1_addStep_78 rfl (by omega) (by omega) (fun v65 h_v65 o_v65 t_v65 => ?_)
        have e_v65 : n1 = v65 := ((t_v65 ((by simp [Tk, Tb, DL, DF, DX]))).trans ((a_ρ64 _ _ _ (by first | exact xs_ (by decide) | exact xc_ (by decide) | omega)).trans qg1)).symm
        clear t_v65
        subst e_v65
        refine r_iload hC dX1_addStep_79 rfl ?_
        refine r_if_eq (tgt := 88) hC dX1_addStep_81 rfl (fun h66 => by omega) (fun h66 => ?_)
        refine r_iconst hC dX1_addStep_84 rfl ?_
        refine r_goto (tgt := 89) hC dX1_addStep_85 rfl ?_
        refine r_iaddE hC ((n1 + 1)) dX1_addStep_89 (by omega) (by unfold inR; omega) ?_
        refine z_iastG hM dX1_addStep_90 rfl (by omega) (by omega) (by simp [Tl, DL, DF]) (by first | trivial | (simp only [Okv]; omega) | (simp [Okv]; try omega)) (fun ρ67 a_ρ67 q_ρ67 => ?_)
        refine r_aload_n hC dX1_addStep_91 rfl ?_
        refine z_getR hM dX1_addStep_92 fl_RX1_24 rfl rfl (vld_of (n := 1) rfl (by omega) (by omega)) ?_
        refine r_iconst hC dX1_addStep_95 rfl ?_
        refine r_iload_n hC dX1_addStep_96 rfl ?_
        refine r_if_eq (tgt := 104) hC dX1_addStep_97 rfl (fun h68 => ?_) (fun h68 => by omega)
        refine r_aload_n hC dX1_addStep_104 rfl ?_
        refine z_getR hM dX1_addStep_105 fl_RX1_24 rfl rfl (vld_of (n := 1) rfl (by omega) (by omega)) ?_
        refine r_iconst hC dX1_addStep_108 rfl ?_
        refine z_iald hM dX1_addStep_109 rfl (by omega) (by omega) (fun v69 h_v69 o_v69 t_v69 => ?_)
        have e_v69 : n2 = v69 := ((t_v69 ((by simp [Tk, Tb, DL, DF, DX]))).trans ((a_ρ67 _ _ _ (by first | exact xs_ (by decide) | exact xc_ (by decide) | omega)).trans ((a_ρ64 _ _ _ (by first | exact xs_ (by decide) | exact xc_ (by decide) | omega)).trans qg2))).symm
        clear t_v69
        subst e_v69
        refine z_iastG hM dX1_addStep_110 rfl (by omega) (by omega) (by simp [Tl, DL, DF]) (by first | trivial | (simp only [Okv]; omega) | (simp [Okv]; try omega)) (fun ρ70 a_ρ70 q_ρ70 => ?_)
        refine r_aload_n hC dX1_addStep_111 rfl ?_
        refine z_getR hM dX1_addStep_112 fl_RX1_24 rfl rfl (vld_of (n := 1) rfl (by omega) (by omega)) ?_
        refine r_iconst hC dX1_addStep_115 rfl ?_
        refine r_iload_n hC dX1_addStep_116 rfl ?_
        refine z_iastG hM dX1_addStep_117 rfl (by omega) (by omega) (by simp [Tl, DL, DF]) (by first | trivial | (simp only [Okv]; omega) | (simp [Okv]; try omega)) (fun ρ71 a_ρ71 q_ρ71 => ?_)
        refine r_aload_n hC dX1_addStep_118 rfl ?_
        refine r_iload_n hC dX1_addStep_119 rfl ?_
        refine r_if_eq (tgt := 127) hC dX1_addStep_120 rfl (fun h72 => by omega) (fun h72 => ?_)
        refine r_iconst hC dX1_addStep_123 rfl ?_
        refine r_goto (tgt := 133) hC dX1_addStep_124 rfl ?_
        refine z_putIG (jz := 7) hM dX1_addStep_133 fw_RX1_37 rfl rfl rfl (by simp [Tl, DL, DF]) (by first | trivial | (simp only [Okv]; omega) | (simp [Okv]; try omega)) (fun ρ73 a_ρ73 q_ρ73 => ?_)
        refine r_aload_n hC dX1_addStep_136 rfl ?_
        refine z_getR hM dX1_addStep_137 fl_RX1_24 rfl rfl (vld_of (n := 1) rfl (by omega) (by omega)) ?_
        refine r_iconst hC dX1_addStep_140 rfl ?_
        refine r_aload_n hC dX1_addStep_141 rfl ?_
        refine z_getR hM dX1_addStep_142 fl_RX1_24 rfl rfl (vld_of (n := 1) rfl (by omega) (by omega)) ?_
        refine r_iconst hC dX1_addStep_145 rfl ?_
        refine z_iald hM dX1_addStep_146 rfl (by omega) (by omega) (fun v74 h_v74 o_v74 t_v74 => ?_)
        have e_v74 : n4 = v74 := ((t_v74 ((by simp [Tk, Tb, DL, DF, DX]))).trans ((a_ρ73 _ _ _ (by first | exact xs_ (by decide) | exact xc_ (by decide) | omega)).trans ((a_ρ71 _ _ _ (by first | exact xs_ (by decide) | exact xc_ (by decide) | omega)).trans ((a_ρ70 _ _ _ (by first | exact xs_ (by decide) | exact xc_ (by decide) | omega)).trans ((a_ρ67 _ _ _ (by first | exact xs_ (by decide) | exact xc_ (by decide) | omega)).trans ((a_ρ64 _ _ _ (by first | exact xs_ (by decide) | exact xc_ (by decide) | omega)).trans qg4)))))).symm
        clear t_v74
        subst e_v74
        refine r_aload_n hC dX1_addStep_147 rfl ?_
        refine z_getI (jz := 7) hM dX1_addStep_148 fl_RX1_37 rfl rfl rfl (fun v75 h_v75 o_v75 t_v75 => ?_)
        have e_v75 : 1 = v75 := ((t_v75 ((by simp [Tk, Tb, DL, DF, DX]))).trans q_ρ73).symm
        clear t_v75
        subst e_v75
        refine z_ins2 hM dX1_addStep_151 tl_RX1_97 rfl (Nat.le_of_ble_eq_true rfl) (Nat.le_of_ble_eq_true rfl) ?_
        refine x_max (fun v76 h_v76 => ?_)
        refine z_iastG hM dX1_addStep_154 rfl (by omega) (by omega) (by simp [Tl, DL, DF]) (by first | trivial | (simp only [Okv]; omega) | (simp [Okv]; try omega)) (fun ρ77 a_ρ77 q_ρ77 => ?_)
        refine y_vret hK rfl dX1_addStep_155 ?_
        exact k _ (((((((Gx.rf).al a_ρ64 (by first | (simp; done) | omega | (simp; omega))).al a_ρ67 (by first | (simp; done) | omega | (simp; omega))).al a_ρ70 (by first | (simp; done) | omega | (simp; omega))).al a_ρ71 (by first | (simp; done) | omega | (simp; omega))).al a_ρ73 (by first | (simp; done) | omega | (simp; omega))).al a_ρ77 (by first | (simp; done) | omega | (simp; omega))) (by have hq := ((a_ρ77 _ _ _ (by first | exact xs_ (by decide) | exact xc_ (by decide) | omega)).trans ((a_ρ73 _ _ _ (by first | exact xs_ (by decide) | exact xc_ (by decide) | omega)).trans ((a_ρ71 _ _ _ (by first | exact xs_ (by decide) | exact xc_ (by decide) | omega)).trans ((a_ρ70 _ _ _ (by first | exact xs_ (by decide) | exact xc_ (by decide) | omega)).trans ((a_ρ67 _ _ _ (by first | exact xs_ (by decide) | exact xc_ (by decide) | omega)).trans q_ρ64))))); (repeat' split) <;> omega) (by have hq := ((a_ρ77 _ _ _ (by first | exact xs_ (by decide) | exact xc_ (by decide) | omega)).trans ((a_ρ73 _ _ _ (by first | exact xs_ (by decide) | exact xc_ (by decide) | omega)).trans ((a_ρ71 _ _ _ (by first | exact xs_ (by decide) | exact xc_ (by decide) | omega)).trans ((a_ρ70 _ _ _ (by first | exact xs_ (by decide) | exact xc_ (by decide) | omega)).trans q_ρ67)))); (repeat' split) <;> omega) (by have hq := ((a_ρ77 _ _ _ (by first | exact xs_ (by decide) | exact xc_ (by decide) | omega)).trans ((a_ρ73 _ _ _ (by first | exact xs_ (by decide) | exact xc_ (by decide) | omega)).trans ((a_ρ71 _ _ _ (by first | exact xs_ (by decide) | exact xc_ (by decide) | omega)).trans q_ρ70))); (repeat' split) <;> omega) (by have hq := ((a_ρ77 _ _ _ (by first | exact xs_ (by decide) | exact xc_ (by decide) | omega)).trans ((a_ρ73 _ _ _ (by first | exact xs_ (by decide) | exact xc_ (by decide) | omega)).trans q_ρ71)); (repeat' split) <;> omega) (by have hq := q_ρ77; (repeat' split) <;> omega) (by have hq := ((a_ρ77 _ _ _ (by first | exact xs_ (by decide) | exact xc_ (by decide) | omega)).trans q_ρ73); (repeat' split) <;> omega)
  · refine r_iconst hC dX1_addStep_7 rfl ?_
    refine r_goto (tgt := 12) hC dX1_addStep_8 rfl ?_
    refine r_istore_n hC dX1_addStep_12 rfl ?_
    refine r_iload_n hC dX1_addStep_13 rfl ?_
    refine r_if_ne (tgt := 31) hC dX1_addStep_14 rfl (fun h78 => ?_) (fun h78 => by omega)
    refine r_iconst hC dX1_addStep_31 rfl ?_
    refine r_istore_n hC dX1_addStep_32 rfl ?_
    refine r_iload_n hC dX1_addStep_33 rfl ?_
    refine r_if_ne (tgt := 51) hC dX1_addStep_34 rfl (fun h79 => ?_) (fun h79 => by omega)
    refine r_iconst hC dX1_addStep_51 rfl ?_
    refine r_istore hC dX1_addStep_52 rfl ?_
    show K _ [_, _, _, _, _] _ _
    refine r_aload_n hC dX1_addStep_54 rfl ?_
    refine z_getR hM dX1_addStep_55 fl_RX1_24 rfl rfl (vld_of (n := 1) rfl (by omega) (by omega)) ?_
    refine r_iconst hC dX1_addStep_58 rfl ?_
    refine r_dup2 hC dX1_addStep_59 rfl rfl ?_
    refine z_iald hM dX1_addStep_60 rfl (by omega) (by omega) (fun v80 h_v80 o_v80 t_v80 => ?_)
    have e_v80 : n0 = v80 := ((t_v80 ((by simp [Tk, Tb, DL, DF, DX]))).trans qg0).symm
    clear t_v80
    subst e_v80
    refine r_iload_n hC dX1_addStep_61 rfl ?_
    refine r_if_eq (tgt := 69) hC dX1_addStep_62 rfl (fun h81 => ?_) (fun h81 => by omega)
    refine r_iconst hC dX1_addStep_69 rfl ?_
    refine r_iaddE hC (n0) dX1_addStep_70 (by omega) (by unfold inR; omega) ?_
    refine z_iastG hM dX1_addStep_71 rfl (by omega) (by omega) (by simp [Tl, DL, DF]) (by first | trivial | (simp only [Okv]; omega) | (simp [Okv]; try omega)) (fun ρ82 a_ρ82 q_ρ82 => ?_)
    refine r_aload_n hC dX1_addStep_72 rfl ?_
    refine z_getR hM dX1_addStep_73 fl_RX1_24 rfl rfl (vld_of (n := 1) rfl (by omega) (by omega)) ?_
    refine r_iconst hC dX1_addStep_76 rfl ?_
    refine r_dup2 hC dX1_addStep_77 rfl rfl ?_
    refine z_iald hM dX1_addStep_78 rfl (by omega) (by omega) (fun v83 h_v83 o_v83 t_v83 => ?_)
    have e_v83 : n1 = v83 := ((t_v83 ((by simp [Tk, Tb, DL, DF, DX]))).trans ((a_ρ82 _ _ _ (by first | exact xs_ (by decide) | exact xc_ (by decide) | omega)).trans qg1)).symm
    clear t_v83
    subst e_v83
    refine r_iload hC dX1_addStep_79 rfl ?_
    refine r_if_eq (tgt := 88) hC dX1_addStep_81 rfl (fun h84 => ?_) (fun h84 => by omega)
    refine r_iconst hC dX1_addStep_88 rfl ?_
    refine r_iaddE hC (n1) dX1_addStep_89 (by omega) (by unfold inR; omega) ?_
    refine z_iastG hM dX1_addStep_90 rfl (by omega) (by omega) (by simp [Tl, DL, DF]) (by first | trivial | (simp only [Okv]; omega) | (simp [Okv]; try omega)) (fun ρ85 a_ρ85 q_ρ85 => ?_)
    refine r_aload_n hC dX1_addStep_91 rfl ?_
    refine z_getR hM dX1_addStep_92 fl_RX1_24 rfl rfl (vld_of (n := 1) rfl (by omega) (by omega)) ?_
    refine r_iconst hC dX1_addStep_95 rfl ?_
    refine r_iload_n hC dX1_addStep_96 rfl ?_
    refine r_if_eq (tgt := 104) hC dX1_addStep_97 rfl (fun h86 => by omega) (fun h86 => ?_)
    refine r_iload_n hC dX1_addStep_100 rfl ?_
    refine r_goto (tgt := 110) hC dX1_addStep_101 rfl ?_
    refine z_iastG hM dX1_addStep_110 rfl (by omega) (by omega) (by simp [Tl, DL, DF]) (by first | trivial | (simp only [Okv]; omega) | (simp [Okv]; try omega)) (fun ρ87 a_ρ87 q_ρ87 => ?_)
    refine r_aload_n hC dX1_addStep_111 rfl ?_
    refine z_getR hM dX1_addStep_112 fl_RX1_24 rfl rfl (vld_of (n := 1) rfl (by omega) (by omega)) ?_
    refine r_iconst hC dX1_addStep_115 rfl ?_
    refine r_iload_n hC dX1_addStep_116 rfl ?_
    refine z_iastG hM dX1_addStep_117 rfl (by omega) (by omega) (by simp [Tl, DL, DF]) (by first | trivial | (simp only [Okv]; omega) | (simp [Okv]; try omega)) (fun ρ88 a_ρ88 q_ρ88 => ?_)
    refine r_aload_n hC dX1_addStep_118 rfl ?_
    refine r_iload_n hC dX1_addStep_119 rfl ?_
    refine r_if_eq (tgt := 127) hC dX1_addStep_120 rfl (fun h89 => ?_) (fun h89 => by omega)
    refine r_aload_n hC dX1_addStep_127 rfl ?_
    refine z_getI (jz := 7) hM dX1_addStep_128 fl_RX1_37 rfl rfl rfl (fun v90 h_v90 o_v90 t_v90 => ?_)
    have e_v90 : r = v90 := ((t_v90 ((by simp [Tk, Tb, DL, DF, DX]))).trans ((a_ρ88 _ _ _ (by first | exact xs_ (by decide) | exact xc_ (by decide) | omega)).trans ((a_ρ87 _ _ _ (by first | exact xs_ (by decide) | exact xc_ (by decide) | omega)).trans ((a_ρ85 _ _ _ (by first | exact xs_ (by decide) | exact xc_ (by decide) | omega)).trans ((a_ρ82 _ _ _ (by first | exact xs_ (by decide) | exact xc_ (by decide) | omega)).trans qg6))))).symm
    clear t_v90
    subst e_v90
    refine r_iconst hC dX1_addStep_131 rfl ?_
    refine r_iaddE hC ((r + 1)) dX1_addStep_132 (by omega) (by unfold inR; omega) ?_
    refine z_putIG (jz := 7) hM dX1_addStep_133 fw_RX1_37 rfl rfl rfl (by simp [Tl, DL, DF]) (by first | trivial | (simp only [Okv]; omega) | (simp [Okv]; try omega)) (fun ρ91 a_ρ91 q_ρ91 => ?_)
    refine r_aload_n hC dX1_addStep_136 rfl ?_
    refine z_getR hM dX1_addStep_137 fl_RX1_24 rfl rfl (vld_of (n := 1) rfl (by omega) (by omega)) ?_
    refine r_iconst hC dX1_addStep_140 rfl ?_
    refine r_aload_n hC dX1_addStep_141 rfl ?_
    refine z_getR hM dX1_addStep_142 fl_RX1_24 rfl rfl (vld_of (n := 1) rfl (by omega) (by omega)) ?_
    refine r_iconst hC dX1_addStep_145 rfl ?_
    refine z_iald hM dX1_addStep_146 rfl (by omega) (by omega) (fun v92 h_v92 o_v92 t_v92 => ?_)
    have e_v92 : n4 = v92 := ((t_v92 ((by simp [Tk, Tb, DL, DF, DX]))).trans ((a_ρ91 _ _ _ (by first | exact xs_ (by decide) | exact xc_ (by decide) | omega)).trans ((a_ρ88 _ _ _ (by first | exact xs_ (by decide) | exact xc_ (by decide) | omega)).trans ((a_ρ87 _ _ _ (by first | exact xs_ (by decide) | exact xc_ (by decide) | omega)).trans ((a_ρ85 _ _ _ (by first | exact xs_ (by decide) | exact xc_ (by decide) | omega)).trans ((a_ρ82 _ _ _ (by first | exact xs_ (by decide) | exact xc_ (by decide) | omega)).trans qg4)))))).symm
    clear t_v92
    subst e_v92
    refine r_aload_n hC dX1_addStep_147 rfl ?_
    refine z_getI (jz := 7) hM dX1_addStep_148 fl_RX1_37 rfl rfl rfl (fun v93 h_v93 o_v93 t_v93 => ?_)
    have e_v93 : (r + 1) = v93 := ((t_v93 ((by simp [Tk, Tb, DL, DF, DX]))).trans q_ρ91).symm
    clear t_v93
    subst e_v93
    refine z_ins2 hM dX1_addStep_151 tl_RX1_97 rfl (Nat.le_of_ble_eq_true rfl) (Nat.le_of_ble_eq_true rfl) ?_
    refine x_max (fun v94 h_v94 => ?_)
    refine z_iastG hM dX1_addStep_154 rfl (by omega) (by omega) (by simp [Tl, DL, DF]) (by first | trivial | (simp only [Okv]; omega) | (simp [Okv]; try omega)) (fun ρ95 a_ρ95 q_ρ95 => ?_)
    refine y_vret hK rfl dX1_addStep_155 ?_
    exact k _ (((((((Gx.rf).al a_ρ82 (by first | (simp; done) | omega | (simp; omega))).al a_ρ85 (by first | (simp; done) | omega | (simp; omega))).al a_ρ87 (by first | (simp; done) | omega | (simp; omega))).al a_ρ88 (by first | (simp; done) | omega | (simp; omega))).al a_ρ91 (by first | (simp; done) | omega | (simp; omega))).al a_ρ95 (by first | (simp; done) | omega | (simp; omega))) (by have hq := ((a_ρ95 _ _ _ (by first | exact xs_ (by decide) | exact xc_ (by decide) | omega)).trans ((a_ρ91 _ _ _ (by first | exact xs_ (by decide) | exact xc_ (by decide) | omega)).trans ((a_ρ88 _ _ _ (by first | exact xs_ (by decide) | exact xc_ (by decide) | omega)).trans ((a_ρ87 _ _ _ (by first | exact xs_ (by decide) | exact xc_ (by decide) | omega)).trans ((a_ρ85 _ _ _ (by first | exact xs_ (by decide) | exact xc_ (by decide) | omega)).trans q_ρ82))))); (repeat' split) <;> omega) (by have hq := ((a_ρ95 _ _ _ (by first | exact xs_ (by decide) | exact xc_ (by decide) | omega)).trans ((a_ρ91 _ _ _ (by first | exact xs_ (by decide) | exact xc_ (by decide) | omega)).trans ((a_ρ88 _ _ _ (by first | exact xs_ (by decide) | exact xc_ (by decide) | omega)).trans ((a_ρ87 _ _ _ (by first | exact xs_ (by decide) | exact xc_ (by decide) | omega)).trans q_ρ85)))); (repeat' split) <;> omega) (by have hq := ((a_ρ95 _ _ _ (by first | exact xs_ (by decide) | exact xc_ (by decide) | omega)).trans ((a_ρ91 _ _ _ (by first | exact xs_ (by decide) | exact xc_ (by decide) | omega)).trans ((a_ρ88 _ _ _ (by first | exact xs_ (by decide) | exact xc_ (by decide) | omega)).trans q_ρ87))); (repeat' split) <;> omega) (by have hq := ((a_ρ95 _ _ _ (by first | exact xs_ (by decide) | exact xc_ (by decide) | omega)).trans ((a_ρ91 _ _ _ (by first | exact xs_ (by decide) | exact xc_ (by decide) | omega)).trans q_ρ88)); (repeat' split) <;> omega) (by have hq := q_ρ95; (repeat' split) <;> omega) (by have hq := ((a_ρ95 _ _ _ (by first | exact xs_ (by decide) | exact xc_ (by decide) | omega)).trans q_ρ91); (repeat' split) <;> omega)
theorem x_addSpread {eb : Bool} {d : Nat} {P : Option Vl → Mm → Prop} {σ : Mm} {v n0 n1 n2 : Int} (b_v : -1000 ≤ v ∧ v ≤ 1000) (qg0 : σ 17 0 0 = n0) (qg1 : σ 17 0 1 = n1) (b_n2 : 0 ≤ n2 ∧ n2 ≤ 1000) (qg2 : σ 17 0 2 = n2)  (k : ∀ ρ : Mm, Gx (fun c x y => c = 17 ∧ x = 0 ∨ c = 14 ∧ x = 0 ∧ y = 7) σ ρ → ρ 17 0 0 = (if 0 < v ∧ (n0 = -2147483648 ∨ v < n0) then v else n0) → ρ 17 0 1 = (if v < 0 ∧ n1 < v then v else n1) → ρ 17 0 2 = (n2 + (if v = 0 then 1 else 0)) → P none ρ) : WT (true, true, eb) (d + 2) 23 [vR 14 0, vI v] σ P := by
  refine WT_in fun K hK => ?_
  have hK : StpY (true, true, eb) cX1_addSpread RX1 (none) (WT (true, true, eb) (d + 1)) P K := hK
  have hM := hK.1
  have hC := hK.1.1
  show K 0 [some (vR 14 0), some (vI v)] [] σ
  refine r_iload_n hC dX1_addSpread_0 rfl ?_
  refine r_if_le (tgt := 35) hC dX1_addSpread_1 rfl (fun h1 => ?_) (fun h1 => ?_)
  · refine r_iload_n hC dX1_addSpread_35 rfl ?_
    refine r_if_ge (tgt := 58) hC dX1_addSpread_36 rfl (fun h2 => ?_) (fun h2 => ?_)
    · refine r_iload_n hC dX1_addSpread_58 rfl ?_
      refine r_if_ne (tgt := 72) hC dX1_addSpread_59 rfl (fun h3 => by omega) (fun h3 => ?_)
      refine r_aload_n hC dX1_addSpread_62 rfl ?_
      refine z_getR hM dX1_addSpread_63 fl_RX1_24 rfl rfl (vld_of (n := 1) rfl (by omega) (by omega)) ?_
      refine r_iconst hC dX1_addSpread_66 rfl ?_
      refine r_dup2 hC dX1_addSpread_67 rfl rfl ?_
      refine z_iald hM dX1_addSpread_68 rfl (by omega) (by omega) (fun v4 h_v4 o_v4 t_v4 => ?_)
      have e_v4 : n2 = v4 := ((t_v4 ((by simp [Tk, Tb, DL, DF, DX]))).trans qg2).symm
      clear t_v4
      subst e_v4
      refine r_iconst hC dX1_addSpread_69 rfl ?_
      refine r_iaddE hC ((n2 + 1)) dX1_addSpread_70 (by omega) (by unfold inR; omega) ?_
      refine z_iastG hM dX1_addSpread_71 rfl (by omega) (by omega) (by simp [Tl, DL, DF]) (by first | trivial | (simp only [Okv]; omega) | (simp [Okv]; try omega)) (fun ρ5 a_ρ5 q_ρ5 => ?_)
      refine y_vret hK rfl dX1_addSpread_72 ?_
      exact k _ ((Gx.rf).al a_ρ5 (by first | (simp; done) | omega | (simp; omega))) (by have hq := ((a_ρ5 _ _ _ (by first | exact xs_ (by decide) | exact xc_ (by decide) | omega)).trans qg0); (repeat' split) <;> omega) (by have hq := ((a_ρ5 _ _ _ (by first | exact xs_ (by decide) | exact xc_ (by decide) | omega)).trans qg1); (repeat' split) <;> omega) (by have hq := q_ρ5; (repeat' split) <;> omega)
    · refine r_aload_n hC dX1_addSpread_39 rfl ?_
      refine z_getR hM dX1_addSpread_40 fl_RX1_24 rfl rfl (vld_of (n := 1) rfl (by omega) (by omega)) ?_
      refine r_iconst hC dX1_addSpread_43 rfl ?_
      refine r_aload_n hC dX1_addSpread_44 rfl ?_
      refine z_getR hM dX1_addSpread_45 fl_RX1_24 rfl rfl (vld_of (n := 1) rfl (by omega) (by omega)) ?_
      refine r_iconst hC dX1_addSpread_48 rfl ?_
      refine z_iald hM dX1_addSpread_49 rfl (by omega) (by omega) (fun v6 h_v6 o_v6 t_v6 => ?_)
      have e_v6 : n1 = v6 := ((t_v6 ((by simp [Tk, Tb, DL, DF, DX]))).trans qg1).symm
      clear t_v6
      subst e_v6
      refine r_iload_n hC dX1_addSpread_50 rfl ?_
      refine z_ins2 hM dX1_addSpread_51 tl_RX1_97 rfl (Nat.le_of_ble_eq_true rfl) (Nat.le_of_ble_eq_true rfl) ?_
      refine x_max (fun v7 h_v7 => ?_)
      refine z_iastG hM dX1_addSpread_54 rfl (by omega) (by omega) (by simp [Tl, DL, DF]) (by first | trivial | (simp only [Okv]; omega) | (simp [Okv]; try omega)) (fun ρ8 a_ρ8 q_ρ8 => ?_)
      refine r_goto (tgt := 72) hC dX1_addSpread_55 rfl ?_
      refine y_vret hK rfl dX1_addSpread_72 ?_
      exact k _ ((Gx.rf).al a_ρ8 (by first | (simp; done) | omega | (simp; omega))) (by have hq := ((a_ρ8 _ _ _ (by first | exact xs_ (by decide) | exact xc_ (by decide) | omega)).trans qg0); (repeat' split) <;> omega) (by have hq := q_ρ8; (repeat' split) <;> omega) (by have hq := ((a_ρ8 _ _ _ (by first | exact xs_ (by decide) | exact xc_ (by decide) | omega)).trans qg2); (repeat' split) <;> omega)
  · refine r_aload_n hC dX1_addSpread_4 rfl ?_
    refine z_getR hM dX1_addSpread_5 fl_RX1_24 rfl rfl (vld_of (n := 1) rfl (by omega) (by omega)) ?_
    refine r_iconst hC dX1_addSpread_8 rfl ?_
    refine z_iald hM dX1_addSpread_9 rfl (by omega) (by omega) (fun v9 h_v9 o_v9 t_v9 => ?_)
    have e_v9 : n0 = v9 := ((t_v9 ((by simp [Tk, Tb, DL, DF, DX]))).trans qg0).symm
    clear t_v9
    subst e_v9
    refine r_ldc hC dX1_addSpread_10 co_RX1_40 rfl ?_
    refine r_icmp_eq (tgt := 25) hC dX1_addSpread_12 rfl (fun h10 => ?_) (fun h10 => ?_)
    · refine r_aload_n hC dX1_addSpread_25 rfl ?_
      refine z_getR hM dX1_addSpread_26 fl_RX1_24 rfl rfl (vld_of (n := 1) rfl (by omega) (by omega)) ?_
      refine r_iconst hC dX1_addSpread_29 rfl ?_
      refine r_iload_n hC dX1_addSpread_30 rfl ?_
      refine z_iastG hM dX1_addSpread_31 rfl (by omega) (by omega) (by simp [Tl, DL, DF]) (by first | trivial | (simp only [Okv]; omega) | (simp [Okv]; try omega)) (fun ρ11 a_ρ11 q_ρ11 => ?_)
      refine r_goto (tgt := 72) hC dX1_addSpread_32 rfl ?_
      refine y_vret hK rfl dX1_addSpread_72 ?_
      exact k _ ((Gx.rf).al a_ρ11 (by first | (simp; done) | omega | (simp; omega))) (by have hq := q_ρ11; (repeat' split) <;> omega) (by have hq := ((a_ρ11 _ _ _ (by first | exact xs_ (by decide) | exact xc_ (by decide) | omega)).trans qg1); (repeat' split) <;> omega) (by have hq := ((a_ρ11 _ _ _ (by first | exact xs_ (by decide) | exact xc_ (by decide) | omega)).trans qg2); (repeat' split) <;> omega)
    · refine r_iload_n hC dX1_addSpread_15 rfl ?_
      refine r_aload_n hC dX1_addSpread_16 rfl ?_
      refine z_getR hM dX1_addSpread_17 fl_RX1_24 rfl rfl (vld_of (n := 1) rfl (by omega) (by omega)) ?_
      refine r_iconst hC dX1_addSpread_20 rfl ?_
      refine z_iald hM dX1_addSpread_21 rfl (by omega) (by omega) (fun v12 h_v12 o_v12 t_v12 => ?_)
      have e_v12 : n0 = v12 := ((t_v12 ((by simp [Tk, Tb, DL, DF, DX]))).trans qg0).symm
      clear t_v12
      subst e_v12
      refine r_icmp_ge (tgt := 35) hC dX1_addSpread_22 rfl (fun h13 => ?_) (fun h13 => ?_)
      · refine r_iload_n hC dX1_addSpread_35 rfl ?_
        refine r_if_ge (tgt := 58) hC dX1_addSpread_36 rfl (fun h14 => ?_) (fun h14 => by omega)
        refine r_iload_n hC dX1_addSpread_58 rfl ?_
        refine r_if_ne (tgt := 72) hC dX1_addSpread_59 rfl (fun h15 => ?_) (fun h15 => by omega)
        refine y_vret hK rfl dX1_addSpread_72 ?_
        exact k _ (Gx.rf) (by have hq := qg0; (repeat' split) <;> omega) (by have hq := qg1; (repeat' split) <;> omega) (by have hq := qg2; (repeat' split) <;> omega)
      · refine r_aload_n hC dX1_addSpread_25 rfl ?_
        refine z_getR hM dX1_addSpread_26 fl_RX1_24 rfl rfl (vld_of (n := 1) rfl (by omega) (by omega)) ?_
        refine r_iconst hC dX1_addSpread_29 rfl ?_
        refine r_iload_n hC dX1_addSpread_30 rfl ?_
        refine z_iastG hM dX1_addSpread_31 rfl (by omega) (by omega) (by simp [Tl, DL, DF]) (by first | trivial | (simp only [Okv]; omega) | (simp [Okv]; try omega)) (fun ρ16 a_ρ16 q_ρ16 => ?_)
        refine r_goto (tgt := 72) hC dX1_addSpread_32 rfl ?_
        refine y_vret hK rfl dX1_addSpread_72 ?_
        exact k _ ((Gx.rf).al a_ρ16 (by first | (simp; done) | omega | (simp; omega))) (by have hq := q_ρ16; (repeat' split) <;> omega) (by have hq := ((a_ρ16 _ _ _ (by first | exact xs_ (by decide) | exact xc_ (by decide) | omega)).trans qg1); (repeat' split) <;> omega) (by have hq := ((a_ρ16 _ _ _ (by first | exact xs_ (by decide) | exact xc_ (by decide) | omega)).trans qg2); (repeat' split) <;> omega)
theorem x_addElement {eb : Bool} {d : Nat} {P : Option Vl → Mm → Prop} {σ : Mm} {v n0 n : Int} (b_v : -1000 ≤ v ∧ v ≤ 1000) (b_n0 : 0 ≤ n0 ∧ n0 ≤ 3) (qg0 : σ 17 0 0 = n0) (b_n : 0 ≤ n ∧ n ≤ 1000) (qg1 : σ 14 0 6 = n)  (k : ∀ ρ : Mm, Gx (fun c x y => c = 17 ∧ x = 0 ∨ c = 14 ∧ x = 0 ∧ y = 7) σ ρ → ρ 17 0 0 = (if n = 0 then v % 4 else σ 15 0 (4 * n0 + v % 4)) → P none ρ) : WT (true, true, eb) (d + 2) 24 [vR 14 0, vI v] σ P := by
  refine WT_in fun K hK => ?_
  have hK : StpY (true, true, eb) cX1_addElement RX1 (none) (WT (true, true, eb) (d + 1)) P K := hK
  have hM := hK.1
  have hC := hK.1.1
  show K 0 [some (vR 14 0), some (vI v), none] [] σ
  refine r_iload_n hC dX1_addElement_0 rfl ?_
  refine r_iconst hC dX1_addElement_1 rfl ?_
  refine z_ins2 hM dX1_addElement_2 tl_RX1_93 rfl (Nat.le_of_ble_eq_true rfl) (Nat.le_of_ble_eq_true rfl) ?_
  refine x_floorMod (by omega) (fun h1 => ?_)
  refine r_istore_n hC dX1_addElement_5 rfl ?_
  refine r_aload_n hC dX1_addElement_6 rfl ?_
  refine z_getR hM dX1_addElement_7 fl_RX1_24 rfl rfl (vld_of (n := 1) rfl (by omega) (by omega)) ?_
  refine r_iconst hC dX1_addElement_10 rfl ?_
  refine r_aload_n hC dX1_addElement_11 rfl ?_
  refine z_getI (jz := 6) hM dX1_addElement_12 fl_RX1_34 rfl rfl rfl (fun v2 h_v2 o_v2 t_v2 => ?_)
  have e_v2 : n = v2 := ((t_v2 ((by simp [Tk, Tb, DL, DF, DX]))).trans qg1).symm
  clear t_v2
  subst e_v2
  refine r_if_ne (tgt := 22) hC dX1_addElement_15 rfl (fun h3 => ?_) (fun h3 => ?_)
  · refine r_aload_n hC dX1_addElement_22 rfl ?_
    refine z_getR hM dX1_addElement_23 fl_RX1_9 rfl rfl (vld_of (n := 1) rfl (by omega) (by omega)) ?_
    refine r_iconst hC dX1_addElement_26 rfl ?_
    refine r_aload_n hC dX1_addElement_27 rfl ?_
    refine z_getR hM dX1_addElement_28 fl_RX1_24 rfl rfl (vld_of (n := 1) rfl (by omega) (by omega)) ?_
    refine r_iconst hC dX1_addElement_31 rfl ?_
    refine z_iald hM dX1_addElement_32 rfl (by omega) (by omega) (fun v4 h_v4 o_v4 t_v4 => ?_)
    have e_v4 : n0 = v4 := ((t_v4 ((by simp [Tk, Tb, DL, DF, DX]))).trans qg0).symm
    clear t_v4
    subst e_v4
    refine r_imulE hC ((4 * n0)) dX1_addElement_33 (by omega) (by unfold inR; omega) ?_
    refine r_iload_n hC dX1_addElement_34 rfl ?_
    refine r_iaddE hC (((4 * n0) + (v % 4))) dX1_addElement_35 (by omega) (by unfold inR; omega) ?_
    refine z_iald hM dX1_addElement_36 rfl (by omega) (by omega) (fun v5 h_v5 o_v5 t_v5 => ?_)
    have w_v5 := t_v5 (Or.inl trivial)
    clear t_v5
    subst w_v5
    have q_v5 : 0 ≤ (σ 15 0 ((4 * n0) + (v % 4))) ∧ (σ 15 0 ((4 * n0) + (v % 4))) ≤ 3 := o_v5
    refine z_iastG hM dX1_addElement_37 rfl (by omega) (by omega) (by simp [Tl, DL, DF]) (by first | trivial | (simp only [Okv]; omega) | (simp [Okv]; try omega)) (fun ρ6 a_ρ6 q_ρ6 => ?_)
    refine y_vret hK rfl dX1_addElement_38 ?_
    exact k _ ((Gx.rf).al a_ρ6 (by first | (simp; done) | omega | (simp; omega))) (by have hq := q_ρ6; (repeat' split) <;> omega)
  · refine r_iload_n hC dX1_addElement_18 rfl ?_
    refine r_goto (tgt := 37) hC dX1_addElement_19 rfl ?_
    refine z_iastG hM dX1_addElement_37 rfl (by omega) (by omega) (by simp [Tl, DL, DF]) (by first | trivial | (simp only [Okv]; omega) | (simp [Okv]; try omega)) (fun ρ7 a_ρ7 q_ρ7 => ?_)
    refine y_vret hK rfl dX1_addElement_38 ?_
    exact k _ ((Gx.rf).al a_ρ7 (by first | (simp; done) | omega | (simp; omega))) (by have hq := q_ρ7; (repeat' split) <;> omega)
-- what the fold's cells say of a row
def FRc (σ : Mm) (o : Int) (u : Int → Int) (n : Nat) : Prop := σ 14 0 5 = o ∧ σ 14 0 6 = (n : Int) ∧ (o = 7 → σ 14 0 7 = (stp u n).2.2.2) ∧ ∀ k : Int, 0 ≤ k → k < numF o → σ 17 0 k = cmN (σ 16 0) (σ 15 0) o u n k
def Bd (u : Int → Int) (n : Nat) : Prop := ∀ j : Int, 0 ≤ j → j < n → -1000 ≤ u j ∧ u j ≤ 1000
theorem Bd.less {u : Int → Int} {n m : Nat} (h : Bd u n) (hm : m ≤ n) : Bd u m := fun j h0 h1 => h j h0 (by omega)
theorem gr_b (u : Int → Int) : ∀ n : Nat, 0 ≤ (gr u n).2.1 ∧ (gr u n).2.1 ≤ n
  | 0 => ⟨Int.le_refl _, Int.le_refl _⟩
  | n + 1 => by
    have ih := gr_b u n
    have e : gr u (n + 1) = (if n = 0 ∨ u n > (gr u n).1 then (u n, 1, (n : Int)) else if u n = (gr u n).1 then ((gr u n).1, (gr u n).2.1 + 1, (gr u n).2.2) else gr u n) := rfl
    rw [e]
    split
    · show (0 : Int) ≤ 1 ∧ (1 : Int) ≤ _; omega
    · split
      · show 0 ≤ (gr u n).2.1 + 1 ∧ (gr u n).2.1 + 1 ≤ _; omega
      · omega
theorem shr_b (u : Int → Int) : ∀ n : Nat, 0 ≤ (shr u n).2 ∧ (shr u n).2 ≤ n
  | 0 => ⟨Int.le_refl _, Int.le_refl _⟩
  | n + 1 => by
    have ih := shr_b u n
    show 0 ≤ (shr u n).2 + (if u n = 0 then 0 else 1) ∧ (shr u n).2 + (if u n = 0 then 0 else 1) ≤ _
    split <;> omega
theorem lin_b (u : Int → Int) : ∀ n : Nat, (0 ≤ (lin u n).1 ∧ (lin u n).1 ≤ 996) ∧ 0 ≤ (lin u n).2 ∧ (lin u n).2 ≤ 996
  | 0 => by show ((0 : Int) ≤ 1 ∧ (1 : Int) ≤ 996) ∧ (0 : Int) ≤ 0 ∧ (0 : Int) ≤ 996; omega
  | n + 1 => by
    show (0 ≤ (u n % 997) * (lin u n).1 % 997 ∧ (u n % 997) * (lin u n).1 % 997 ≤ 996) ∧ 0 ≤ ((u n % 997) * (lin u n).2 + (7 * u n + 1) % 997) % 997 ∧ ((u n % 997) * (lin u n).2 + (7 * u n + 1) % 997) % 997 ≤ 996
    omega
theorem rnn_b {u : Int → Int} : ∀ n : Nat, Bd u n → (-1000 * (n : Int) ≤ (rnn u n).1 ∧ (rnn u n).1 ≤ 1000 * n) ∧ (-1000 * (n : Int) ≤ (rnn u n).2.1 ∧ (rnn u n).2.1 ≤ 1000 * n) ∧ (-1000 * (n : Int) ≤ (rnn u n).2.2.1 ∧ (rnn u n).2.2.1 ≤ 1000 * n) ∧ -1000 * (n : Int) ≤ (rnn u n).2.2.2 ∧ (rnn u n).2.2.2 ≤ 1000 * n
  | 0, _ => by show (-1000 * (0 : Int) ≤ 0 ∧ (0 : Int) ≤ 1000 * 0) ∧ (-1000 * (0 : Int) ≤ 0 ∧ (0 : Int) ≤ 1000 * 0) ∧ (-1000 * (0 : Int) ≤ 0 ∧ (0 : Int) ≤ 1000 * 0) ∧ -1000 * (0 : Int) ≤ 0 ∧ (0 : Int) ≤ 1000 * 0; omega
  | n + 1, h => by
    have ih := rnn_b n (h.less (by omega))
    have hv := h n (by omega) (by omega)
    have e : rnn u (n + 1) = (if n = 0 then u n else max (rnn u n).1 (if n = 0 then u n else max ((rnn u n).2.2.2 + u n) (u n)), (rnn u n).2.1 + u n, if n = 0 then u n else max (rnn u n).2.2.1 ((rnn u n).2.1 + u n), if n = 0 then u n else max ((rnn u n).2.2.2 + u n) (u n)) := rfl
    rw [e]
    by_cases hn : n = 0
    · simp only [if_pos hn]
      omega
    · simp only [if_neg hn]
      omega
theorem ltr_b {tl u : Int → Int} {s : Int} (hs : 0 ≤ s ∧ s ≤ 3) : ∀ n : Nat, 0 ≤ ltr tl u s n ∧ ltr tl u s n ≤ 3
  | 0 => hs
  | n + 1 => iand_rng (by omega) (by unfold inR; omega)
theorem nst_b (u : Int → Int) : ∀ n : Nat, (0 ≤ (nst u n).1 ∧ (nst u n).1 ≤ n) ∧ (0 ≤ (nst u n).2.1 ∧ (nst u n).2.1 ≤ n) ∧ (0 ≤ (nst u n).2.2.1 ∧ (nst u n).2.2.1 ≤ n) ∧ 0 ≤ (nst u n).2.2.2 ∧ (nst u n).2.2.2 ≤ n
  | 0 => ⟨⟨Int.le_refl _, Int.le_refl _⟩, ⟨Int.le_refl _, Int.le_refl _⟩, ⟨Int.le_refl _, Int.le_refl _⟩, Int.le_refl _, Int.le_refl _⟩
  | n + 1 => by
    have ih := nst_b u n
    have e : nst u (n + 1) = (let s := nst u n; let t := if 0 ≤ u n then (s.1, s.2.1 + 1, s.2.2.1) else if 0 < s.2.1 then (s.1, s.2.1 - 1, s.2.2.1 + 1) else (s.1 + 1, s.2.1, s.2.2.1); (t.1, t.2.1, t.2.2, max s.2.2.2 (t.2.1 - t.1))) := rfl
    rw [e]
    by_cases h1 : 0 ≤ u n
    · simp only [if_pos h1]; omega
    · by_cases h2 : 0 < (nst u n).2.1
      · simp only [if_neg h1, if_pos h2]; omega
      · simp only [if_neg h1, if_neg h2]; omega
theorem lke_b (u : Int → Int) : ∀ n : Nat, (0 ≤ (lke u n).2.2.1 ∧ (lke u n).2.2.1 ≤ n) ∧ 0 ≤ (lke u n).2.2.2.2 ∧ (lke u n).2.2.2.2 ≤ n
  | 0 => ⟨⟨Int.le_refl _, Int.le_refl _⟩, Int.le_refl _, Int.le_refl _⟩
  | n + 1 => by
    have ih := lke_b u n
    have e : lke u (n + 1) = (let s := lke u n; let same : Bool := decide (0 < n) && decide (u n = u (n - 1)); let l := if same then s.2.2.2.2 + 1 else 1; let r := if same then s.2.2.1 else s.2.2.1 + 1; (if l > s.1 then l else s.1, if l > s.1 then u n else s.2.1, r, if r = 1 then l else s.2.2.2.1, l)) := rfl
    rw [e]
    cases (decide (0 < n) && decide (u n = u (n - 1)))
    · show (0 ≤ (lke u n).2.2.1 + 1 ∧ (lke u n).2.2.1 + 1 ≤ _) ∧ (0 : Int) ≤ 1 ∧ (1 : Int) ≤ _; omega
    · show (0 ≤ (lke u n).2.2.1 ∧ (lke u n).2.2.1 ≤ _) ∧ 0 ≤ (lke u n).2.2.2.2 + 1 ∧ (lke u n).2.2.2.2 + 1 ≤ _; omega
theorem stp_b (u : Int → Int) : ∀ n : Nat, (0 ≤ (stp u n).1 ∧ (stp u n).1 ≤ n) ∧ (0 ≤ (stp u n).2.1 ∧ (stp u n).2.1 ≤ n) ∧ (0 ≤ (stp u n).2.2.1 ∧ (stp u n).2.2.1 ≤ n) ∧ 0 ≤ (stp u n).2.2.2 ∧ (stp u n).2.2.2 ≤ n
  | 0 => ⟨⟨Int.le_refl _, Int.le_refl _⟩, ⟨Int.le_refl _, Int.le_refl _⟩, ⟨Int.le_refl _, Int.le_refl _⟩, Int.le_refl _, Int.le_refl _⟩
  | n + 1 => by
    have ih := stp_b u n
    have e : stp u (n + 1) = (let s := stp u n; let f : Bool := decide (0 < n) && decide (u n < u (n - 1)); let c : Bool := decide (0 < n) && decide (u n > u (n - 1)); let r := if f then 1 else s.2.2.2 + 1; (s.1 + (if f then 1 else 0), s.2.1 + (if c then 1 else 0), max s.2.2.1 r, r)) := rfl
    rw [e]
    cases (decide (0 < n) && decide (u n < u (n - 1))) <;> cases (decide (0 < n) && decide (u n > u (n - 1)))
    · show (0 ≤ (stp u n).1 + 0 ∧ (stp u n).1 + 0 ≤ _) ∧ (0 ≤ (stp u n).2.1 + 0 ∧ (stp u n).2.1 + 0 ≤ _) ∧ (0 ≤ max (stp u n).2.2.1 ((stp u n).2.2.2 + 1) ∧ max (stp u n).2.2.1 ((stp u n).2.2.2 + 1) ≤ _) ∧ 0 ≤ (stp u n).2.2.2 + 1 ∧ (stp u n).2.2.2 + 1 ≤ _; omega
    · show (0 ≤ (stp u n).1 + 0 ∧ (stp u n).1 + 0 ≤ _) ∧ (0 ≤ (stp u n).2.1 + 1 ∧ (stp u n).2.1 + 1 ≤ _) ∧ (0 ≤ max (stp u n).2.2.1 ((stp u n).2.2.2 + 1) ∧ max (stp u n).2.2.1 ((stp u n).2.2.2 + 1) ≤ _) ∧ 0 ≤ (stp u n).2.2.2 + 1 ∧ (stp u n).2.2.2 + 1 ≤ _; omega
    · show (0 ≤ (stp u n).1 + 1 ∧ (stp u n).1 + 1 ≤ _) ∧ (0 ≤ (stp u n).2.1 + 0 ∧ (stp u n).2.1 + 0 ≤ _) ∧ (0 ≤ max (stp u n).2.2.1 1 ∧ max (stp u n).2.2.1 1 ≤ _) ∧ (0 : Int) ≤ 1 ∧ (1 : Int) ≤ _; omega
    · show (0 ≤ (stp u n).1 + 1 ∧ (stp u n).1 + 1 ≤ _) ∧ (0 ≤ (stp u n).2.1 + 1 ∧ (stp u n).2.1 + 1 ≤ _) ∧ (0 ≤ max (stp u n).2.2.1 1 ∧ max (stp u n).2.2.1 1 ≤ _) ∧ (0 : Int) ≤ 1 ∧ (1 : Int) ≤ _; omega
theorem spr_b (u : Int → Int) : ∀ n : Nat, 0 ≤ (spr u n).2.2 ∧ (spr u n).2.2 ≤ n
  | 0 => ⟨Int.le_refl _, Int.le_refl _⟩
  | n + 1 => by
    have ih := spr_b u n
    show 0 ≤ (spr u n).2.2 + (if u n = 0 then 1 else 0) ∧ (spr u n).2.2 + (if u n = 0 then 1 else 0) ≤ _
    split <;> omega
theorem tbl_b {tc u : Int → Int} (hc : ∀ j : Int, 0 ≤ j → j < 16 → 0 ≤ tc j ∧ tc j ≤ 3) : ∀ n : Nat, 0 ≤ tbl tc u n ∧ tbl tc u n ≤ 3
  | 0 => ⟨Int.le_refl _, by show (0 : Int) ≤ 3; omega⟩
  | n + 1 => by
    have ih := tbl_b (u := u) hc n
    show 0 ≤ (if n = 0 then u 0 % 4 else tc (4 * tbl tc u n + u n % 4)) ∧ (if n = 0 then u 0 % 4 else tc (4 * tbl tc u n + u n % 4)) ≤ 3
    split
    · omega
    · exact hc _ (by omega) (by omega)
theorem un_0 {σ : Mm} {u : Int → Int} {n : Nat} (h : FRc σ 0 u n) : σ 17 0 0 = (gr u n).1 ∧ σ 17 0 1 = (gr u n).2.1 ∧ σ 17 0 2 = (gr u n).2.2 ∧ σ 17 0 3 = (n : Int) := ⟨h.2.2.2 0 (by decide) (by decide), h.2.2.2 1 (by decide) (by decide), h.2.2.2 2 (by decide) (by decide), h.2.2.2 3 (by decide) (by decide)⟩
theorem un_1 {σ : Mm} {u : Int → Int} {n : Nat} (h : FRc σ 1 u n) : σ 17 0 0 = (shr u n).1 ∧ σ 17 0 1 = (shr u n).2 := ⟨h.2.2.2 0 (by decide) (by decide), h.2.2.2 1 (by decide) (by decide)⟩
theorem un_2 {σ : Mm} {u : Int → Int} {n : Nat} (h : FRc σ 2 u n) : σ 17 0 0 = (lin u n).1 ∧ σ 17 0 1 = (lin u n).2 := ⟨h.2.2.2 0 (by decide) (by decide), h.2.2.2 1 (by decide) (by decide)⟩
theorem un_3 {σ : Mm} {u : Int → Int} {n : Nat} (h : FRc σ 3 u n) : σ 17 0 0 = (rnn u n).1 ∧ σ 17 0 1 = (rnn u n).2.1 ∧ σ 17 0 2 = (rnn u n).2.2.1 ∧ σ 17 0 3 = (rnn u n).2.2.2 := ⟨h.2.2.2 0 (by decide) (by decide), h.2.2.2 1 (by decide) (by decide), h.2.2.2 2 (by decide) (by decide), h.2.2.2 3 (by decide) (by decide)⟩
theorem un_4 {σ : Mm} {u : Int → Int} {n : Nat} (h : FRc σ 4 u n) : σ 17 0 0 = ltr (σ 16 0) u 0 n ∧ σ 17 0 1 = ltr (σ 16 0) u 1 n ∧ σ 17 0 2 = ltr (σ 16 0) u 2 n ∧ σ 17 0 3 = ltr (σ 16 0) u 3 n := ⟨h.2.2.2 0 (by decide) (by decide), h.2.2.2 1 (by decide) (by decide), h.2.2.2 2 (by decide) (by decide), h.2.2.2 3 (by decide) (by decide)⟩
theorem un_5 {σ : Mm} {u : Int → Int} {n : Nat} (h : FRc σ 5 u n) : σ 17 0 0 = (nst u n).1 ∧ σ 17 0 1 = (nst u n).2.1 ∧ σ 17 0 2 = (nst u n).2.2.1 ∧ σ 17 0 3 = (nst u n).2.2.2 := ⟨h.2.2.2 0 (by decide) (by decide), h.2.2.2 1 (by decide) (by decide), h.2.2.2 2 (by decide) (by decide), h.2.2.2 3 (by decide) (by decide)⟩
theorem un_6 {σ : Mm} {u : Int → Int} {n : Nat} (h : FRc σ 6 u n) : σ 17 0 0 = (lke u n).1 ∧ σ 17 0 1 = (lke u n).2.1 ∧ σ 17 0 2 = (lke u n).2.2.1 ∧ σ 17 0 3 = (lke u n).2.2.2.1 ∧ σ 17 0 4 = (lke u n).2.2.2.2 ∧ σ 17 0 5 = (if n = 0 then 0 else u 0) ∧ σ 17 0 6 = (if n = 0 then 0 else u (n - 1)) := ⟨h.2.2.2 0 (by decide) (by decide), h.2.2.2 1 (by decide) (by decide), h.2.2.2 2 (by decide) (by decide), h.2.2.2 3 (by decide) (by decide), h.2.2.2 4 (by decide) (by decide), h.2.2.2 5 (by decide) (by decide), h.2.2.2 6 (by decide) (by decide)⟩
theorem un_7 {σ : Mm} {u : Int → Int} {n : Nat} (h : FRc σ 7 u n) : σ 17 0 0 = (stp u n).1 ∧ σ 17 0 1 = (stp u n).2.1 ∧ σ 17 0 2 = (if n = 0 then 0 else u 0) ∧ σ 17 0 3 = (if n = 0 then 0 else u (n - 1)) ∧ σ 17 0 4 = (stp u n).2.2.1 := ⟨h.2.2.2 0 (by decide) (by decide), h.2.2.2 1 (by decide) (by decide), h.2.2.2 2 (by decide) (by decide), h.2.2.2 3 (by decide) (by decide), h.2.2.2 4 (by decide) (by decide)⟩
theorem un_8 {σ : Mm} {u : Int → Int} {n : Nat} (h : FRc σ 8 u n) : σ 17 0 0 = (spr u n).1 ∧ σ 17 0 1 = (spr u n).2.1 ∧ σ 17 0 2 = (spr u n).2.2 := ⟨h.2.2.2 0 (by decide) (by decide), h.2.2.2 1 (by decide) (by decide), h.2.2.2 2 (by decide) (by decide)⟩
theorem un_9 {σ : Mm} {u : Int → Int} {n : Nat} (h : FRc σ 9 u n) : σ 17 0 0 = tbl (σ 15 0) u n := h.2.2.2 0 (by decide) (by decide)
theorem pk_0 {σ ρ ρ2 : Mm} {u : Int → Int} {n : Nat} (h : FRc σ 0 u n) (g : Gx (fun c x y => c = 17 ∧ x = 0 ∨ c = 14 ∧ x = 0 ∧ y = 7) σ ρ) (r0 : ρ 17 0 0 = if (n : Int) = 0 ∨ u n > (gr u n).1 then u n else (gr u n).1) (r1 : ρ 17 0 1 = if (n : Int) = 0 ∨ u n > (gr u n).1 then 1 else if u n = (gr u n).1 then (gr u n).2.1 + 1 else (gr u n).2.1) (r2 : ρ 17 0 2 = if (n : Int) = 0 ∨ u n > (gr u n).1 then (n : Int) else (gr u n).2.2) (r3 : ρ 17 0 3 = (n : Int) + 1) (a : Al1 ρ ρ2 14 0 6) (q : ρ2 14 0 6 = (n : Int) + 1) : FRc ρ2 0 u (n + 1) := by
  have e16 : ρ2 16 0 = σ 16 0 := funext fun j => (a 16 0 j (by omega)).trans (g 16 0 j (by omega))
  have e15 : ρ2 15 0 = σ 15 0 := funext fun j => (a 15 0 j (by omega)).trans (g 15 0 j (by omega))
  refine ⟨(a 14 0 5 (by omega)).trans ((g 14 0 5 (by omega)).trans h.1), by rw [q]; omega, fun h7 => absurd h7 (by decide), fun k h0 h1 => ?_⟩
  rw [a 17 0 k (by omega), e16, e15]
  rcases (by have e : numF 0 = 4 := rfl; omega : k = 0 ∨ k = 1 ∨ k = 2 ∨ k = 3) with rfl | rfl | rfl | rfl
  · show ρ 17 0 0 = (gr u (n + 1)).1
    rw [r0, show gr u (n + 1) = (if n = 0 ∨ u n > (gr u n).1 then (u n, 1, (n : Int)) else if u n = (gr u n).1 then ((gr u n).1, (gr u n).2.1 + 1, (gr u n).2.2) else gr u n) from rfl]
    (repeat' split) <;> first | rfl | (exfalso; omega) | omega
  · show ρ 17 0 1 = (gr u (n + 1)).2.1
    rw [r1, show gr u (n + 1) = (if n = 0 ∨ u n > (gr u n).1 then (u n, 1, (n : Int)) else if u n = (gr u n).1 then ((gr u n).1, (gr u n).2.1 + 1, (gr u n).2.2) else gr u n) from rfl]
    (repeat' split) <;> first | rfl | (exfalso; omega) | omega
  · show ρ 17 0 2 = (gr u (n + 1)).2.2
    rw [r2, show gr u (n + 1) = (if n = 0 ∨ u n > (gr u n).1 then (u n, 1, (n : Int)) else if u n = (gr u n).1 then ((gr u n).1, (gr u n).2.1 + 1, (gr u n).2.2) else gr u n) from rfl]
    (repeat' split) <;> first | rfl | (exfalso; omega) | omega
  · show ρ 17 0 3 = ((n + 1 : Nat) : Int)
    rw [r3]
    omega
theorem pk_1 {σ ρ ρ2 : Mm} {u : Int → Int} {n : Nat} (h : FRc σ 1 u n) (g : Gx (fun c x y => c = 17 ∧ x = 0 ∨ c = 14 ∧ x = 0 ∧ y = 7) σ ρ) (r0 : ρ 17 0 0 = ((Int.gcd (shr u n).1 (u n) : Nat) : Int)) (r1 : ρ 17 0 1 = (shr u n).2 + (if u n = 0 then 0 else 1)) (a : Al1 ρ ρ2 14 0 6) (q : ρ2 14 0 6 = (n : Int) + 1) : FRc ρ2 1 u (n + 1) := by
  have e16 : ρ2 16 0 = σ 16 0 := funext fun j => (a 16 0 j (by omega)).trans (g 16 0 j (by omega))
  have e15 : ρ2 15 0 = σ 15 0 := funext fun j => (a 15 0 j (by omega)).trans (g 15 0 j (by omega))
  refine ⟨(a 14 0 5 (by omega)).trans ((g 14 0 5 (by omega)).trans h.1), by rw [q]; omega, fun h7 => absurd h7 (by decide), fun k h0 h1 => ?_⟩
  rw [a 17 0 k (by omega), e16, e15]
  rcases (by have e : numF 1 = 2 := rfl; omega : k = 0 ∨ k = 1) with rfl | rfl
  · exact r0
  · exact r1
theorem pk_2 {σ ρ ρ2 : Mm} {u : Int → Int} {n : Nat} (h : FRc σ 2 u n) (g : Gx (fun c x y => c = 17 ∧ x = 0 ∨ c = 14 ∧ x = 0 ∧ y = 7) σ ρ) (r0 : ρ 17 0 0 = u n % 997 * (lin u n).1 % 997) (r1 : ρ 17 0 1 = (u n % 997 * (lin u n).2 + (7 * u n + 1) % 997) % 997) (a : Al1 ρ ρ2 14 0 6) (q : ρ2 14 0 6 = (n : Int) + 1) : FRc ρ2 2 u (n + 1) := by
  have e16 : ρ2 16 0 = σ 16 0 := funext fun j => (a 16 0 j (by omega)).trans (g 16 0 j (by omega))
  have e15 : ρ2 15 0 = σ 15 0 := funext fun j => (a 15 0 j (by omega)).trans (g 15 0 j (by omega))
  refine ⟨(a 14 0 5 (by omega)).trans ((g 14 0 5 (by omega)).trans h.1), by rw [q]; omega, fun h7 => absurd h7 (by decide), fun k h0 h1 => ?_⟩
  rw [a 17 0 k (by omega), e16, e15]
  rcases (by have e : numF 2 = 2 := rfl; omega : k = 0 ∨ k = 1) with rfl | rfl
  · exact r0
  · exact r1
theorem pk_3 {σ ρ ρ2 : Mm} {u : Int → Int} {n : Nat} (h : FRc σ 3 u n) (g : Gx (fun c x y => c = 17 ∧ x = 0 ∨ c = 14 ∧ x = 0 ∧ y = 7) σ ρ) (r1 : ρ 17 0 1 = (rnn u n).2.1 + u n) (r2 : ρ 17 0 2 = if (n : Int) = 0 then u n else max (rnn u n).2.2.1 ((rnn u n).2.1 + u n)) (r3 : ρ 17 0 3 = if (n : Int) = 0 then u n else max ((rnn u n).2.2.2 + u n) (u n)) (r0 : ρ 17 0 0 = if (n : Int) = 0 then u n else max (rnn u n).1 (max ((rnn u n).2.2.2 + u n) (u n))) (a : Al1 ρ ρ2 14 0 6) (q : ρ2 14 0 6 = (n : Int) + 1) : FRc ρ2 3 u (n + 1) := by
  have e16 : ρ2 16 0 = σ 16 0 := funext fun j => (a 16 0 j (by omega)).trans (g 16 0 j (by omega))
  have e15 : ρ2 15 0 = σ 15 0 := funext fun j => (a 15 0 j (by omega)).trans (g 15 0 j (by omega))
  refine ⟨(a 14 0 5 (by omega)).trans ((g 14 0 5 (by omega)).trans h.1), by rw [q]; omega, fun h7 => absurd h7 (by decide), fun k h0 h1 => ?_⟩
  rw [a 17 0 k (by omega), e16, e15]
  rcases (by have e : numF 3 = 4 := rfl; omega : k = 0 ∨ k = 1 ∨ k = 2 ∨ k = 3) with rfl | rfl | rfl | rfl
  · show ρ 17 0 0 = (rnn u (n + 1)).1
    rw [r0, show rnn u (n + 1) = (if n = 0 then u n else max (rnn u n).1 (if n = 0 then u n else max ((rnn u n).2.2.2 + u n) (u n)), (rnn u n).2.1 + u n, if n = 0 then u n else max (rnn u n).2.2.1 ((rnn u n).2.1 + u n), if n = 0 then u n else max ((rnn u n).2.2.2 + u n) (u n)) from rfl]
    (repeat' split) <;> first | rfl | (exfalso; omega) | omega
  · exact r1
  · show ρ 17 0 2 = (rnn u (n + 1)).2.2.1
    rw [r2, show rnn u (n + 1) = (if n = 0 then u n else max (rnn u n).1 (if n = 0 then u n else max ((rnn u n).2.2.2 + u n) (u n)), (rnn u n).2.1 + u n, if n = 0 then u n else max (rnn u n).2.2.1 ((rnn u n).2.1 + u n), if n = 0 then u n else max ((rnn u n).2.2.2 + u n) (u n)) from rfl]
    (repeat' split) <;> first | rfl | (exfalso; omega) | omega
  · show ρ 17 0 3 = (rnn u (n + 1)).2.2.2
    rw [r3, show rnn u (n + 1) = (if n = 0 then u n else max (rnn u n).1 (if n = 0 then u n else max ((rnn u n).2.2.2 + u n) (u n)), (rnn u n).2.1 + u n, if n = 0 then u n else max (rnn u n).2.2.1 ((rnn u n).2.1 + u n), if n = 0 then u n else max ((rnn u n).2.2.2 + u n) (u n)) from rfl]
    (repeat' split) <;> first | rfl | (exfalso; omega) | omega
theorem pk_4 {σ ρ ρ2 : Mm} {u : Int → Int} {n : Nat} (h : FRc σ 4 u n) (g : Gx (fun c x y => c = 17 ∧ x = 0 ∨ c = 14 ∧ x = 0 ∧ y = 7) σ ρ) (r0 : ρ 17 0 0 = lnx (σ 16 0) (u n) (ltr (σ 16 0) u 0 n)) (r1 : ρ 17 0 1 = lnx (σ 16 0) (u n) (ltr (σ 16 0) u 1 n)) (r2 : ρ 17 0 2 = lnx (σ 16 0) (u n) (ltr (σ 16 0) u 2 n)) (r3 : ρ 17 0 3 = lnx (σ 16 0) (u n) (ltr (σ 16 0) u 3 n)) (r4 : ρ 17 0 4 = aptB (lnx (σ 16 0) (u n) (ltr (σ 16 0) u 0 n)) (lnx (σ 16 0) (u n) (ltr (σ 16 0) u 1 n)) (lnx (σ 16 0) (u n) (ltr (σ 16 0) u 2 n)) (lnx (σ 16 0) (u n) (ltr (σ 16 0) u 3 n))) (a : Al1 ρ ρ2 14 0 6) (q : ρ2 14 0 6 = (n : Int) + 1) : FRc ρ2 4 u (n + 1) := by
  have e16 : ρ2 16 0 = σ 16 0 := funext fun j => (a 16 0 j (by omega)).trans (g 16 0 j (by omega))
  have e15 : ρ2 15 0 = σ 15 0 := funext fun j => (a 15 0 j (by omega)).trans (g 15 0 j (by omega))
  refine ⟨(a 14 0 5 (by omega)).trans ((g 14 0 5 (by omega)).trans h.1), by rw [q]; omega, fun h7 => absurd h7 (by decide), fun k h0 h1 => ?_⟩
  rw [a 17 0 k (by omega), e16, e15]
  rcases (by have e : numF 4 = 5 := rfl; omega : k = 0 ∨ k = 1 ∨ k = 2 ∨ k = 3 ∨ k = 4) with rfl | rfl | rfl | rfl | rfl
  · exact r0
  · exact r1
  · exact r2
  · exact r3
  · exact r4
theorem pk_5 {σ ρ ρ2 : Mm} {u : Int → Int} {n : Nat} (h : FRc σ 5 u n) (g : Gx (fun c x y => c = 17 ∧ x = 0 ∨ c = 14 ∧ x = 0 ∧ y = 7) σ ρ) (r0 : ρ 17 0 0 = if 0 ≤ u n then (nst u n).1 else if 0 < (nst u n).2.1 then (nst u n).1 else (nst u n).1 + 1) (r1 : ρ 17 0 1 = if 0 ≤ u n then (nst u n).2.1 + 1 else if 0 < (nst u n).2.1 then (nst u n).2.1 - 1 else (nst u n).2.1) (r2 : ρ 17 0 2 = if 0 ≤ u n then (nst u n).2.2.1 else if 0 < (nst u n).2.1 then (nst u n).2.2.1 + 1 else (nst u n).2.2.1) (r3 : ρ 17 0 3 = max (nst u n).2.2.2 ((if 0 ≤ u n then (nst u n).2.1 + 1 else if 0 < (nst u n).2.1 then (nst u n).2.1 - 1 else (nst u n).2.1) - (if 0 ≤ u n then (nst u n).1 else if 0 < (nst u n).2.1 then (nst u n).1 else (nst u n).1 + 1))) (a : Al1 ρ ρ2 14 0 6) (q : ρ2 14 0 6 = (n : Int) + 1) : FRc ρ2 5 u (n + 1) := by
  have e16 : ρ2 16 0 = σ 16 0 := funext fun j => (a 16 0 j (by omega)).trans (g 16 0 j (by omega))
  have e15 : ρ2 15 0 = σ 15 0 := funext fun j => (a 15 0 j (by omega)).trans (g 15 0 j (by omega))
  refine ⟨(a 14 0 5 (by omega)).trans ((g 14 0 5 (by omega)).trans h.1), by rw [q]; omega, fun h7 => absurd h7 (by decide), fun k h0 h1 => ?_⟩
  rw [a 17 0 k (by omega), e16, e15]
  rcases (by have e : numF 5 = 4 := rfl; omega : k = 0 ∨ k = 1 ∨ k = 2 ∨ k = 3) with rfl | rfl | rfl | rfl
  · show ρ 17 0 0 = (nst u (n + 1)).1
    rw [r0, show nst u (n + 1) = (let s := nst u n; let t := if 0 ≤ u n then (s.1, s.2.1 + 1, s.2.2.1) else if 0 < s.2.1 then (s.1, s.2.1 - 1, s.2.2.1 + 1) else (s.1 + 1, s.2.1, s.2.2.1); (t.1, t.2.1, t.2.2, max s.2.2.2 (t.2.1 - t.1))) from rfl]
    by_cases c1 : 0 ≤ u n
    · simp only [if_pos c1]
    · by_cases c2 : 0 < (nst u n).2.1
      · simp only [if_neg c1, if_pos c2]
      · simp only [if_neg c1, if_neg c2]
  · show ρ 17 0 1 = (nst u (n + 1)).2.1
    rw [r1, show nst u (n + 1) = (let s := nst u n; let t := if 0 ≤ u n then (s.1, s.2.1 + 1, s.2.2.1) else if 0 < s.2.1 then (s.1, s.2.1 - 1, s.2.2.1 + 1) else (s.1 + 1, s.2.1, s.2.2.1); (t.1, t.2.1, t.2.2, max s.2.2.2 (t.2.1 - t.1))) from rfl]
    by_cases c1 : 0 ≤ u n
    · simp only [if_pos c1]
    · by_cases c2 : 0 < (nst u n).2.1
      · simp only [if_neg c1, if_pos c2]
      · simp only [if_neg c1, if_neg c2]
  · show ρ 17 0 2 = (nst u (n + 1)).2.2.1
    rw [r2, show nst u (n + 1) = (let s := nst u n; let t := if 0 ≤ u n then (s.1, s.2.1 + 1, s.2.2.1) else if 0 < s.2.1 then (s.1, s.2.1 - 1, s.2.2.1 + 1) else (s.1 + 1, s.2.1, s.2.2.1); (t.1, t.2.1, t.2.2, max s.2.2.2 (t.2.1 - t.1))) from rfl]
    by_cases c1 : 0 ≤ u n
    · simp only [if_pos c1]
    · by_cases c2 : 0 < (nst u n).2.1
      · simp only [if_neg c1, if_pos c2]
      · simp only [if_neg c1, if_neg c2]
  · show ρ 17 0 3 = (nst u (n + 1)).2.2.2
    rw [r3, show nst u (n + 1) = (let s := nst u n; let t := if 0 ≤ u n then (s.1, s.2.1 + 1, s.2.2.1) else if 0 < s.2.1 then (s.1, s.2.1 - 1, s.2.2.1 + 1) else (s.1 + 1, s.2.1, s.2.2.1); (t.1, t.2.1, t.2.2, max s.2.2.2 (t.2.1 - t.1))) from rfl]
    by_cases c1 : 0 ≤ u n
    · simp only [if_pos c1]
    · by_cases c2 : 0 < (nst u n).2.1
      · simp only [if_neg c1, if_pos c2]
      · simp only [if_neg c1, if_neg c2]
theorem pk_6 {σ ρ ρ2 : Mm} {u : Int → Int} {n : Nat} (h : FRc σ 6 u n) (g : Gx (fun c x y => c = 17 ∧ x = 0 ∨ c = 14 ∧ x = 0 ∧ y = 7) σ ρ) (r4 : ρ 17 0 4 = if (0 < (n : Int) ∧ u n = (if n = 0 then 0 else u (n - 1))) then (lke u n).2.2.2.2 + 1 else 1) (r2 : ρ 17 0 2 = if (0 < (n : Int) ∧ u n = (if n = 0 then 0 else u (n - 1))) then (lke u n).2.2.1 else (lke u n).2.2.1 + 1) (r3 : ρ 17 0 3 = if (if (0 < (n : Int) ∧ u n = (if n = 0 then 0 else u (n - 1))) then (lke u n).2.2.1 else (lke u n).2.2.1 + 1) = 1 then (if (0 < (n : Int) ∧ u n = (if n = 0 then 0 else u (n - 1))) then (lke u n).2.2.2.2 + 1 else 1) else (lke u n).2.2.2.1) (r0 : ρ 17 0 0 = if (if (0 < (n : Int) ∧ u n = (if n = 0 then 0 else u (n - 1))) then (lke u n).2.2.2.2 + 1 else 1) > (lke u n).1 then (if (0 < (n : Int) ∧ u n = (if n = 0 then 0 else u (n - 1))) then (lke u n).2.2.2.2 + 1 else 1) else (lke u n).1) (r1 : ρ 17 0 1 = if (if (0 < (n : Int) ∧ u n = (if n = 0 then 0 else u (n - 1))) then (lke u n).2.2.2.2 + 1 else 1) > (lke u n).1 then u n else (lke u n).2.1) (r5 : ρ 17 0 5 = if (n : Int) = 0 then u n else (if n = 0 then 0 else u 0)) (r6 : ρ 17 0 6 = u n) (a : Al1 ρ ρ2 14 0 6) (q : ρ2 14 0 6 = (n : Int) + 1) : FRc ρ2 6 u (n + 1) := by
  have e16 : ρ2 16 0 = σ 16 0 := funext fun j => (a 16 0 j (by omega)).trans (g 16 0 j (by omega))
  have e15 : ρ2 15 0 = σ 15 0 := funext fun j => (a 15 0 j (by omega)).trans (g 15 0 j (by omega))
  refine ⟨(a 14 0 5 (by omega)).trans ((g 14 0 5 (by omega)).trans h.1), by rw [q]; omega, fun h7 => absurd h7 (by decide), fun k h0 h1 => ?_⟩
  rw [a 17 0 k (by omega), e16, e15]
  rcases (by have e : numF 6 = 7 := rfl; omega : k = 0 ∨ k = 1 ∨ k = 2 ∨ k = 3 ∨ k = 4 ∨ k = 5 ∨ k = 6) with rfl | rfl | rfl | rfl | rfl | rfl | rfl
  · show ρ 17 0 0 = (lke u (n + 1)).1
    rw [r0, show lke u (n + 1) = (let s := lke u n; let same : Bool := decide (0 < n) && decide (u n = u (n - 1)); let l := if same then s.2.2.2.2 + 1 else 1; let r := if same then s.2.2.1 else s.2.2.1 + 1; (if l > s.1 then l else s.1, if l > s.1 then u n else s.2.1, r, if r = 1 then l else s.2.2.2.1, l)) from rfl]
    by_cases c1 : 0 < n ∧ u n = u (n - 1)
    · have d1 : (decide (0 < n) && decide (u n = u (n - 1))) = true := by simp [c1.1, c1.2]
      have d2 : (0 < (n : Int) ∧ u n = (if n = 0 then 0 else u (n - 1))) := ⟨by omega, by rw [if_neg (by omega)]; exact c1.2⟩
      simp only [d1, if_pos d2, if_true]
    · have d1 : (decide (0 < n) && decide (u n = u (n - 1))) = false := by
        cases hh : (decide (0 < n) && decide (u n = u (n - 1)))
        · rfl
        · simp at hh
          exact absurd hh c1
      have d2 : ¬ (0 < (n : Int) ∧ u n = (if n = 0 then 0 else u (n - 1))) := fun hq => c1 ⟨by omega, by have := hq.2; rw [if_neg (by omega)] at this; exact this⟩
      simp only [d1, if_neg d2]
      rfl
  · show ρ 17 0 1 = (lke u (n + 1)).2.1
    rw [r1, show lke u (n + 1) = (let s := lke u n; let same : Bool := decide (0 < n) && decide (u n = u (n - 1)); let l := if same then s.2.2.2.2 + 1 else 1; let r := if same then s.2.2.1 else s.2.2.1 + 1; (if l > s.1 then l else s.1, if l > s.1 then u n else s.2.1, r, if r = 1 then l else s.2.2.2.1, l)) from rfl]
    by_cases c1 : 0 < n ∧ u n = u (n - 1)
    · have d1 : (decide (0 < n) && decide (u n = u (n - 1))) = true := by simp [c1.1, c1.2]
      have d2 : (0 < (n : Int) ∧ u n = (if n = 0 then 0 else u (n - 1))) := ⟨by omega, by rw [if_neg (by omega)]; exact c1.2⟩
      simp only [d1, if_pos d2, if_true]
    · have d1 : (decide (0 < n) && decide (u n = u (n - 1))) = false := by
        cases hh : (decide (0 < n) && decide (u n = u (n - 1)))
        · rfl
        · simp at hh
          exact absurd hh c1
      have d2 : ¬ (0 < (n : Int) ∧ u n = (if n = 0 then 0 else u (n - 1))) := fun hq => c1 ⟨by omega, by have := hq.2; rw [if_neg (by omega)] at this; exact this⟩
      simp only [d1, if_neg d2]
      rfl
  · show ρ 17 0 2 = (lke u (n + 1)).2.2.1
    rw [r2, show lke u (n + 1) = (let s := lke u n; let same : Bool := decide (0 < n) && decide (u n = u (n - 1)); let l := if same then s.2.2.2.2 + 1 else 1; let r := if same then s.2.2.1 else s.2.2.1 + 1; (if l > s.1 then l else s.1, if l > s.1 then u n else s.2.1, r, if r = 1 then l else s.2.2.2.1, l)) from rfl]
    by_cases c1 : 0 < n ∧ u n = u (n - 1)
    · have d1 : (decide (0 < n) && decide (u n = u (n - 1))) = true := by simp [c1.1, c1.2]
      have d2 : (0 < (n : Int) ∧ u n = (if n = 0 then 0 else u (n - 1))) := ⟨by omega, by rw [if_neg (by omega)]; exact c1.2⟩
      simp only [d1, if_pos d2, if_true]
    · have d1 : (decide (0 < n) && decide (u n = u (n - 1))) = false := by
        cases hh : (decide (0 < n) && decide (u n = u (n - 1)))
        · rfl
        · simp at hh
          exact absurd hh c1
      have d2 : ¬ (0 < (n : Int) ∧ u n = (if n = 0 then 0 else u (n - 1))) := fun hq => c1 ⟨by omega, by have := hq.2; rw [if_neg (by omega)] at this; exact this⟩
      simp only [d1, if_neg d2]
      rfl
  · show ρ 17 0 3 = (lke u (n + 1)).2.2.2.1
    rw [r3, show lke u (n + 1) = (let s := lke u n; let same : Bool := decide (0 < n) && decide (u n = u (n - 1)); let l := if same then s.2.2.2.2 + 1 else 1; let r := if same then s.2.2.1 else s.2.2.1 + 1; (if l > s.1 then l else s.1, if l > s.1 then u n else s.2.1, r, if r = 1 then l else s.2.2.2.1, l)) from rfl]
    by_cases c1 : 0 < n ∧ u n = u (n - 1)
    · have d1 : (decide (0 < n) && decide (u n = u (n - 1))) = true := by simp [c1.1, c1.2]
      have d2 : (0 < (n : Int) ∧ u n = (if n = 0 then 0 else u (n - 1))) := ⟨by omega, by rw [if_neg (by omega)]; exact c1.2⟩
      simp only [d1, if_pos d2, if_true]
    · have d1 : (decide (0 < n) && decide (u n = u (n - 1))) = false := by
        cases hh : (decide (0 < n) && decide (u n = u (n - 1)))
        · rfl
        · simp at hh
          exact absurd hh c1
      have d2 : ¬ (0 < (n : Int) ∧ u n = (if n = 0 then 0 else u (n - 1))) := fun hq => c1 ⟨by omega, by have := hq.2; rw [if_neg (by omega)] at this; exact this⟩
      simp only [d1, if_neg d2]
      rfl
  · show ρ 17 0 4 = (lke u (n + 1)).2.2.2.2
    rw [r4, show lke u (n + 1) = (let s := lke u n; let same : Bool := decide (0 < n) && decide (u n = u (n - 1)); let l := if same then s.2.2.2.2 + 1 else 1; let r := if same then s.2.2.1 else s.2.2.1 + 1; (if l > s.1 then l else s.1, if l > s.1 then u n else s.2.1, r, if r = 1 then l else s.2.2.2.1, l)) from rfl]
    by_cases c1 : 0 < n ∧ u n = u (n - 1)
    · have d1 : (decide (0 < n) && decide (u n = u (n - 1))) = true := by simp [c1.1, c1.2]
      have d2 : (0 < (n : Int) ∧ u n = (if n = 0 then 0 else u (n - 1))) := ⟨by omega, by rw [if_neg (by omega)]; exact c1.2⟩
      simp only [d1, if_pos d2, if_true]
    · have d1 : (decide (0 < n) && decide (u n = u (n - 1))) = false := by
        cases hh : (decide (0 < n) && decide (u n = u (n - 1)))
        · rfl
        · simp at hh
          exact absurd hh c1
      have d2 : ¬ (0 < (n : Int) ∧ u n = (if n = 0 then 0 else u (n - 1))) := fun hq => c1 ⟨by omega, by have := hq.2; rw [if_neg (by omega)] at this; exact this⟩
      simp only [d1, if_neg d2]
      rfl
  · show ρ 17 0 5 = u 0
    rw [r5]
    by_cases hn : n = 0
    · subst hn
      rfl
    · rw [if_neg (by omega), if_neg hn]
  · show ρ 17 0 6 = u (((n + 1 : Nat) : Int) - 1)
    rw [r6, show ((n + 1 : Nat) : Int) - 1 = (n : Int) from by omega]
theorem pk_7 {σ ρ ρ2 : Mm} {u : Int → Int} {n : Nat} (h : FRc σ 7 u n) (g : Gx (fun c x y => c = 17 ∧ x = 0 ∨ c = 14 ∧ x = 0 ∧ y = 7) σ ρ) (r0 : ρ 17 0 0 = (stp u n).1 + (if (0 < (n : Int) ∧ u n < (if n = 0 then 0 else u (n - 1))) then 1 else 0)) (r1 : ρ 17 0 1 = (stp u n).2.1 + (if (0 < (n : Int) ∧ u n > (if n = 0 then 0 else u (n - 1))) then 1 else 0)) (r2 : ρ 17 0 2 = if (n : Int) = 0 then u n else (if n = 0 then 0 else u 0)) (r3 : ρ 17 0 3 = u n) (r4 : ρ 17 0 4 = max (stp u n).2.2.1 (if (0 < (n : Int) ∧ u n < (if n = 0 then 0 else u (n - 1))) then 1 else (stp u n).2.2.2 + 1)) (rr : ρ 14 0 7 = if (0 < (n : Int) ∧ u n < (if n = 0 then 0 else u (n - 1))) then 1 else (stp u n).2.2.2 + 1) (a : Al1 ρ ρ2 14 0 6) (q : ρ2 14 0 6 = (n : Int) + 1) : FRc ρ2 7 u (n + 1) := by
  have e16 : ρ2 16 0 = σ 16 0 := funext fun j => (a 16 0 j (by omega)).trans (g 16 0 j (by omega))
  have e15 : ρ2 15 0 = σ 15 0 := funext fun j => (a 15 0 j (by omega)).trans (g 15 0 j (by omega))
  refine ⟨(a 14 0 5 (by omega)).trans ((g 14 0 5 (by omega)).trans h.1), by rw [q]; omega, fun h7 => ?_, fun k h0 h1 => ?_⟩
  · rw [a 14 0 7 (by omega), rr]
    show _ = (stp u (n + 1)).2.2.2
    rw [show stp u (n + 1) = (let s := stp u n; let f : Bool := decide (0 < n) && decide (u n < u (n - 1)); let c : Bool := decide (0 < n) && decide (u n > u (n - 1)); let r := if f then 1 else s.2.2.2 + 1; (s.1 + (if f then 1 else 0), s.2.1 + (if c then 1 else 0), max s.2.2.1 r, r)) from rfl]
    by_cases c1 : 0 < n ∧ u n < u (n - 1)
    · have d1 : (decide (0 < n) && decide (u n < u (n - 1))) = true := by simp only [c1.1, c1.2, decide_true, Bool.and_self]
      have d2 : (0 < (n : Int) ∧ u n < (if n = 0 then 0 else u (n - 1))) := ⟨by omega, by rw [if_neg (by omega)]; exact c1.2⟩
      simp only [d1, if_pos d2, if_true]
    · have d1 : (decide (0 < n) && decide (u n < u (n - 1))) = false := by
        cases hh : (decide (0 < n) && decide (u n < u (n - 1)))
        · rfl
        · simp only [Bool.and_eq_true, decide_eq_true_eq] at hh
          exact absurd hh c1
      have d2 : ¬ (0 < (n : Int) ∧ u n < (if n = 0 then 0 else u (n - 1))) := fun hq => c1 ⟨by omega, by have := hq.2; rw [if_neg (by omega)] at this; exact this⟩
      simp only [d1, if_neg d2]
      rfl
  · rw [a 17 0 k (by omega), e16, e15]
    rcases (by have e : numF 7 = 5 := rfl; omega : k = 0 ∨ k = 1 ∨ k = 2 ∨ k = 3 ∨ k = 4) with rfl | rfl | rfl | rfl | rfl
    · show ρ 17 0 0 = (stp u (n + 1)).1
      rw [r0, show stp u (n + 1) = (let s := stp u n; let f : Bool := decide (0 < n) && decide (u n < u (n - 1)); let c : Bool := decide (0 < n) && decide (u n > u (n - 1)); let r := if f then 1 else s.2.2.2 + 1; (s.1 + (if f then 1 else 0), s.2.1 + (if c then 1 else 0), max s.2.2.1 r, r)) from rfl]
      by_cases c1 : 0 < n ∧ u n < u (n - 1)
      · have d1 : (decide (0 < n) && decide (u n < u (n - 1))) = true := by simp only [c1.1, c1.2, decide_true, Bool.and_self]
        have d2 : (0 < (n : Int) ∧ u n < (if n = 0 then 0 else u (n - 1))) := ⟨by omega, by rw [if_neg (by omega)]; exact c1.2⟩
        simp only [d1, if_pos d2, if_true]
      · have d1 : (decide (0 < n) && decide (u n < u (n - 1))) = false := by
          cases hh : (decide (0 < n) && decide (u n < u (n - 1)))
          · rfl
          · simp only [Bool.and_eq_true, decide_eq_true_eq] at hh
            exact absurd hh c1
        have d2 : ¬ (0 < (n : Int) ∧ u n < (if n = 0 then 0 else u (n - 1))) := fun hq => c1 ⟨by omega, by have := hq.2; rw [if_neg (by omega)] at this; exact this⟩
        simp only [d1, if_neg d2]
        rfl
    · show ρ 17 0 1 = (stp u (n + 1)).2.1
      rw [r1, show stp u (n + 1) = (let s := stp u n; let f : Bool := decide (0 < n) && decide (u n < u (n - 1)); let c : Bool := decide (0 < n) && decide (u n > u (n - 1)); let r := if f then 1 else s.2.2.2 + 1; (s.1 + (if f then 1 else 0), s.2.1 + (if c then 1 else 0), max s.2.2.1 r, r)) from rfl]
      by_cases c1 : 0 < n ∧ u n > u (n - 1)
      · have d1 : (decide (0 < n) && decide (u n > u (n - 1))) = true := by simp only [c1.1, c1.2, decide_true, Bool.and_self]
        have d2 : (0 < (n : Int) ∧ u n > (if n = 0 then 0 else u (n - 1))) := ⟨by omega, by rw [if_neg (by omega)]; exact c1.2⟩
        simp only [d1, if_pos d2, if_true]
      · have d1 : (decide (0 < n) && decide (u n > u (n - 1))) = false := by
          cases hh : (decide (0 < n) && decide (u n > u (n - 1)))
          · rfl
          · simp only [Bool.and_eq_true, decide_eq_true_eq] at hh
            exact absurd hh c1
        have d2 : ¬ (0 < (n : Int) ∧ u n > (if n = 0 then 0 else u (n - 1))) := fun hq => c1 ⟨by omega, by have := hq.2; rw [if_neg (by omega)] at this; exact this⟩
        simp only [d1, if_neg d2]
        rfl
    · show ρ 17 0 2 = u 0
      rw [r2]
      by_cases hn : n = 0
      · subst hn
        rfl
      · rw [if_neg (by omega), if_neg hn]
    · show ρ 17 0 3 = u (((n + 1 : Nat) : Int) - 1)
      rw [r3, show ((n + 1 : Nat) : Int) - 1 = (n : Int) from by omega]
    · show ρ 17 0 4 = (stp u (n + 1)).2.2.1
      rw [r4, show stp u (n + 1) = (let s := stp u n; let f : Bool := decide (0 < n) && decide (u n < u (n - 1)); let c : Bool := decide (0 < n) && decide (u n > u (n - 1)); let r := if f then 1 else s.2.2.2 + 1; (s.1 + (if f then 1 else 0), s.2.1 + (if c then 1 else 0), max s.2.2.1 r, r)) from rfl]
      by_cases c1 : 0 < n ∧ u n < u (n - 1)
      · have d1 : (decide (0 < n) && decide (u n < u (n - 1))) = true := by simp only [c1.1, c1.2, decide_true, Bool.and_self]
        have d2 : (0 < (n : Int) ∧ u n < (if n = 0 then 0 else u (n - 1))) := ⟨by omega, by rw [if_neg (by omega)]; exact c1.2⟩
        simp only [d1, if_pos d2, if_true]
      · have d1 : (decide (0 < n) && decide (u n < u (n - 1))) = false := by
          cases hh : (decide (0 < n) && decide (u n < u (n - 1)))
          · rfl
          · simp only [Bool.and_eq_true, decide_eq_true_eq] at hh
            exact absurd hh c1
        have d2 : ¬ (0 < (n : Int) ∧ u n < (if n = 0 then 0 else u (n - 1))) := fun hq => c1 ⟨by omega, by have := hq.2; rw [if_neg (by omega)] at this; exact this⟩
        simp only [d1, if_neg d2]
        rfl
theorem pk_8 {σ ρ ρ2 : Mm} {u : Int → Int} {n : Nat} (h : FRc σ 8 u n) (g : Gx (fun c x y => c = 17 ∧ x = 0 ∨ c = 14 ∧ x = 0 ∧ y = 7) σ ρ) (r0 : ρ 17 0 0 = if 0 < u n ∧ ((spr u n).1 = -2147483648 ∨ u n < (spr u n).1) then u n else (spr u n).1) (r1 : ρ 17 0 1 = if u n < 0 ∧ (spr u n).2.1 < u n then u n else (spr u n).2.1) (r2 : ρ 17 0 2 = (spr u n).2.2 + (if u n = 0 then 1 else 0)) (a : Al1 ρ ρ2 14 0 6) (q : ρ2 14 0 6 = (n : Int) + 1) : FRc ρ2 8 u (n + 1) := by
  have e16 : ρ2 16 0 = σ 16 0 := funext fun j => (a 16 0 j (by omega)).trans (g 16 0 j (by omega))
  have e15 : ρ2 15 0 = σ 15 0 := funext fun j => (a 15 0 j (by omega)).trans (g 15 0 j (by omega))
  refine ⟨(a 14 0 5 (by omega)).trans ((g 14 0 5 (by omega)).trans h.1), by rw [q]; omega, fun h7 => absurd h7 (by decide), fun k h0 h1 => ?_⟩
  rw [a 17 0 k (by omega), e16, e15]
  rcases (by have e : numF 8 = 3 := rfl; omega : k = 0 ∨ k = 1 ∨ k = 2) with rfl | rfl | rfl
  · exact r0
  · exact r1
  · exact r2
theorem pk_9 {σ ρ ρ2 : Mm} {u : Int → Int} {n : Nat} (h : FRc σ 9 u n) (g : Gx (fun c x y => c = 17 ∧ x = 0 ∨ c = 14 ∧ x = 0 ∧ y = 7) σ ρ) (r0 : ρ 17 0 0 = if (n : Int) = 0 then u n % 4 else σ 15 0 (4 * tbl (σ 15 0) u n + u n % 4)) (a : Al1 ρ ρ2 14 0 6) (q : ρ2 14 0 6 = (n : Int) + 1) : FRc ρ2 9 u (n + 1) := by
  have e16 : ρ2 16 0 = σ 16 0 := funext fun j => (a 16 0 j (by omega)).trans (g 16 0 j (by omega))
  have e15 : ρ2 15 0 = σ 15 0 := funext fun j => (a 15 0 j (by omega)).trans (g 15 0 j (by omega))
  refine ⟨(a 14 0 5 (by omega)).trans ((g 14 0 5 (by omega)).trans h.1), by rw [q]; omega, fun h7 => absurd h7 (by decide), fun k h0 h1 => ?_⟩
  rw [a 17 0 k (by omega), e16, e15]
  obtain rfl : k = 0 := by have e : numF 9 = 1 := rfl; omega
  show ρ 17 0 0 = (if n = 0 then u 0 % 4 else σ 15 0 (4 * tbl (σ 15 0) u n + u n % 4))
  rw [r0]
  by_cases hn : n = 0
  · subst hn
    rfl
  · rw [if_neg (by omega), if_neg hn]
theorem fr_zero {ρ : Mm} {o : Int} {u : Int → Int} (b_o : 0 ≤ o ∧ o ≤ 9) (w5 : ρ 14 0 5 = o) (w6 : ρ 14 0 6 = 0) (w7 : ρ 14 0 7 = 0) (a0 : ρ 17 0 0 = if o = 2 then 1 else if o = 8 then -2147483648 else 0) (a1 : ρ 17 0 1 = if o = 4 then 1 else if o = 8 then -2147483648 else 0) (a2 : ρ 17 0 2 = if o = 4 then 2 else 0) (a3 : ρ 17 0 3 = if o = 4 then 3 else 0) (a4 : ρ 17 0 4 = 0 ∧ ρ 17 0 5 = 0 ∧ ρ 17 0 6 = 0) : FRc ρ o u 0 := by
  refine ⟨w5, w6, fun _ => w7, fun k h0 h1 => ?_⟩
  rcases (by omega : o = 0 ∨ o = 1 ∨ o = 2 ∨ o = 3 ∨ o = 4 ∨ o = 5 ∨ o = 6 ∨ o = 7 ∨ o = 8 ∨ o = 9) with rfl | rfl | rfl | rfl | rfl | rfl | rfl | rfl | rfl | rfl
  · rcases (by have e : numF 0 = 4 := rfl; omega : k = 0 ∨ k = 1 ∨ k = 2 ∨ k = 3) with rfl | rfl | rfl | rfl
    · exact a0
    · exact a1
    · exact a2
    · exact a3
  · rcases (by have e : numF 1 = 2 := rfl; omega : k = 0 ∨ k = 1) with rfl | rfl
    · exact a0
    · exact a1
  · rcases (by have e : numF 2 = 2 := rfl; omega : k = 0 ∨ k = 1) with rfl | rfl
    · exact a0
    · exact a1
  · rcases (by have e : numF 3 = 4 := rfl; omega : k = 0 ∨ k = 1 ∨ k = 2 ∨ k = 3) with rfl | rfl | rfl | rfl
    · exact a0
    · exact a1
    · exact a2
    · exact a3
  · rcases (by have e : numF 4 = 5 := rfl; omega : k = 0 ∨ k = 1 ∨ k = 2 ∨ k = 3 ∨ k = 4) with rfl | rfl | rfl | rfl | rfl
    · exact a0
    · exact a1
    · exact a2
    · exact a3
    · exact a4.1
  · rcases (by have e : numF 5 = 4 := rfl; omega : k = 0 ∨ k = 1 ∨ k = 2 ∨ k = 3) with rfl | rfl | rfl | rfl
    · exact a0
    · exact a1
    · exact a2
    · exact a3
  · rcases (by have e : numF 6 = 7 := rfl; omega : k = 0 ∨ k = 1 ∨ k = 2 ∨ k = 3 ∨ k = 4 ∨ k = 5 ∨ k = 6) with rfl | rfl | rfl | rfl | rfl | rfl | rfl
    · exact a0
    · exact a1
    · exact a2
    · exact a3
    · exact a4.1
    · exact a4.2.1
    · exact a4.2.2
  · rcases (by have e : numF 7 = 5 := rfl; omega : k = 0 ∨ k = 1 ∨ k = 2 ∨ k = 3 ∨ k = 4) with rfl | rfl | rfl | rfl | rfl
    · exact a0
    · exact a1
    · exact a2
    · exact a3
    · exact a4.1
  · rcases (by have e : numF 8 = 3 := rfl; omega : k = 0 ∨ k = 1 ∨ k = 2) with rfl | rfl | rfl
    · exact a0
    · exact a1
    · exact a2
  · obtain rfl : k = 0 := by have e : numF 9 = 1 := rfl; omega
    exact a0
-- B: append and begin, told whole
theorem x_append {eb : Bool} {u : Int → Int} {n : Nat} {d : Nat} {P : Option Vl → Mm → Prop} {σ : Mm} {o : Int} (b_e2 : -1000 ≤ (u n) ∧ (u n) ≤ 1000) (b_o : 0 ≤ o ∧ o ≤ 9) (qg0 : σ 14 0 5 = o) (qg1 : σ 14 0 6 = (n : Int)) (hn : n ≤ 242) (hb : Bd u n) (hF : FRc σ o u n) (hcl : ∀ j : Int, 0 ≤ j → j < 16 → 0 ≤ σ 15 0 j ∧ σ 15 0 j ≤ 3)  (k : ∀ ρ : Mm, Gx (fun c x y => c = 17 ∧ x = 0 ∨ c = 14 ∧ x = 0 ∧ (y = 6 ∨ y = 7)) σ ρ → FRc ρ o u (n + 1) → P none ρ) : WT (true, true, eb) (d + 3) 14 [vR 14 0, vI (u n)] σ P := by
  refine WT_in fun K hK => ?_
  have hK : StpY (true, true, eb) cX1_append RX1 (none) (WT (true, true, eb) (d + 2)) P K := hK
  have hM := hK.1
  have hC := hK.1.1
  show K 0 [some (vR 14 0), some (vI (u n))] [] σ
  refine r_aload_n hC dX1_append_0 rfl ?_
  refine z_getI (jz := 5) hM dX1_append_1 fl_RX1_30 rfl rfl rfl (fun v1 h_v1 o_v1 t_v1 => ?_)
  have e_v1 : o = v1 := ((t_v1 ((by simp [Tk, Tb, DL, DF, DX]))).trans qg0).symm
  subst e_v1
  rcases (by omega : (o < 0 ∨ 8 < o) ∨ o = 0 ∨ o = 1 ∨ o = 2 ∨ o = 3 ∨ o = 4 ∨ o = 5 ∨ o = 6 ∨ o = 7 ∨ o = 8) with h2 | h2 | h2 | h2 | h2 | h2 | h2 | h2 | h2 | h2
  · refine r_tableOut (tgt := 128) hC dX1_append_4 h2 rfl ?_
    refine r_aload_n hC dX1_append_128 rfl ?_
    refine r_iload_n hC dX1_append_129 rfl ?_
    refine z_inv1 hM dX1_append_130 vl_RX1_85 rfl rfl rfl (Nat.le_of_ble_eq_true rfl) (Nat.le_of_ble_eq_true rfl) ?_
    have hk_ : o = 9 := by omega
    have hFk : FRc σ 9 u n := by have q := hF; rw [hk_] at q; exact q
    have f0 := un_9 hFk
    have hb_ := tbl_b (u := u) hcl n
    refine x_addElement (by omega) (by omega) f0 (by omega) hF.2.1 (fun ρ3 g_ρ3 e0 => ?_)
    refine r_aload_n hC dX1_append_133 rfl ?_
    refine r_dup hC dX1_append_134 rfl ?_
    refine z_getI (jz := 6) hM dX1_append_135 fl_RX1_34 rfl rfl rfl (fun v4 h_v4 o_v4 t_v4 => ?_)
    have e_v4 : (n : Int) = v4 := ((t_v4 ((by simp [Tk, Tb, DL, DF, DX]))).trans ((g_ρ3 _ _ _ (by omega)).trans qg1)).symm
    subst e_v4
    refine r_iconst hC dX1_append_138 rfl ?_
    refine r_iaddE hC (((n : Int) + 1)) dX1_append_139 (by omega) (by unfold inR; omega) ?_
    refine z_putIG (jz := 6) hM dX1_append_140 fw_RX1_34 rfl rfl rfl (by simp [Tl, DL, DF]) (by first | trivial | (simp only [Okv]; omega) | (simp [Okv]; try omega)) (fun ρ5 a_ρ5 q_ρ5 => ?_)
    refine y_vret hK rfl dX1_append_143 ?_
    exact k _ ((Gx.gx (Gx.rf) g_ρ3 (by intro c x y h; omega)).al a_ρ5 (by first | (simp; done) | omega | (simp; omega))) (by rw [hk_]; exact pk_9 hFk g_ρ3 e0 a_ρ5 q_ρ5)
  · refine r_tableIn (tgt := 56) (off := 52) hC dX1_append_4 (by omega) (by omega) (by rw [h2]; rfl) rfl ?_
    refine r_aload_n hC dX1_append_56 rfl ?_
    refine r_iload_n hC dX1_append_57 rfl ?_
    refine z_inv1 hM dX1_append_58 vl_RX1_57 rfl rfl rfl (Nat.le_of_ble_eq_true rfl) (Nat.le_of_ble_eq_true rfl) ?_
    have hk_ : o = 0 := h2
    have hFk : FRc σ 0 u n := by have q := hF; rw [hk_] at q; exact q
    obtain ⟨f0, f1, f2, f3⟩ := un_0 hFk
    have hb_ := gr_b u n
    refine x_addGreatest (by omega) f0 (by omega) f1 f2 f3 (by omega) hF.2.1 (fun ρ6 g_ρ6 e0 e1 e2 e3 => ?_)
    refine r_goto (tgt := 133) hC dX1_append_61 rfl ?_
    refine r_aload_n hC dX1_append_133 rfl ?_
    refine r_dup hC dX1_append_134 rfl ?_
    refine z_getI (jz := 6) hM dX1_append_135 fl_RX1_34 rfl rfl rfl (fun v7 h_v7 o_v7 t_v7 => ?_)
    have e_v7 : (n : Int) = v7 := ((t_v7 ((by simp [Tk, Tb, DL, DF, DX]))).trans ((g_ρ6 _ _ _ (by omega)).trans qg1)).symm
    subst e_v7
    refine r_iconst hC dX1_append_138 rfl ?_
    refine r_iaddE hC (((n : Int) + 1)) dX1_append_139 (by omega) (by unfold inR; omega) ?_
    refine z_putIG (jz := 6) hM dX1_append_140 fw_RX1_34 rfl rfl rfl (by simp [Tl, DL, DF]) (by first | trivial | (simp only [Okv]; omega) | (simp [Okv]; try omega)) (fun ρ8 a_ρ8 q_ρ8 => ?_)
    refine y_vret hK rfl dX1_append_143 ?_
    exact k _ ((Gx.gx (Gx.rf) g_ρ6 (by intro c x y h; omega)).al a_ρ8 (by first | (simp; done) | omega | (simp; omega))) (by rw [hk_]; exact pk_0 hFk g_ρ6 e0 e1 e2 e3 a_ρ8 q_ρ8)
  · refine r_tableIn (tgt := 64) (off := 60) hC dX1_append_4 (by omega) (by omega) (by rw [h2]; rfl) rfl ?_
    refine r_aload_n hC dX1_append_64 rfl ?_
    refine r_iload_n hC dX1_append_65 rfl ?_
    refine z_inv1 hM dX1_append_66 vl_RX1_61 rfl rfl rfl (Nat.le_of_ble_eq_true rfl) (Nat.le_of_ble_eq_true rfl) ?_
    have hk_ : o = 1 := h2
    have hFk : FRc σ 1 u n := by have q := hF; rw [hk_] at q; exact q
    obtain ⟨f0, f1⟩ := un_1 hFk
    have hb_ := shr_b u n
    have hp_ := shr_pos u n
    refine x_addShare (by omega) (by omega) f0 (by omega) f1 (fun ρ9 g_ρ9 e0 e1 => ?_)
    refine r_goto (tgt := 133) hC dX1_append_69 rfl ?_
    refine r_aload_n hC dX1_append_133 rfl ?_
    refine r_dup hC dX1_append_134 rfl ?_
    refine z_getI (jz := 6) hM dX1_append_135 fl_RX1_34 rfl rfl rfl (fun v10 h_v10 o_v10 t_v10 => ?_)
    have e_v10 : (n : Int) = v10 := ((t_v10 ((by simp [Tk, Tb, DL, DF, DX]))).trans ((g_ρ9 _ _ _ (by omega)).trans qg1)).symm
    subst e_v10
    refine r_iconst hC dX1_append_138 rfl ?_
    refine r_iaddE hC (((n : Int) + 1)) dX1_append_139 (by omega) (by unfold inR; omega) ?_
    refine z_putIG (jz := 6) hM dX1_append_140 fw_RX1_34 rfl rfl rfl (by simp [Tl, DL, DF]) (by first | trivial | (simp only [Okv]; omega) | (simp [Okv]; try omega)) (fun ρ11 a_ρ11 q_ρ11 => ?_)
    refine y_vret hK rfl dX1_append_143 ?_
    exact k _ ((Gx.gx (Gx.rf) g_ρ9 (by intro c x y h; omega)).al a_ρ11 (by first | (simp; done) | omega | (simp; omega))) (by rw [hk_]; exact pk_1 hFk g_ρ9 e0 e1 a_ρ11 q_ρ11)
  · refine r_tableIn (tgt := 72) (off := 68) hC dX1_append_4 (by omega) (by omega) (by rw [h2]; rfl) rfl ?_
    refine r_aload_n hC dX1_append_72 rfl ?_
    refine r_iload_n hC dX1_append_73 rfl ?_
    refine z_inv1 hM dX1_append_74 vl_RX1_64 rfl rfl rfl (Nat.le_of_ble_eq_true rfl) (Nat.le_of_ble_eq_true rfl) ?_
    have hk_ : o = 2 := h2
    have hFk : FRc σ 2 u n := by have q := hF; rw [hk_] at q; exact q
    obtain ⟨f0, f1⟩ := un_2 hFk
    have hb_ := lin_b u n
    refine x_addLine (by omega) (by omega) f0 (by omega) f1 (fun ρ12 g_ρ12 e0 e1 => ?_)
    refine r_goto (tgt := 133) hC dX1_append_77 rfl ?_
    refine r_aload_n hC dX1_append_133 rfl ?_
    refine r_dup hC dX1_append_134 rfl ?_
    refine z_getI (jz := 6) hM dX1_append_135 fl_RX1_34 rfl rfl rfl (fun v13 h_v13 o_v13 t_v13 => ?_)
    have e_v13 : (n : Int) = v13 := ((t_v13 ((by simp [Tk, Tb, DL, DF, DX]))).trans ((g_ρ12 _ _ _ (by omega)).trans qg1)).symm
    subst e_v13
    refine r_iconst hC dX1_append_138 rfl ?_
    refine r_iaddE hC (((n : Int) + 1)) dX1_append_139 (by omega) (by unfold inR; omega) ?_
    refine z_putIG (jz := 6) hM dX1_append_140 fw_RX1_34 rfl rfl rfl (by simp [Tl, DL, DF]) (by first | trivial | (simp only [Okv]; omega) | (simp [Okv]; try omega)) (fun ρ14 a_ρ14 q_ρ14 => ?_)
    refine y_vret hK rfl dX1_append_143 ?_
    exact k _ ((Gx.gx (Gx.rf) g_ρ12 (by intro c x y h; omega)).al a_ρ14 (by first | (simp; done) | omega | (simp; omega))) (by rw [hk_]; exact pk_2 hFk g_ρ12 e0 e1 a_ρ14 q_ρ14)
  · refine r_tableIn (tgt := 80) (off := 76) hC dX1_append_4 (by omega) (by omega) (by rw [h2]; rfl) rfl ?_
    refine r_aload_n hC dX1_append_80 rfl ?_
    refine r_iload_n hC dX1_append_81 rfl ?_
    refine z_inv1 hM dX1_append_82 vl_RX1_67 rfl rfl rfl (Nat.le_of_ble_eq_true rfl) (Nat.le_of_ble_eq_true rfl) ?_
    have hk_ : o = 3 := h2
    have hFk : FRc σ 3 u n := by have q := hF; rw [hk_] at q; exact q
    obtain ⟨f0, f1, f2, f3⟩ := un_3 hFk
    have hb_ := rnn_b n hb
    refine x_addRun (by omega) (by omega) f0 (by omega) f1 (by omega) f2 (by omega) f3 (by omega) hF.2.1 (fun ρ15 g_ρ15 e1 e2 e3 e0 => ?_)
    refine r_goto (tgt := 133) hC dX1_append_85 rfl ?_
    refine r_aload_n hC dX1_append_133 rfl ?_
    refine r_dup hC dX1_append_134 rfl ?_
    refine z_getI (jz := 6) hM dX1_append_135 fl_RX1_34 rfl rfl rfl (fun v16 h_v16 o_v16 t_v16 => ?_)
    have e_v16 : (n : Int) = v16 := ((t_v16 ((by simp [Tk, Tb, DL, DF, DX]))).trans ((g_ρ15 _ _ _ (by omega)).trans qg1)).symm
    subst e_v16
    refine r_iconst hC dX1_append_138 rfl ?_
    refine r_iaddE hC (((n : Int) + 1)) dX1_append_139 (by omega) (by unfold inR; omega) ?_
    refine z_putIG (jz := 6) hM dX1_append_140 fw_RX1_34 rfl rfl rfl (by simp [Tl, DL, DF]) (by first | trivial | (simp only [Okv]; omega) | (simp [Okv]; try omega)) (fun ρ17 a_ρ17 q_ρ17 => ?_)
    refine y_vret hK rfl dX1_append_143 ?_
    exact k _ ((Gx.gx (Gx.rf) g_ρ15 (by intro c x y h; omega)).al a_ρ17 (by first | (simp; done) | omega | (simp; omega))) (by rw [hk_]; exact pk_3 hFk g_ρ15 e1 e2 e3 e0 a_ρ17 q_ρ17)
  · refine r_tableIn (tgt := 88) (off := 84) hC dX1_append_4 (by omega) (by omega) (by rw [h2]; rfl) rfl ?_
    refine r_aload_n hC dX1_append_88 rfl ?_
    refine r_iload_n hC dX1_append_89 rfl ?_
    refine z_inv1 hM dX1_append_90 vl_RX1_70 rfl rfl rfl (Nat.le_of_ble_eq_true rfl) (Nat.le_of_ble_eq_true rfl) ?_
    have hk_ : o = 4 := h2
    have hFk : FRc σ 4 u n := by have q := hF; rw [hk_] at q; exact q
    obtain ⟨f0, f1, f2, f3⟩ := un_4 hFk
    have hb0 := ltr_b (tl := σ 16 0) (u := u) (s := 0) (by omega) n
    have hb1 := ltr_b (tl := σ 16 0) (u := u) (s := 1) (by omega) n
    have hb2 := ltr_b (tl := σ 16 0) (u := u) (s := 2) (by omega) n
    have hb3 := ltr_b (tl := σ 16 0) (u := u) (s := 3) (by omega) n
    refine x_addLetter (by omega) (by omega) f0 (by omega) f1 (by omega) f2 (by omega) f3 rfl (fun ρ18 g_ρ18 e0 e1 e2 e3 e4 => ?_)
    refine r_goto (tgt := 133) hC dX1_append_93 rfl ?_
    refine r_aload_n hC dX1_append_133 rfl ?_
    refine r_dup hC dX1_append_134 rfl ?_
    refine z_getI (jz := 6) hM dX1_append_135 fl_RX1_34 rfl rfl rfl (fun v19 h_v19 o_v19 t_v19 => ?_)
    have e_v19 : (n : Int) = v19 := ((t_v19 ((by simp [Tk, Tb, DL, DF, DX]))).trans ((g_ρ18 _ _ _ (by omega)).trans qg1)).symm
    subst e_v19
    refine r_iconst hC dX1_append_138 rfl ?_
    refine r_iaddE hC (((n : Int) + 1)) dX1_append_139 (by omega) (by unfold inR; omega) ?_
    refine z_putIG (jz := 6) hM dX1_append_140 fw_RX1_34 rfl rfl rfl (by simp [Tl, DL, DF]) (by first | trivial | (simp only [Okv]; omega) | (simp [Okv]; try omega)) (fun ρ20 a_ρ20 q_ρ20 => ?_)
    refine y_vret hK rfl dX1_append_143 ?_
    exact k _ ((Gx.gx (Gx.rf) g_ρ18 (by intro c x y h; omega)).al a_ρ20 (by first | (simp; done) | omega | (simp; omega))) (by rw [hk_]; exact pk_4 hFk g_ρ18 e0 e1 e2 e3 e4 a_ρ20 q_ρ20)
  · refine r_tableIn (tgt := 96) (off := 92) hC dX1_append_4 (by omega) (by omega) (by rw [h2]; rfl) rfl ?_
    refine r_aload_n hC dX1_append_96 rfl ?_
    refine r_iload_n hC dX1_append_97 rfl ?_
    refine z_inv1 hM dX1_append_98 vl_RX1_73 rfl rfl rfl (Nat.le_of_ble_eq_true rfl) (Nat.le_of_ble_eq_true rfl) ?_
    have hk_ : o = 5 := h2
    have hFk : FRc σ 5 u n := by have q := hF; rw [hk_] at q; exact q
    obtain ⟨f0, f1, f2, f3⟩ := un_5 hFk
    have hb_ := nst_b u n
    have hm_ := (nst_b u n).2.2.2
    refine x_addNest (by omega) (by omega) f0 (by omega) f1 (by omega) f2 (by omega) f3 (fun ρ21 g_ρ21 e0 e1 e2 e3 => ?_)
    refine r_goto (tgt := 133) hC dX1_append_101 rfl ?_
    refine r_aload_n hC dX1_append_133 rfl ?_
    refine r_dup hC dX1_append_134 rfl ?_
    refine z_getI (jz := 6) hM dX1_append_135 fl_RX1_34 rfl rfl rfl (fun v22 h_v22 o_v22 t_v22 => ?_)
    have e_v22 : (n : Int) = v22 := ((t_v22 ((by simp [Tk, Tb, DL, DF, DX]))).trans ((g_ρ21 _ _ _ (by omega)).trans qg1)).symm
    subst e_v22
    refine r_iconst hC dX1_append_138 rfl ?_
    refine r_iaddE hC (((n : Int) + 1)) dX1_append_139 (by omega) (by unfold inR; omega) ?_
    refine z_putIG (jz := 6) hM dX1_append_140 fw_RX1_34 rfl rfl rfl (by simp [Tl, DL, DF]) (by first | trivial | (simp only [Okv]; omega) | (simp [Okv]; try omega)) (fun ρ23 a_ρ23 q_ρ23 => ?_)
    refine y_vret hK rfl dX1_append_143 ?_
    exact k _ ((Gx.gx (Gx.rf) g_ρ21 (by intro c x y h; omega)).al a_ρ23 (by first | (simp; done) | omega | (simp; omega))) (by rw [hk_]; exact pk_5 hFk g_ρ21 e0 e1 e2 e3 a_ρ23 q_ρ23)
  · refine r_tableIn (tgt := 104) (off := 100) hC dX1_append_4 (by omega) (by omega) (by rw [h2]; rfl) rfl ?_
    refine r_aload_n hC dX1_append_104 rfl ?_
    refine r_iload_n hC dX1_append_105 rfl ?_
    refine z_inv1 hM dX1_append_106 vl_RX1_76 rfl rfl rfl (Nat.le_of_ble_eq_true rfl) (Nat.le_of_ble_eq_true rfl) ?_
    have hk_ : o = 6 := h2
    have hFk : FRc σ 6 u n := by have q := hF; rw [hk_] at q; exact q
    obtain ⟨f0, f1, f2, f3, f4, f5, f6⟩ := un_6 hFk
    have hb_ := lke_b u n
    refine x_addLike (by omega) f0 f1 (by omega) f2 f3 (by omega) f4 f5 f6 (by omega) hF.2.1 (fun ρ24 g_ρ24 e4 e2 e3 e0 e1 e5 e6 => ?_)
    refine r_goto (tgt := 133) hC dX1_append_109 rfl ?_
    refine r_aload_n hC dX1_append_133 rfl ?_
    refine r_dup hC dX1_append_134 rfl ?_
    refine z_getI (jz := 6) hM dX1_append_135 fl_RX1_34 rfl rfl rfl (fun v25 h_v25 o_v25 t_v25 => ?_)
    have e_v25 : (n : Int) = v25 := ((t_v25 ((by simp [Tk, Tb, DL, DF, DX]))).trans ((g_ρ24 _ _ _ (by omega)).trans qg1)).symm
    subst e_v25
    refine r_iconst hC dX1_append_138 rfl ?_
    refine r_iaddE hC (((n : Int) + 1)) dX1_append_139 (by omega) (by unfold inR; omega) ?_
    refine z_putIG (jz := 6) hM dX1_append_140 fw_RX1_34 rfl rfl rfl (by simp [Tl, DL, DF]) (by first | trivial | (simp only [Okv]; omega) | (simp [Okv]; try omega)) (fun ρ26 a_ρ26 q_ρ26 => ?_)
    refine y_vret hK rfl dX1_append_143 ?_
    exact k _ ((Gx.gx (Gx.rf) g_ρ24 (by intro c x y h; omega)).al a_ρ26 (by first | (simp; done) | omega | (simp; omega))) (by rw [hk_]; exact pk_6 hFk g_ρ24 e4 e2 e3 e0 e1 e5 e6 a_ρ26 q_ρ26)
  · refine r_tableIn (tgt := 112) (off := 108) hC dX1_append_4 (by omega) (by omega) (by rw [h2]; rfl) rfl ?_
    refine r_aload_n hC dX1_append_112 rfl ?_
    refine r_iload_n hC dX1_append_113 rfl ?_
    refine z_inv1 hM dX1_append_114 vl_RX1_79 rfl rfl rfl (Nat.le_of_ble_eq_true rfl) (Nat.le_of_ble_eq_true rfl) ?_
    have hk_ : o = 7 := h2
    have hFk : FRc σ 7 u n := by have q := hF; rw [hk_] at q; exact q
    obtain ⟨f0, f1, f2, f3, f4⟩ := un_7 hFk
    have hb_ := stp_b u n
    refine x_addStep (by omega) (by omega) f0 (by omega) f1 f2 f3 (by omega) f4 (by omega) hF.2.1 (by omega) (hFk.2.2.1 rfl) (fun ρ27 g_ρ27 e0 e1 e2 e3 e4 er => ?_)
    refine r_goto (tgt := 133) hC dX1_append_117 rfl ?_
    refine r_aload_n hC dX1_append_133 rfl ?_
    refine r_dup hC dX1_append_134 rfl ?_
    refine z_getI (jz := 6) hM dX1_append_135 fl_RX1_34 rfl rfl rfl (fun v28 h_v28 o_v28 t_v28 => ?_)
    have e_v28 : (n : Int) = v28 := ((t_v28 ((by simp [Tk, Tb, DL, DF, DX]))).trans ((g_ρ27 _ _ _ (by omega)).trans qg1)).symm
    subst e_v28
    refine r_iconst hC dX1_append_138 rfl ?_
    refine r_iaddE hC (((n : Int) + 1)) dX1_append_139 (by omega) (by unfold inR; omega) ?_
    refine z_putIG (jz := 6) hM dX1_append_140 fw_RX1_34 rfl rfl rfl (by simp [Tl, DL, DF]) (by first | trivial | (simp only [Okv]; omega) | (simp [Okv]; try omega)) (fun ρ29 a_ρ29 q_ρ29 => ?_)
    refine y_vret hK rfl dX1_append_143 ?_
    exact k _ ((Gx.gx (Gx.rf) g_ρ27 (by intro c x y h; omega)).al a_ρ29 (by first | (simp; done) | omega | (simp; omega))) (by rw [hk_]; exact pk_7 hFk g_ρ27 e0 e1 e2 e3 e4 er a_ρ29 q_ρ29)
  · refine r_tableIn (tgt := 120) (off := 116) hC dX1_append_4 (by omega) (by omega) (by rw [h2]; rfl) rfl ?_
    refine r_aload_n hC dX1_append_120 rfl ?_
    refine r_iload_n hC dX1_append_121 rfl ?_
    refine z_inv1 hM dX1_append_122 vl_RX1_82 rfl rfl rfl (Nat.le_of_ble_eq_true rfl) (Nat.le_of_ble_eq_true rfl) ?_
    have hk_ : o = 8 := h2
    have hFk : FRc σ 8 u n := by have q := hF; rw [hk_] at q; exact q
    obtain ⟨f0, f1, f2⟩ := un_8 hFk
    have hb_ := spr_b u n
    refine x_addSpread (by omega) f0 f1 (by omega) f2 (fun ρ30 g_ρ30 e0 e1 e2 => ?_)
    refine r_goto (tgt := 133) hC dX1_append_125 rfl ?_
    refine r_aload_n hC dX1_append_133 rfl ?_
    refine r_dup hC dX1_append_134 rfl ?_
    refine z_getI (jz := 6) hM dX1_append_135 fl_RX1_34 rfl rfl rfl (fun v31 h_v31 o_v31 t_v31 => ?_)
    have e_v31 : (n : Int) = v31 := ((t_v31 ((by simp [Tk, Tb, DL, DF, DX]))).trans ((g_ρ30 _ _ _ (by omega)).trans qg1)).symm
    subst e_v31
    refine r_iconst hC dX1_append_138 rfl ?_
    refine r_iaddE hC (((n : Int) + 1)) dX1_append_139 (by omega) (by unfold inR; omega) ?_
    refine z_putIG (jz := 6) hM dX1_append_140 fw_RX1_34 rfl rfl rfl (by simp [Tl, DL, DF]) (by first | trivial | (simp only [Okv]; omega) | (simp [Okv]; try omega)) (fun ρ32 a_ρ32 q_ρ32 => ?_)
    refine y_vret hK rfl dX1_append_143 ?_
    exact k _ ((Gx.gx (Gx.rf) g_ρ30 (by intro c x y h; omega)).al a_ρ32 (by first | (simp; done) | omega | (simp; omega))) (by rw [hk_]; exact pk_8 hFk g_ρ30 e0 e1 e2 a_ρ32 q_ρ32)
theorem x_fill {eb : Bool} {d : Nat} {P : Option Vl → Mm → Prop} {σ : Mm} {v n0 n1 n2 n3 n4 n5 n6 : Int} (qg0 : σ 17 0 0 = n0) (qg1 : σ 17 0 1 = n1) (qg2 : σ 17 0 2 = n2) (qg3 : σ 17 0 3 = n3) (qg4 : σ 17 0 4 = n4) (qg5 : σ 17 0 5 = n5) (qg6 : σ 17 0 6 = n6)  (k : ∀ ρ : Mm, Gx (fun c x y => c = 17 ∧ x = 0) σ ρ → ρ 17 0 0 = v → ρ 17 0 1 = v → ρ 17 0 2 = v → ρ 17 0 3 = v → ρ 17 0 4 = v → ρ 17 0 5 = v → ρ 17 0 6 = v → P none ρ) : WT (true, true, eb) (d + 1) 266 [vR 17 0, vI v] σ P := by
  refine WT_in fun K hK => ?_
  have hK : StpY (true, true, eb) cJ7_fill_53178 RJ7 (none) (WT (true, true, eb) (d + 0)) P K := hK
  have hM := hK.1
  have hC := hK.1.1
  show K 0 [some (vR 17 0), some (vI v), none, none] [] σ
  refine r_rngz hC (fun g0 => ?_)
  have r_v : -2147483648 ≤ v ∧ v ≤ 2147483647 := inR_le (g0 (vI v) (by simp))
  refine r_iconst hC dJ7_fill_53178_0 rfl ?_
  refine r_istore_n hC dJ7_fill_53178_1 rfl ?_
  refine r_aload_n hC dJ7_fill_53178_2 rfl ?_
  refine z_alen (nz := 7) hM dJ7_fill_53178_3 rfl rfl (by decide) ?_
  refine r_istore_n hC dJ7_fill_53178_4 rfl ?_
  refine r_iload_n hC dJ7_fill_53178_5 rfl ?_
  refine r_iload_n hC dJ7_fill_53178_6 rfl ?_
  refine r_icmp_ge (tgt := 20) hC dJ7_fill_53178_7 rfl (fun h1 => by omega) (fun h1 => ?_)
  refine r_aload_n hC dJ7_fill_53178_10 rfl ?_
  refine r_iload_n hC dJ7_fill_53178_11 rfl ?_
  refine r_iload_n hC dJ7_fill_53178_12 rfl ?_
  refine z_iastG hM dJ7_fill_53178_13 rfl (by omega) (by omega) (by simp [Tl, DL, DF]) (by first | trivial | (simp only [Okv]; omega) | (simp [Okv]; try omega)) (fun ρ2 a_ρ2 q_ρ2 => ?_)
  refine r_iincE hC (1) dJ7_fill_53178_14 rfl rfl (by omega) (by unfold inR; omega) ?_
  show K _ [_, _, _, _] _ _
  refine r_goto (tgt := 5) hC dJ7_fill_53178_17 rfl ?_
  refine r_iload_n hC dJ7_fill_53178_5 rfl ?_
  refine r_iload_n hC dJ7_fill_53178_6 rfl ?_
  refine r_icmp_ge (tgt := 20) hC dJ7_fill_53178_7 rfl (fun h3 => by omega) (fun h3 => ?_)
  refine r_aload_n hC dJ7_fill_53178_10 rfl ?_
  refine r_iload_n hC dJ7_fill_53178_11 rfl ?_
  refine r_iload_n hC dJ7_fill_53178_12 rfl ?_
  refine z_iastG hM dJ7_fill_53178_13 rfl (by omega) (by omega) (by simp [Tl, DL, DF]) (by first | trivial | (simp only [Okv]; omega) | (simp [Okv]; try omega)) (fun ρ4 a_ρ4 q_ρ4 => ?_)
  refine r_iincE hC (2) dJ7_fill_53178_14 rfl rfl (by omega) (by unfold inR; omega) ?_
  refine r_goto (tgt := 5) hC dJ7_fill_53178_17 rfl ?_
  refine r_iload_n hC dJ7_fill_53178_5 rfl ?_
  refine r_iload_n hC dJ7_fill_53178_6 rfl ?_
  refine r_icmp_ge (tgt := 20) hC dJ7_fill_53178_7 rfl (fun h5 => by omega) (fun h5 => ?_)
  refine r_aload_n hC dJ7_fill_53178_10 rfl ?_
  refine r_iload_n hC dJ7_fill_53178_11 rfl ?_
  refine r_iload_n hC dJ7_fill_53178_12 rfl ?_
  refine z_iastG hM dJ7_fill_53178_13 rfl (by omega) (by omega) (by simp [Tl, DL, DF]) (by first | trivial | (simp only [Okv]; omega) | (simp [Okv]; try omega)) (fun ρ6 a_ρ6 q_ρ6 => ?_)
  refine r_iincE hC (3) dJ7_fill_53178_14 rfl rfl (by omega) (by unfold inR; omega) ?_
  refine r_goto (tgt := 5) hC dJ7_fill_53178_17 rfl ?_
  refine r_iload_n hC dJ7_fill_53178_5 rfl ?_
  refine r_iload_n hC dJ7_fill_53178_6 rfl ?_
  refine r_icmp_ge (tgt := 20) hC dJ7_fill_53178_7 rfl (fun h7 => by omega) (fun h7 => ?_)
  refine r_aload_n hC dJ7_fill_53178_10 rfl ?_
  refine r_iload_n hC dJ7_fill_53178_11 rfl ?_
  refine r_iload_n hC dJ7_fill_53178_12 rfl ?_
  refine z_iastG hM dJ7_fill_53178_13 rfl (by omega) (by omega) (by simp [Tl, DL, DF]) (by first | trivial | (simp only [Okv]; omega) | (simp [Okv]; try omega)) (fun ρ8 a_ρ8 q_ρ8 => ?_)
  refine r_iincE hC (4) dJ7_fill_53178_14 rfl rfl (by omega) (by unfold inR; omega) ?_
  show K _ [_, _, _, _] _ _
  refine r_goto (tgt := 5) hC dJ7_fill_53178_17 rfl ?_
  refine r_iload_n hC dJ7_fill_53178_5 rfl ?_
  refine r_iload_n hC dJ7_fill_53178_6 rfl ?_
  refine r_icmp_ge (tgt := 20) hC dJ7_fill_53178_7 rfl (fun h9 => by omega) (fun h9 => ?_)
  refine r_aload_n hC dJ7_fill_53178_10 rfl ?_
  refine r_iload_n hC dJ7_fill_53178_11 rfl ?_
  refine r_iload_n hC dJ7_fill_53178_12 rfl ?_
  refine z_iastG hM dJ7_fill_53178_13 rfl (by omega) (by omega) (by simp [Tl, DL, DF]) (by first | trivial | (simp only [Okv]; omega) | (simp [Okv]; try omega)) (fun ρ10 a_ρ10 q_ρ10 => ?_)
  refine r_iincE hC (5) dJ7_fill_53178_14 rfl rfl (by omega) (by unfold inR; omega) ?_
  refine r_goto (tgt := 5) hC dJ7_fill_53178_17 rfl ?_
  refine r_iload_n hC dJ7_fill_53178_5 rfl ?_
  refine r_iload_n hC dJ7_fill_53178_6 rfl ?_
  refine r_icmp_ge (tgt := 20) hC dJ7_fill_53178_7 rfl (fun h11 => by omega) (fun h11 => ?_)
  refine r_aload_n hC dJ7_fill_53178_10 rfl ?_
  refine r_iload_n hC dJ7_fill_53178_11 rfl ?_
  refine r_iload_n hC dJ7_fill_53178_12 rfl ?_
  refine z_iastG hM dJ7_fill_53178_13 rfl (by omega) (by omega) (by simp [Tl, DL, DF]) (by first | trivial | (simp only [Okv]; omega) | (simp [Okv]; try omega)) (fun ρ12 a_ρ12 q_ρ12 => ?_)
  refine r_iincE hC (6) dJ7_fill_53178_14 rfl rfl (by omega) (by unfold inR; omega) ?_
  refine r_goto (tgt := 5) hC dJ7_fill_53178_17 rfl ?_
  refine r_iload_n hC dJ7_fill_53178_5 rfl ?_
  refine r_iload_n hC dJ7_fill_53178_6 rfl ?_
  refine r_icmp_ge (tgt := 20) hC dJ7_fill_53178_7 rfl (fun h13 => by omega) (fun h13 => ?_)
  refine r_aload_n hC dJ7_fill_53178_10 rfl ?_
  refine r_iload_n hC dJ7_fill_53178_11 rfl ?_
  refine r_iload_n hC dJ7_fill_53178_12 rfl ?_
  refine z_iastG hM dJ7_fill_53178_13 rfl (by omega) (by omega) (by simp [Tl, DL, DF]) (by first | trivial | (simp only [Okv]; omega) | (simp [Okv]; try omega)) (fun ρ14 a_ρ14 q_ρ14 => ?_)
  refine r_iincE hC (7) dJ7_fill_53178_14 rfl rfl (by omega) (by unfold inR; omega) ?_
  show K _ [_, _, _, _] _ _
  refine r_goto (tgt := 5) hC dJ7_fill_53178_17 rfl ?_
  refine r_iload_n hC dJ7_fill_53178_5 rfl ?_
  refine r_iload_n hC dJ7_fill_53178_6 rfl ?_
  refine r_icmp_ge (tgt := 20) hC dJ7_fill_53178_7 rfl (fun h15 => ?_) (fun h15 => by omega)
  refine y_vret hK rfl dJ7_fill_53178_20 ?_
  exact k _ ((((((((Gx.rf).al a_ρ2 (by first | (simp; done) | omega | (simp; omega))).al a_ρ4 (by first | (simp; done) | omega | (simp; omega))).al a_ρ6 (by first | (simp; done) | omega | (simp; omega))).al a_ρ8 (by first | (simp; done) | omega | (simp; omega))).al a_ρ10 (by first | (simp; done) | omega | (simp; omega))).al a_ρ12 (by first | (simp; done) | omega | (simp; omega))).al a_ρ14 (by first | (simp; done) | omega | (simp; omega))) (by have hq := ((a_ρ14 _ _ _ (by first | exact xs_ (by decide) | exact xc_ (by decide) | omega)).trans ((a_ρ12 _ _ _ (by first | exact xs_ (by decide) | exact xc_ (by decide) | omega)).trans ((a_ρ10 _ _ _ (by first | exact xs_ (by decide) | exact xc_ (by decide) | omega)).trans ((a_ρ8 _ _ _ (by first | exact xs_ (by decide) | exact xc_ (by decide) | omega)).trans ((a_ρ6 _ _ _ (by first | exact xs_ (by decide) | exact xc_ (by decide) | omega)).trans ((a_ρ4 _ _ _ (by first | exact xs_ (by decide) | exact xc_ (by decide) | omega)).trans q_ρ2)))))); omega) (by have hq := ((a_ρ14 _ _ _ (by first | exact xs_ (by decide) | exact xc_ (by decide) | omega)).trans ((a_ρ12 _ _ _ (by first | exact xs_ (by decide) | exact xc_ (by decide) | omega)).trans ((a_ρ10 _ _ _ (by first | exact xs_ (by decide) | exact xc_ (by decide) | omega)).trans ((a_ρ8 _ _ _ (by first | exact xs_ (by decide) | exact xc_ (by decide) | omega)).trans ((a_ρ6 _ _ _ (by first | exact xs_ (by decide) | exact xc_ (by decide) | omega)).trans q_ρ4))))); omega) (by have hq := ((a_ρ14 _ _ _ (by first | exact xs_ (by decide) | exact xc_ (by decide) | omega)).trans ((a_ρ12 _ _ _ (by first | exact xs_ (by decide) | exact xc_ (by decide) | omega)).trans ((a_ρ10 _ _ _ (by first | exact xs_ (by decide) | exact xc_ (by decide) | omega)).trans ((a_ρ8 _ _ _ (by first | exact xs_ (by decide) | exact xc_ (by decide) | omega)).trans q_ρ6)))); omega) (by have hq := ((a_ρ14 _ _ _ (by first | exact xs_ (by decide) | exact xc_ (by decide) | omega)).trans ((a_ρ12 _ _ _ (by first | exact xs_ (by decide) | exact xc_ (by decide) | omega)).trans ((a_ρ10 _ _ _ (by first | exact xs_ (by decide) | exact xc_ (by decide) | omega)).trans q_ρ8))); omega) (by have hq := ((a_ρ14 _ _ _ (by first | exact xs_ (by decide) | exact xc_ (by decide) | omega)).trans ((a_ρ12 _ _ _ (by first | exact xs_ (by decide) | exact xc_ (by decide) | omega)).trans q_ρ10)); omega) (by have hq := ((a_ρ14 _ _ _ (by first | exact xs_ (by decide) | exact xc_ (by decide) | omega)).trans q_ρ12); omega) (by have hq := q_ρ14; omega)
theorem x_begin {eb : Bool} {d : Nat} {P : Option Vl → Mm → Prop} {σ : Mm} {o o0 c0 r0 n0 n1 n2 n3 n4 n5 n6 : Int} (b_o : 0 ≤ o ∧ o ≤ 9) (qg0 : σ 14 0 5 = o0) (qg1 : σ 14 0 6 = c0) (qg2 : σ 14 0 7 = r0) (qg3 : σ 17 0 0 = n0) (qg4 : σ 17 0 1 = n1) (qg5 : σ 17 0 2 = n2) (qg6 : σ 17 0 3 = n3) (qg7 : σ 17 0 4 = n4) (qg8 : σ 17 0 5 = n5) (qg9 : σ 17 0 6 = n6)  (k : ∀ ρ : Mm, Gx (fun c x y => c = 17 ∧ x = 0 ∨ c = 14 ∧ x = 0 ∧ (y = 5 ∨ y = 6 ∨ y = 7)) σ ρ → (∀ u : Int → Int, FRc ρ o u 0) → P none ρ) : WT (true, true, eb) (d + 2) 9 [vR 14 0, vI o] σ P := by
  refine WT_in fun K hK => ?_
  have hK : StpY (true, true, eb) cX1_begin RX1 (none) (WT (true, true, eb) (d + 1)) P K := hK
  have hM := hK.1
  have hC := hK.1.1
  show K 0 [some (vR 14 0), some (vI o), none] [] σ
  refine r_aload_n hC dX1_begin_0 rfl ?_
  refine r_iload_n hC dX1_begin_1 rfl ?_
  refine z_putIG (jz := 5) hM dX1_begin_2 fw_RX1_30 rfl rfl rfl (by simp [Tl, DL, DF]) (by first | trivial | (simp only [Okv]; omega) | (simp [Okv]; try omega)) (fun ρ1 a_ρ1 q_ρ1 => ?_)
  refine r_aload_n hC dX1_begin_5 rfl ?_
  refine r_iconst hC dX1_begin_6 rfl ?_
  refine z_putIG (jz := 6) hM dX1_begin_7 fw_RX1_34 rfl rfl rfl (by simp [Tl, DL, DF]) (by first | trivial | (simp only [Okv]; omega) | (simp [Okv]; try omega)) (fun ρ2 a_ρ2 q_ρ2 => ?_)
  refine r_aload_n hC dX1_begin_10 rfl ?_
  refine r_iconst hC dX1_begin_11 rfl ?_
  refine z_putIG (jz := 7) hM dX1_begin_12 fw_RX1_37 rfl rfl rfl (by simp [Tl, DL, DF]) (by first | trivial | (simp only [Okv]; omega) | (simp [Okv]; try omega)) (fun ρ3 a_ρ3 q_ρ3 => ?_)
  refine r_aload_n hC dX1_begin_15 rfl ?_
  refine z_getR hM dX1_begin_16 fl_RX1_24 rfl rfl (vld_of (n := 1) rfl (by omega) (by omega)) ?_
  refine r_iconst hC dX1_begin_19 rfl ?_
  refine z_ins2 hM dX1_begin_20 tl_RX1_18 rfl (Nat.le_of_ble_eq_true rfl) (Nat.le_of_ble_eq_true rfl) ?_
  refine x_fill (by have hq := ((a_ρ3 _ _ _ (by first | exact xs_ (by decide) | exact xc_ (by decide) | omega)).trans ((a_ρ2 _ _ _ (by first | exact xs_ (by decide) | exact xc_ (by decide) | omega)).trans ((a_ρ1 _ _ _ (by first | exact xs_ (by decide) | exact xc_ (by decide) | omega)).trans qg3))); exact hq) (by have hq := ((a_ρ3 _ _ _ (by first | exact xs_ (by decide) | exact xc_ (by decide) | omega)).trans ((a_ρ2 _ _ _ (by first | exact xs_ (by decide) | exact xc_ (by decide) | omega)).trans ((a_ρ1 _ _ _ (by first | exact xs_ (by decide) | exact xc_ (by decide) | omega)).trans qg4))); exact hq) (by have hq := ((a_ρ3 _ _ _ (by first | exact xs_ (by decide) | exact xc_ (by decide) | omega)).trans ((a_ρ2 _ _ _ (by first | exact xs_ (by decide) | exact xc_ (by decide) | omega)).trans ((a_ρ1 _ _ _ (by first | exact xs_ (by decide) | exact xc_ (by decide) | omega)).trans qg5))); exact hq) (by have hq := ((a_ρ3 _ _ _ (by first | exact xs_ (by decide) | exact xc_ (by decide) | omega)).trans ((a_ρ2 _ _ _ (by first | exact xs_ (by decide) | exact xc_ (by decide) | omega)).trans ((a_ρ1 _ _ _ (by first | exact xs_ (by decide) | exact xc_ (by decide) | omega)).trans qg6))); exact hq) (by have hq := ((a_ρ3 _ _ _ (by first | exact xs_ (by decide) | exact xc_ (by decide) | omega)).trans ((a_ρ2 _ _ _ (by first | exact xs_ (by decide) | exact xc_ (by decide) | omega)).trans ((a_ρ1 _ _ _ (by first | exact xs_ (by decide) | exact xc_ (by decide) | omega)).trans qg7))); exact hq) (by have hq := ((a_ρ3 _ _ _ (by first | exact xs_ (by decide) | exact xc_ (by decide) | omega)).trans ((a_ρ2 _ _ _ (by first | exact xs_ (by decide) | exact xc_ (by decide) | omega)).trans ((a_ρ1 _ _ _ (by first | exact xs_ (by decide) | exact xc_ (by decide) | omega)).trans qg8))); exact hq) (by have hq := ((a_ρ3 _ _ _ (by first | exact xs_ (by decide) | exact xc_ (by decide) | omega)).trans ((a_ρ2 _ _ _ (by first | exact xs_ (by decide) | exact xc_ (by decide) | omega)).trans ((a_ρ1 _ _ _ (by first | exact xs_ (by decide) | exact xc_ (by decide) | omega)).trans qg9))); exact hq) (fun ρ4 g_ρ4 z0_ρ4 z1_ρ4 z2_ρ4 z3_ρ4 z4_ρ4 z5_ρ4 z6_ρ4 => ?_)
  refine r_iload_n hC dX1_begin_23 rfl ?_
  refine r_iconst hC dX1_begin_24 rfl ?_
  refine r_icmp_ne (tgt := 38) hC dX1_begin_25 rfl (fun h5 => ?_) (fun h5 => ?_)
  · refine r_iload_n hC dX1_begin_38 rfl ?_
    refine r_iconst hC dX1_begin_39 rfl ?_
    refine r_icmp_ne (tgt := 66) hC dX1_begin_40 rfl (fun h6 => ?_) (fun h6 => ?_)
    · refine r_iload_n hC dX1_begin_66 rfl ?_
      refine r_bipush hC dX1_begin_67 rfl ?_
      refine r_icmp_ne (tgt := 88) hC dX1_begin_69 rfl (fun h7 => ?_) (fun h7 => ?_)
      · refine y_vret hK rfl dX1_begin_88 ?_
        have w5 := ((g_ρ4 _ _ _ (by omega)).trans ((a_ρ3 _ _ _ (by first | exact xs_ (by decide) | exact xc_ (by decide) | omega)).trans ((a_ρ2 _ _ _ (by first | exact xs_ (by decide) | exact xc_ (by decide) | omega)).trans q_ρ1)))
        have w6 := ((g_ρ4 _ _ _ (by omega)).trans ((a_ρ3 _ _ _ (by first | exact xs_ (by decide) | exact xc_ (by decide) | omega)).trans q_ρ2))
        have w7 := ((g_ρ4 _ _ _ (by omega)).trans q_ρ3)
        have v0 := z0_ρ4
        have v1 := z1_ρ4
        have v2 := z2_ρ4
        have v3 := z3_ρ4
        have v4 := z4_ρ4
        have v5 := z5_ρ4
        have v6 := z6_ρ4
        exact k _ (Gx.gx ((((Gx.rf).al a_ρ1 (by first | (simp; done) | omega | (simp; omega))).al a_ρ2 (by first | (simp; done) | omega | (simp; omega))).al a_ρ3 (by first | (simp; done) | omega | (simp; omega))) g_ρ4 (by intro c x y h; omega)) (fun u => fr_zero b_o w5 w6 w7 (by (repeat' split) <;> omega) (by (repeat' split) <;> omega) (by (repeat' split) <;> omega) (by (repeat' split) <;> omega) ⟨by omega, by omega, by omega⟩)
      · refine r_aload_n hC dX1_begin_72 rfl ?_
        refine z_getR hM dX1_begin_73 fl_RX1_24 rfl rfl (vld_of (n := 1) rfl (by omega) (by omega)) ?_
        refine r_iconst hC dX1_begin_76 rfl ?_
        refine r_ldc hC dX1_begin_77 co_RX1_40 rfl ?_
        refine z_iastG hM dX1_begin_79 rfl (by omega) (by omega) (by simp [Tl, DL, DF]) (by first | trivial | (simp only [Okv]; omega) | (simp [Okv]; try omega)) (fun ρ8 a_ρ8 q_ρ8 => ?_)
        refine r_aload_n hC dX1_begin_80 rfl ?_
        refine z_getR hM dX1_begin_81 fl_RX1_24 rfl rfl (vld_of (n := 1) rfl (by omega) (by omega)) ?_
        refine r_iconst hC dX1_begin_84 rfl ?_
        refine r_ldc hC dX1_begin_85 co_RX1_40 rfl ?_
        refine z_iastG hM dX1_begin_87 rfl (by omega) (by omega) (by simp [Tl, DL, DF]) (by first | trivial | (simp only [Okv]; omega) | (simp [Okv]; try omega)) (fun ρ9 a_ρ9 q_ρ9 => ?_)
        refine y_vret hK rfl dX1_begin_88 ?_
        have w5 := ((a_ρ9 _ _ _ (by first | exact xs_ (by decide) | exact xc_ (by decide) | omega)).trans ((a_ρ8 _ _ _ (by first | exact xs_ (by decide) | exact xc_ (by decide) | omega)).trans ((g_ρ4 _ _ _ (by omega)).trans ((a_ρ3 _ _ _ (by first | exact xs_ (by decide) | exact xc_ (by decide) | omega)).trans ((a_ρ2 _ _ _ (by first | exact xs_ (by decide) | exact xc_ (by decide) | omega)).trans q_ρ1)))))
        have w6 := ((a_ρ9 _ _ _ (by first | exact xs_ (by decide) | exact xc_ (by decide) | omega)).trans ((a_ρ8 _ _ _ (by first | exact xs_ (by decide) | exact xc_ (by decide) | omega)).trans ((g_ρ4 _ _ _ (by omega)).trans ((a_ρ3 _ _ _ (by first | exact xs_ (by decide) | exact xc_ (by decide) | omega)).trans q_ρ2))))
        have w7 := ((a_ρ9 _ _ _ (by first | exact xs_ (by decide) | exact xc_ (by decide) | omega)).trans ((a_ρ8 _ _ _ (by first | exact xs_ (by decide) | exact xc_ (by decide) | omega)).trans ((g_ρ4 _ _ _ (by omega)).trans q_ρ3)))
        have v0 := ((a_ρ9 _ _ _ (by first | exact xs_ (by decide) | exact xc_ (by decide) | omega)).trans q_ρ8)
        have v1 := q_ρ9
        have v2 := ((a_ρ9 _ _ _ (by first | exact xs_ (by decide) | exact xc_ (by decide) | omega)).trans ((a_ρ8 _ _ _ (by first | exact xs_ (by decide) | exact xc_ (by decide) | omega)).trans z2_ρ4))
        have v3 := ((a_ρ9 _ _ _ (by first | exact xs_ (by decide) | exact xc_ (by decide) | omega)).trans ((a_ρ8 _ _ _ (by first | exact xs_ (by decide) | exact xc_ (by decide) | omega)).trans z3_ρ4))
        have v4 := ((a_ρ9 _ _ _ (by first | exact xs_ (by decide) | exact xc_ (by decide) | omega)).trans ((a_ρ8 _ _ _ (by first | exact xs_ (by decide) | exact xc_ (by decide) | omega)).trans z4_ρ4))
        have v5 := ((a_ρ9 _ _ _ (by first | exact xs_ (by decide) | exact xc_ (by decide) | omega)).trans ((a_ρ8 _ _ _ (by first | exact xs_ (by decide) | exact xc_ (by decide) | omega)).trans z5_ρ4))
        have v6 := ((a_ρ9 _ _ _ (by first | exact xs_ (by decide) | exact xc_ (by decide) | omega)).trans ((a_ρ8 _ _ _ (by first | exact xs_ (by decide) | exact xc_ (by decide) | omega)).trans z6_ρ4))
        exact k _ (((Gx.gx ((((Gx.rf).al a_ρ1 (by first | (simp; done) | omega | (simp; omega))).al a_ρ2 (by first | (simp; done) | omega | (simp; omega))).al a_ρ3 (by first | (simp; done) | omega | (simp; omega))) g_ρ4 (by intro c x y h; omega)).al a_ρ8 (by first | (simp; done) | omega | (simp; omega))).al a_ρ9 (by first | (simp; done) | omega | (simp; omega))) (fun u => fr_zero b_o w5 w6 w7 (by (repeat' split) <;> omega) (by (repeat' split) <;> omega) (by (repeat' split) <;> omega) (by (repeat' split) <;> omega) ⟨by omega, by omega, by omega⟩)
    · refine r_iconst hC dX1_begin_43 rfl ?_
      refine r_istore_n hC dX1_begin_44 rfl ?_
      refine r_iload_n hC dX1_begin_45 rfl ?_
      refine r_iconst hC dX1_begin_46 rfl ?_
      refine r_icmp_ge (tgt := 63) hC dX1_begin_47 rfl (fun h10 => by omega) (fun h10 => ?_)
      refine r_aload_n hC dX1_begin_50 rfl ?_
      refine z_getR hM dX1_begin_51 fl_RX1_24 rfl rfl (vld_of (n := 1) rfl (by omega) (by omega)) ?_
      refine r_iload_n hC dX1_begin_54 rfl ?_
      refine r_iload_n hC dX1_begin_55 rfl ?_
      refine z_iastG hM dX1_begin_56 rfl (by omega) (by omega) (by simp [Tl, DL, DF]) (by first | trivial | (simp only [Okv]; omega) | (simp [Okv]; try omega)) (fun ρ11 a_ρ11 q_ρ11 => ?_)
      refine r_iincE hC (1) dX1_begin_57 rfl rfl (by omega) (by unfold inR; omega) ?_
      refine r_goto (tgt := 45) hC dX1_begin_60 rfl ?_
      refine r_iload_n hC dX1_begin_45 rfl ?_
      refine r_iconst hC dX1_begin_46 rfl ?_
      refine r_icmp_ge (tgt := 63) hC dX1_begin_47 rfl (fun h12 => by omega) (fun h12 => ?_)
      refine r_aload_n hC dX1_begin_50 rfl ?_
      refine z_getR hM dX1_begin_51 fl_RX1_24 rfl rfl (vld_of (n := 1) rfl (by omega) (by omega)) ?_
      refine r_iload_n hC dX1_begin_54 rfl ?_
      refine r_iload_n hC dX1_begin_55 rfl ?_
      refine z_iastG hM dX1_begin_56 rfl (by omega) (by omega) (by simp [Tl, DL, DF]) (by first | trivial | (simp only [Okv]; omega) | (simp [Okv]; try omega)) (fun ρ13 a_ρ13 q_ρ13 => ?_)
      refine r_iincE hC (2) dX1_begin_57 rfl rfl (by omega) (by unfold inR; omega) ?_
      show K _ [_, _, _] _ _
      refine r_goto (tgt := 45) hC dX1_begin_60 rfl ?_
      refine r_iload_n hC dX1_begin_45 rfl ?_
      refine r_iconst hC dX1_begin_46 rfl ?_
      refine r_icmp_ge (tgt := 63) hC dX1_begin_47 rfl (fun h14 => by omega) (fun h14 => ?_)
      refine r_aload_n hC dX1_begin_50 rfl ?_
      refine z_getR hM dX1_begin_51 fl_RX1_24 rfl rfl (vld_of (n := 1) rfl (by omega) (by omega)) ?_
      refine r_iload_n hC dX1_begin_54 rfl ?_
      refine r_iload_n hC dX1_begin_55 rfl ?_
      refine z_iastG hM dX1_begin_56 rfl (by omega) (by omega) (by simp [Tl, DL, DF]) (by first | trivial | (simp only [Okv]; omega) | (simp [Okv]; try omega)) (fun ρ15 a_ρ15 q_ρ15 => ?_)
      refine r_iincE hC (3) dX1_begin_57 rfl rfl (by omega) (by unfold inR; omega) ?_
      refine r_goto (tgt := 45) hC dX1_begin_60 rfl ?_
      refine r_iload_n hC dX1_begin_45 rfl ?_
      refine r_iconst hC dX1_begin_46 rfl ?_
      refine r_icmp_ge (tgt := 63) hC dX1_begin_47 rfl (fun h16 => by omega) (fun h16 => ?_)
      refine r_aload_n hC dX1_begin_50 rfl ?_
      refine z_getR hM dX1_begin_51 fl_RX1_24 rfl rfl (vld_of (n := 1) rfl (by omega) (by omega)) ?_
      refine r_iload_n hC dX1_begin_54 rfl ?_
      refine r_iload_n hC dX1_begin_55 rfl ?_
      refine z_iastG hM dX1_begin_56 rfl (by omega) (by omega) (by simp [Tl, DL, DF]) (by first | trivial | (simp only [Okv]; omega) | (simp [Okv]; try omega)) (fun ρ17 a_ρ17 q_ρ17 => ?_)
      refine r_iincE hC (4) dX1_begin_57 rfl rfl (by omega) (by unfold inR; omega) ?_
      refine r_goto (tgt := 45) hC dX1_begin_60 rfl ?_
      refine r_iload_n hC dX1_begin_45 rfl ?_
      refine r_iconst hC dX1_begin_46 rfl ?_
      refine r_icmp_ge (tgt := 63) hC dX1_begin_47 rfl (fun h18 => ?_) (fun h18 => by omega)
      refine r_goto (tgt := 88) hC dX1_begin_63 rfl ?_
      refine y_vret hK rfl dX1_begin_88 ?_
      have w5 := ((a_ρ17 _ _ _ (by first | exact xs_ (by decide) | exact xc_ (by decide) | omega)).trans ((a_ρ15 _ _ _ (by first | exact xs_ (by decide) | exact xc_ (by decide) | omega)).trans ((a_ρ13 _ _ _ (by first | exact xs_ (by decide) | exact xc_ (by decide) | omega)).trans ((a_ρ11 _ _ _ (by first | exact xs_ (by decide) | exact xc_ (by decide) | omega)).trans ((g_ρ4 _ _ _ (by omega)).trans ((a_ρ3 _ _ _ (by first | exact xs_ (by decide) | exact xc_ (by decide) | omega)).trans ((a_ρ2 _ _ _ (by first | exact xs_ (by decide) | exact xc_ (by decide) | omega)).trans q_ρ1)))))))
      have w6 := ((a_ρ17 _ _ _ (by first | exact xs_ (by decide) | exact xc_ (by decide) | omega)).trans ((a_ρ15 _ _ _ (by first | exact xs_ (by decide) | exact xc_ (by decide) | omega)).trans ((a_ρ13 _ _ _ (by first | exact xs_ (by decide) | exact xc_ (by decide) | omega)).trans ((a_ρ11 _ _ _ (by first | exact xs_ (by decide) | exact xc_ (by decide) | omega)).trans ((g_ρ4 _ _ _ (by omega)).trans ((a_ρ3 _ _ _ (by first | exact xs_ (by decide) | exact xc_ (by decide) | omega)).trans q_ρ2))))))
      have w7 := ((a_ρ17 _ _ _ (by first | exact xs_ (by decide) | exact xc_ (by decide) | omega)).trans ((a_ρ15 _ _ _ (by first | exact xs_ (by decide) | exact xc_ (by decide) | omega)).trans ((a_ρ13 _ _ _ (by first | exact xs_ (by decide) | exact xc_ (by decide) | omega)).trans ((a_ρ11 _ _ _ (by first | exact xs_ (by decide) | exact xc_ (by decide) | omega)).trans ((g_ρ4 _ _ _ (by omega)).trans q_ρ3)))))
      have v0 := ((a_ρ17 _ _ _ (by first | exact xs_ (by decide) | exact xc_ (by decide) | omega)).trans ((a_ρ15 _ _ _ (by first | exact xs_ (by decide) | exact xc_ (by decide) | omega)).trans ((a_ρ13 _ _ _ (by first | exact xs_ (by decide) | exact xc_ (by decide) | omega)).trans q_ρ11)))
      have v1 := ((a_ρ17 _ _ _ (by first | exact xs_ (by decide) | exact xc_ (by decide) | omega)).trans ((a_ρ15 _ _ _ (by first | exact xs_ (by decide) | exact xc_ (by decide) | omega)).trans q_ρ13))
      have v2 := ((a_ρ17 _ _ _ (by first | exact xs_ (by decide) | exact xc_ (by decide) | omega)).trans q_ρ15)
      have v3 := q_ρ17
      have v4 := ((a_ρ17 _ _ _ (by first | exact xs_ (by decide) | exact xc_ (by decide) | omega)).trans ((a_ρ15 _ _ _ (by first | exact xs_ (by decide) | exact xc_ (by decide) | omega)).trans ((a_ρ13 _ _ _ (by first | exact xs_ (by decide) | exact xc_ (by decide) | omega)).trans ((a_ρ11 _ _ _ (by first | exact xs_ (by decide) | exact xc_ (by decide) | omega)).trans z4_ρ4))))
      have v5 := ((a_ρ17 _ _ _ (by first | exact xs_ (by decide) | exact xc_ (by decide) | omega)).trans ((a_ρ15 _ _ _ (by first | exact xs_ (by decide) | exact xc_ (by decide) | omega)).trans ((a_ρ13 _ _ _ (by first | exact xs_ (by decide) | exact xc_ (by decide) | omega)).trans ((a_ρ11 _ _ _ (by first | exact xs_ (by decide) | exact xc_ (by decide) | omega)).trans z5_ρ4))))
      have v6 := ((a_ρ17 _ _ _ (by first | exact xs_ (by decide) | exact xc_ (by decide) | omega)).trans ((a_ρ15 _ _ _ (by first | exact xs_ (by decide) | exact xc_ (by decide) | omega)).trans ((a_ρ13 _ _ _ (by first | exact xs_ (by decide) | exact xc_ (by decide) | omega)).trans ((a_ρ11 _ _ _ (by first | exact xs_ (by decide) | exact xc_ (by decide) | omega)).trans z6_ρ4))))
      exact k _ (((((Gx.gx ((((Gx.rf).al a_ρ1 (by first | (simp; done) | omega | (simp; omega))).al a_ρ2 (by first | (simp; done) | omega | (simp; omega))).al a_ρ3 (by first | (simp; done) | omega | (simp; omega))) g_ρ4 (by intro c x y h; omega)).al a_ρ11 (by first | (simp; done) | omega | (simp; omega))).al a_ρ13 (by first | (simp; done) | omega | (simp; omega))).al a_ρ15 (by first | (simp; done) | omega | (simp; omega))).al a_ρ17 (by first | (simp; done) | omega | (simp; omega))) (fun u => fr_zero b_o w5 w6 w7 (by (repeat' split) <;> omega) (by (repeat' split) <;> omega) (by (repeat' split) <;> omega) (by (repeat' split) <;> omega) ⟨by omega, by omega, by omega⟩)
  · refine r_aload_n hC dX1_begin_28 rfl ?_
    refine z_getR hM dX1_begin_29 fl_RX1_24 rfl rfl (vld_of (n := 1) rfl (by omega) (by omega)) ?_
    refine r_iconst hC dX1_begin_32 rfl ?_
    refine r_iconst hC dX1_begin_33 rfl ?_
    refine z_iastG hM dX1_begin_34 rfl (by omega) (by omega) (by simp [Tl, DL, DF]) (by first | trivial | (simp only [Okv]; omega) | (simp [Okv]; try omega)) (fun ρ19 a_ρ19 q_ρ19 => ?_)
    refine r_goto (tgt := 88) hC dX1_begin_35 rfl ?_
    refine y_vret hK rfl dX1_begin_88 ?_
    have w5 := ((a_ρ19 _ _ _ (by first | exact xs_ (by decide) | exact xc_ (by decide) | omega)).trans ((g_ρ4 _ _ _ (by omega)).trans ((a_ρ3 _ _ _ (by first | exact xs_ (by decide) | exact xc_ (by decide) | omega)).trans ((a_ρ2 _ _ _ (by first | exact xs_ (by decide) | exact xc_ (by decide) | omega)).trans q_ρ1))))
    have w6 := ((a_ρ19 _ _ _ (by first | exact xs_ (by decide) | exact xc_ (by decide) | omega)).trans ((g_ρ4 _ _ _ (by omega)).trans ((a_ρ3 _ _ _ (by first | exact xs_ (by decide) | exact xc_ (by decide) | omega)).trans q_ρ2)))
    have w7 := ((a_ρ19 _ _ _ (by first | exact xs_ (by decide) | exact xc_ (by decide) | omega)).trans ((g_ρ4 _ _ _ (by omega)).trans q_ρ3))
    have v0 := q_ρ19
    have v1 := ((a_ρ19 _ _ _ (by first | exact xs_ (by decide) | exact xc_ (by decide) | omega)).trans z1_ρ4)
    have v2 := ((a_ρ19 _ _ _ (by first | exact xs_ (by decide) | exact xc_ (by decide) | omega)).trans z2_ρ4)
    have v3 := ((a_ρ19 _ _ _ (by first | exact xs_ (by decide) | exact xc_ (by decide) | omega)).trans z3_ρ4)
    have v4 := ((a_ρ19 _ _ _ (by first | exact xs_ (by decide) | exact xc_ (by decide) | omega)).trans z4_ρ4)
    have v5 := ((a_ρ19 _ _ _ (by first | exact xs_ (by decide) | exact xc_ (by decide) | omega)).trans z5_ρ4)
    have v6 := ((a_ρ19 _ _ _ (by first | exact xs_ (by decide) | exact xc_ (by decide) | omega)).trans z6_ρ4)
    exact k _ ((Gx.gx ((((Gx.rf).al a_ρ1 (by first | (simp; done) | omega | (simp; omega))).al a_ρ2 (by first | (simp; done) | omega | (simp; omega))).al a_ρ3 (by first | (simp; done) | omega | (simp; omega))) g_ρ4 (by intro c x y h; omega)).al a_ρ19 (by first | (simp; done) | omega | (simp; omega))) (fun u => fr_zero b_o w5 w6 w7 (by (repeat' split) <;> omega) (by (repeat' split) <;> omega) (by (repeat' split) <;> omega) (by (repeat' split) <;> omega) ⟨by omega, by omega, by omega⟩)
-- B: a part of a lane, told whole
theorem at_nat {f : Nat → Int} {a i : Int} {n : Nat} (h : a = f i.toNat) (hi : i = (n : Int)) : a = f n := by
  subst hi
  rw [Int.toNat_natCast] at h
  exact h
theorem FRc.ext {ρ ρ2 : Mm} {o : Int} {u : Int → Int} {n : Nat} (h : FRc ρ o u n) (h14 : ∀ j : Int, j = 5 ∨ j = 6 ∨ j = 7 → ρ2 14 0 j = ρ 14 0 j) (h17 : ∀ j : Int, ρ2 17 0 j = ρ 17 0 j) (h16 : ρ2 16 0 = ρ 16 0) (h15 : ρ2 15 0 = ρ 15 0) : FRc ρ2 o u n := ⟨(h14 5 (by omega)).trans h.1, (h14 6 (by omega)).trans h.2.1, fun q => (h14 7 (by omega)).trans (h.2.2.1 q), fun k h0 h1 => by rw [h17, h16, h15]; exact h.2.2.2 k h0 h1⟩
theorem x_append2 {eb : Bool} {u : Int → Int} {n : Nat} {d : Nat} {P : Option Vl → Mm → Prop} {σ : Mm} {o v : Int} (hv : v = u n) (b_v : -1000 ≤ v ∧ v ≤ 1000) (b_o : 0 ≤ o ∧ o ≤ 9) (hn : n ≤ 242) (hb : Bd u n) (hF : FRc σ o u n) (hcl : ∀ j : Int, 0 ≤ j → j < 16 → 0 ≤ σ 15 0 j ∧ σ 15 0 j ≤ 3) (k : ∀ ρ : Mm, Gx (fun c x y => c = 17 ∧ x = 0 ∨ c = 14 ∧ x = 0 ∧ (y = 6 ∨ y = 7)) σ ρ → FRc ρ o u (n + 1) → P none ρ) : WT (true, true, eb) (d + 3) 14 [vR 14 0, vI v] σ P := by
  subst hv
  exact x_append b_v b_o hF.1 hF.2.1 hn hb hF hcl k
theorem tk17 {e : Ev} (h : e.2.1 = true) (h2 : e.1 = true) {j : Int} : Tk e 17 j := by
  by_cases hj : j = 0
  · exact Or.inr (Or.inr (Or.inl ⟨h, Or.inl hj⟩))
  · exact Or.inr (Or.inr (Or.inl ⟨h, Or.inr ⟨h2, hj⟩⟩))
theorem x_number {eb : Bool} {u : Int → Int} {n : Nat} {d : Nat} {P : Option Vl → Mm → Prop} {σ : Mm} {w o : Int} (b_o : 0 ≤ o ∧ o ≤ 9) (qg0 : σ 14 0 5 = o) (qg1 : σ 14 0 6 = (n : Int)) (hn : n ≤ 242) (hF : FRc σ o u n)  (k : P (some (vI (cm (σ 16 0) (σ 15 0) o u n w))) σ) : WT (true, true, eb) (d + 1) 10 [vR 14 0, vI w] σ P := by
  refine WT_in fun K hK => ?_
  have hK : StpY (true, true, eb) cX1_number RX1 (some .int) (WT (true, true, eb) (d + 0)) P K := hK
  have hM := hK.1
  have hC := hK.1.1
  show K 0 [some (vR 14 0), some (vI w)] [] σ
  refine r_rngz hC (fun g0 => ?_)
  have r_w : -2147483648 ≤ w ∧ w ≤ 2147483647 := inR_le (g0 (vI w) (by simp))
  refine r_aload_n hC dX1_number_0 rfl ?_
  refine z_getI (jz := 6) hM dX1_number_1 fl_RX1_34 rfl rfl rfl (fun v1 h_v1 o_v1 t_v1 => ?_)
  have e_v1 : (n : Int) = v1 := ((t_v1 ((by simp [Tk, Tb, DL, DF, DX]))).trans qg1).symm
  subst e_v1
  refine r_if_eq (tgt := 23) hC dX1_number_4 rfl (fun h2 => ?_) (fun h2 => ?_)
  · refine r_ldc hC dX1_number_23 co_RX1_40 rfl ?_
    refine r_goto (tgt := 34) hC dX1_number_25 rfl ?_
    refine y_iret hK rfl dX1_number_34 ?_
    have e : cm (σ 16 0) (σ 15 0) o u n w = -2147483648 := if_pos (by omega)
    rw [e] at k
    exact k
  · refine r_iload_n hC dX1_number_7 rfl ?_
    refine r_if_lt (tgt := 23) hC dX1_number_8 rfl (fun h3 => ?_) (fun h3 => ?_)
    · refine r_ldc hC dX1_number_23 co_RX1_40 rfl ?_
      refine r_goto (tgt := 34) hC dX1_number_25 rfl ?_
      refine y_iret hK rfl dX1_number_34 ?_
      have e : cm (σ 16 0) (σ 15 0) o u n w = -2147483648 := if_pos (by omega)
      rw [e] at k
      exact k
    · refine r_iload_n hC dX1_number_11 rfl ?_
      refine z_nums hM dX1_number_12 sl_RX1_41 ?_
      refine r_aload_n hC dX1_number_15 rfl ?_
      refine z_getI (jz := 5) hM dX1_number_16 fl_RX1_30 rfl rfl rfl (fun v4 h_v4 o_v4 t_v4 => ?_)
      have e_v4 : o = v4 := ((t_v4 ((by simp [Tk, Tb, DL, DF, DX]))).trans qg0).symm
      subst e_v4
      refine z_nald hM dX1_number_19 (by omega) (by omega) ?_
      have q_v5 := numF_rng o
      refine r_icmp_lt (tgt := 28) hC dX1_number_20 rfl (fun h6 => ?_) (fun h6 => ?_)
      · refine r_aload_n hC dX1_number_28 rfl ?_
        refine z_getR hM dX1_number_29 fl_RX1_24 rfl rfl (vld_of (n := 1) rfl (by omega) (by omega)) ?_
        refine r_iload_n hC dX1_number_32 rfl ?_
        refine z_iald hM dX1_number_33 rfl (by omega) (by omega) (fun v7 h_v7 o_v7 t_v7 => ?_)
        have w_v7 := t_v7 (tk17 rfl rfl)
        subst w_v7
        refine y_iret hK rfl dX1_number_34 ?_
        have e : cm (σ 16 0) (σ 15 0) o u n w = cmN (σ 16 0) (σ 15 0) o u n w := if_neg (by omega)
        rw [e, ← hF.2.2.2 w (by omega) (by omega)] at k
        exact k
      · refine r_ldc hC dX1_number_23 co_RX1_40 rfl ?_
        refine r_goto (tgt := 34) hC dX1_number_25 rfl ?_
        refine y_iret hK rfl dX1_number_34 ?_
        have e : cm (σ 16 0) (σ 15 0) o u n w = -2147483648 := if_pos (by omega)
        rw [e] at k
        exact k
theorem x_foldPart {eb : Bool} {d : Nat} {P : Option Vl → Mm → Prop} {σ : Mm} {i f z : Int} (b_i : 0 ≤ i ∧ i ≤ 6) (b_f : 0 ≤ f ∧ f ≤ 121) (b_z : -2147483648 ≤ z ∧ z ≤ 121)  (k : ∀ ρ : Mm, Gx (fun c x y => c = 17 ∧ x = 0 ∨ c = 14 ∧ x = 0 ∧ (y = 5 ∨ y = 6 ∨ y = 7)) σ ρ → FRc ρ (σ 7 i 2) (fun j => σ 9 i (f + j)) (z - f).toNat → P none ρ) : WT (true, true, eb) (d + 4) 134 [vR 2 0, vR 7 i, vI f, vI z] σ P := by
  refine WT_in fun K hK => ?_
  have hK : StpY (true, true, eb) cX5_foldPart RX5 (none) (WT (true, true, eb) (d + 3)) P K := hK
  have hM := hK.1
  have hC := hK.1.1
  show K 0 [some (vR 2 0), some (vR 7 i), some (vI f), some (vI z), none] [] σ
  refine z_ok hM (fun hok => ?_)
  refine r_aload_n hC dX5_foldPart_0 rfl ?_
  refine z_getR hM dX5_foldPart_1 fl_RX5_40 rfl rfl (vld_of (n := 1) rfl (by omega) (by omega)) ?_
  refine r_aload_n hC dX5_foldPart_4 rfl ?_
  refine z_getI (jz := 2) hM dX5_foldPart_5 fl_RX5_98 rfl rfl rfl (fun v1 h_v1 o_v1 t_v1 => ?_)
  have w_v1 := t_v1 (Or.inl (by simp [Tb]))
  subst w_v1
  have q_v1 : 0 ≤ (σ 7 i 2) ∧ (σ 7 i 2) ≤ 9 := o_v1.2.2 rfl
  refine z_inv1 hM dX5_foldPart_8 vl_RX5_251 rfl rfl rfl (Nat.le_of_ble_eq_true rfl) (Nat.le_of_ble_eq_true rfl) ?_
  refine x_begin (by omega) rfl rfl rfl rfl rfl rfl rfl rfl rfl rfl (fun ρ2 g_ρ2 z_ρ2 => ?_)
  refine r_iload_n hC dX5_foldPart_11 rfl ?_
  refine r_istore hC dX5_foldPart_12 rfl ?_
  have L14 : ∀ (n14 : Nat) (w3 : Int) (ρ4 : Mm), 0 ≤ w3 ∧ w3 ≤ 121 → (f ≤ (w3)) → ((w3) ≤ z ∨ (w3) = f) → 121 - w3 < (n14 : Int) → Gx (fun c x y => c = 17 ∧ x = 0 ∨ c = 14 ∧ x = 0 ∧ (y = 5 ∨ y = 6 ∨ y = 7)) σ ρ4 → (FRc ρ4 (σ 7 i 2) (fun j => σ 9 i (f + j)) ((w3) - f).toNat) → K 14 [some (vR 2 0), some (vR 7 i), some (vI f), some (vI z), some (vI w3)] [] ρ4 := by
    intro n14
    induction n14 with
    | zero => intro w3 ρ4 f_w3 i0_14 i1_14 hm g_ρ4 m0_14; omega
    | succ n14 ih14 =>
      intro w3 ρ4 f_w3 i0_14 i1_14 hm14 g_ρ4 m0_14
      refine r_iload hC dX5_foldPart_14 rfl ?_
      refine r_iload_n hC dX5_foldPart_16 rfl ?_
      refine r_icmp_ge (tgt := 40) hC dX5_foldPart_17 rfl (fun h5 => ?_) (fun h5 => ?_)
      · refine y_vret hK rfl dX5_foldPart_40 ?_
        have h := m0_14
        rw [show (w3 - f).toNat = (z - f).toNat from by omega] at h
        exact k _ (g_ρ4) h
      · refine r_aload_n hC dX5_foldPart_20 rfl ?_
        refine z_getR hM dX5_foldPart_21 fl_RX5_40 rfl rfl (vld_of (n := 1) rfl (by omega) (by omega)) ?_
        refine r_aload_n hC dX5_foldPart_24 rfl ?_
        refine z_getR hM dX5_foldPart_25 fl_RX5_176 rfl rfl (vld_of (n := 7) rfl (by omega) (by omega)) ?_
        refine r_iload hC dX5_foldPart_28 rfl ?_
        refine z_iald hM dX5_foldPart_30 rfl (by omega) (by omega) (fun v6 h_v6 o_v6 t_v6 => ?_)
        have w_v6 := t_v6 (Or.inl trivial)
        subst w_v6
        have q_v6 : -1000 ≤ (ρ4 9 i w3) ∧ (ρ4 9 i w3) ≤ 1000 := o_v6
        refine z_inv1 hM dX5_foldPart_31 vl_RX5_253 rfl rfl rfl (Nat.le_of_ble_eq_true rfl) (Nat.le_of_ble_eq_true rfl) ?_
        refine x_append2 (u := (fun j => σ 9 i (f + j))) (n := (w3 - f).toNat) (by show (ρ4 9 i w3) = σ 9 i (f + ((w3 - f).toNat : Int)); rw [show f + ((w3 - f).toNat : Int) = w3 from by omega]; exact (g_ρ4) 9 i _ (by omega)) (by omega) (by omega) (by omega) (fun j h0 h1 => hok 9 i _ (Or.inl trivial)) m0_14 (fun j h0 h1 => by rw [(g_ρ4) 15 0 j (by omega)]; exact hok 15 0 j (Or.inl trivial)) (fun ρ7 g_ρ7 r_ρ7 => ?_)
        refine r_iincE hC ((w3 + 1)) dX5_foldPart_34 rfl rfl (by omega) (by unfold inR; omega) ?_
        refine r_goto (tgt := 14) hC dX5_foldPart_37 rfl ?_
        exact ih14 ((w3 + 1)) ρ7 (by omega) (by omega) (by omega) (by omega) (Gx.gx (g_ρ4) g_ρ7 (by intro c x y h; omega)) (by rw [show ((w3 + 1) - f).toNat = ((w3 + 1) - 1 - f).toNat + 1 from by omega]; have h := r_ρ7; rw [show (w3 + 1) - 1 = w3 from by omega]; exact h)
  exact L14 123 (f) ρ2 (by omega) (by omega) (by omega) (by omega) (Gx.gx (Gx.rf) g_ρ2 (by intro c x y h; omega)) (by have h := z_ρ2 (fun j => σ 9 i (f + j)); rw [show (f - f).toNat = 0 from by omega]; exact h)
-- B: what a part comes to
theorem FRc.inF {ρ : Mm} {o : Int} {u : Int → Int} {n : Nat} (h : FRc ρ o u n) (hc : ∀ j : Int, 0 ≤ j → j < 16 → 0 ≤ ρ 15 0 j ∧ ρ 15 0 j ≤ 3) : InF ρ := by
  refine ⟨fun q => ?_, fun q => ?_⟩
  · have e : o = 9 := h.1.symm.trans q
    subst e
    rw [un_9 h]
    exact tbl_b hc n
  · have e : o = 1 := h.1.symm.trans q
    subst e
    rw [(un_1 h).1]
    exact shr_pos u n
theorem x_comesTo_S {eb : Bool} {d : Nat} {P : Option Vl → Mm → Prop} {σ : Mm} {i f z w : Int} (b_i : 0 ≤ i ∧ i ≤ 6) (b_f : 0 ≤ f ∧ f ≤ 121) (b_z : -2147483648 ≤ z ∧ z ≤ 121)  (k : ∀ ρ : Mm, Gx (fun c x y => c = 17 ∧ x = 0 ∨ c = 14 ∧ x = 0 ∧ (y = 5 ∨ y = 6 ∨ y = 7)) σ ρ → InF ρ → P (some (vI (cm (σ 16 0) (σ 15 0) (σ 7 i 2) (fun j => σ 9 i (f + j)) (z - f).toNat w))) ρ) : WT (true, true, eb) (d + 5) 132 [vR 2 0, vR 7 i, vI f, vI z, vI w] σ P := by
  refine WT_in fun K hK => ?_
  have hK : StpY (true, true, eb) cX5_comesTo RX5 (some .int) (WT (true, true, eb) (d + 4)) P K := hK
  have hM := hK.1
  have hC := hK.1.1
  show K 0 [some (vR 2 0), some (vR 7 i), some (vI f), some (vI z), some (vI w)] [] σ
  refine z_ok hM (fun hok => ?_)
  refine r_rngz hC (fun g0 => ?_)
  have r_w : -2147483648 ≤ w ∧ w ≤ 2147483647 := inR_le (g0 (vI w) (by simp))
  refine r_aload_n hC dX5_comesTo_0 rfl ?_
  refine r_aload_n hC dX5_comesTo_1 rfl ?_
  refine r_iload_n hC dX5_comesTo_2 rfl ?_
  refine r_iload_n hC dX5_comesTo_3 rfl ?_
  refine z_inv3 hM dX5_comesTo_4 vl_RX5_259 rfl rfl rfl (Nat.le_of_ble_eq_true rfl) (Nat.le_of_ble_eq_true rfl) ?_
  refine x_foldPart (by omega) (by omega) (by omega) (fun ρ1 g_ρ1 r_ρ1 => ?_)
  refine r_aload_n hC dX5_comesTo_7 rfl ?_
  refine z_getR hM dX5_comesTo_8 fl_RX5_40 rfl rfl (vld_of (n := 1) rfl (by omega) (by omega)) ?_
  refine r_iload hC dX5_comesTo_11 rfl ?_
  refine z_inv1 hM dX5_comesTo_13 vl_RX5_273 rfl rfl rfl (Nat.le_of_ble_eq_true rfl) (Nat.le_of_ble_eq_true rfl) ?_
  refine x_number (n := (z - f).toNat) (by have := hok 7 i 2 (Or.inl (by simp [Tb])); exact this.2.2 rfl) r_ρ1.1 r_ρ1.2.1 (by omega) r_ρ1 ?_
  refine y_iret hK rfl dX5_comesTo_16 ?_
  have e16 : ρ1 16 0 = σ 16 0 := funext fun j => g_ρ1 16 0 j (by omega)
  have e15 : ρ1 15 0 = σ 15 0 := funext fun j => g_ρ1 15 0 j (by omega)
  have q := k _ (Gx.gx (Gx.rf) g_ρ1 (by intro c x y h; omega)) (r_ρ1.inF (fun j h0 h1 => by rw [e15]; exact hok 15 0 j (Or.inl trivial)))
  rw [← e16, ← e15] at q
  exact q
theorem x_comesTo {eb : Bool} {d : Nat} {P : Option Vl → Mm → Prop} {σ : Mm} {i f z w : Int} (b_i : 0 ≤ i ∧ i ≤ 6) (b_f : 0 ≤ f ∧ f ≤ 121) (b_z : -2147483648 ≤ z ∧ z ≤ 121) (k : P (some (vI (cm (σ 16 0) (σ 15 0) (σ 7 i 2) (fun j => σ 9 i (f + j)) (z - f).toNat w))) σ) : WT (true, false, eb) (d + 5) 132 [vR 2 0, vR 7 i, vI f, vI z, vI w] σ P := by
  refine WT_loose (true, true, eb) (fun h => h) (fun h => by cases h) (fun c j q => ?_) (fun ρ hL hF hT hO => ?_)
  · rcases q with q | q | q | q
    · exact Or.inl q
    · exact Or.inr (Or.inl q)
    · cases q.1
    · exact Or.inr (Or.inr (Or.inr q))
  · have e16 : ρ 16 0 = σ 16 0 := funext fun j => hT 16 0 j (Or.inl trivial)
    have e15 : ρ 15 0 = σ 15 0 := funext fun j => hT 15 0 j (Or.inl trivial)
    have e9 : ρ 9 i = σ 9 i := funext fun j => hT 9 i j (Or.inl trivial)
    have e7 : ρ 7 i 2 = σ 7 i 2 := hT 7 i 2 (Or.inl (by simp [Tb]))
    refine x_comesTo_S b_i b_f b_z (fun ρ2 g hI => ⟨σ, ?_, fun h => Or.inl h, fun _ => Or.inr hI, fun c x y q => ?_⟩)
    · rw [e16, e15, e9, e7]
      exact k
    · refine (g c x y ?_).trans (hT c x y q)
      rintro (⟨rfl, rfl⟩ | ⟨rfl, rfl, h⟩)
      · rcases q with q | q | q | q
        · exact q
        · exact q.2
        · cases q.1
        · exact q.2
      · rcases q with q | q | q | q
        · exact q
        · exact q.2
        · cases q.1
        · exact q.2
-- steps told with ints, for the reference's loops
theorem nat_succ {i : Int} (h : 0 ≤ i) : (i + 1).toNat = i.toNat + 1 := by omega
theorem gr_stepI {v : Int → Int} {i : Int} (h : 0 ≤ i) : (gr v (i + 1).toNat).2.2 = if v i > v (gr v i.toNat).2.2 then i else (gr v i.toNat).2.2 := by
  rw [nat_succ h, gr_step, Int.toNat_of_nonneg h]
theorem cnE_stepI {v : Int → Int} {m i : Int} (h : 0 ≤ i) : cnE v m (i + 1).toNat = cnE v m i.toNat + (if v i = m then 1 else 0) := by
  rw [nat_succ h]
  show cnE v m i.toNat + (if v (i.toNat : Int) = m then 1 else 0) = _
  rw [Int.toNat_of_nonneg h]
theorem shr_stepI {v : Int → Int} {i : Int} (h : 0 ≤ i) : shr v (i + 1).toNat = ((Int.gcd (shr v i.toNat).1 (v i) : Int), (shr v i.toNat).2 + (if v i = 0 then 0 else 1)) := by
  rw [nat_succ h]
  show ((Int.gcd (shr v i.toNat).1 (v (i.toNat : Int)) : Int), (shr v i.toNat).2 + (if v (i.toNat : Int) = 0 then 0 else 1)) = _
  rw [Int.toNat_of_nonneg h]
theorem lin_stepI {v : Int → Int} {i : Int} (h : 0 ≤ i) : lin v (i + 1).toNat = ((v i % 997) * (lin v i.toNat).1 % 997, ((v i % 997) * (lin v i.toNat).2 + (7 * v i + 1) % 997) % 997) := by
  rw [nat_succ h]
  show ((v (i.toNat : Int) % 997) * (lin v i.toNat).1 % 997, ((v (i.toNat : Int) % 997) * (lin v i.toNat).2 + (7 * v (i.toNat : Int) + 1) % 997) % 997) = _
  rw [Int.toNat_of_nonneg h]
theorem ltr_stepI {tl v : Int → Int} {s i : Int} (h : 0 ≤ i) : ltr tl v s (i + 1).toNat = lnx tl (v i) (ltr tl v s i.toNat) := by
  rw [nat_succ h]
  show lnx tl (v (i.toNat : Int)) (ltr tl v s i.toNat) = _
  rw [Int.toNat_of_nonneg h]
theorem nst_stepI {v : Int → Int} {i : Int} (h : 0 ≤ i) : nst v (i + 1).toNat = (let s := nst v i.toNat; let t := if 0 ≤ v i then (s.1, s.2.1 + 1, s.2.2.1) else if 0 < s.2.1 then (s.1, s.2.1 - 1, s.2.2.1 + 1) else (s.1 + 1, s.2.1, s.2.2.1); (t.1, t.2.1, t.2.2, max s.2.2.2 (t.2.1 - t.1))) := by
  rw [nat_succ h]
  show (let s := nst v i.toNat; let t := if 0 ≤ v (i.toNat : Int) then (s.1, s.2.1 + 1, s.2.2.1) else if 0 < s.2.1 then (s.1, s.2.1 - 1, s.2.2.1 + 1) else (s.1 + 1, s.2.1, s.2.2.1); (t.1, t.2.1, t.2.2, max s.2.2.2 (t.2.1 - t.1))) = _
  rw [Int.toNat_of_nonneg h]
theorem spr_stepI {v : Int → Int} {i : Int} (h : 0 ≤ i) : spr v (i + 1).toNat = (if 0 < v i ∧ ((spr v i.toNat).1 = NO ∨ v i < (spr v i.toNat).1) then v i else (spr v i.toNat).1, if v i < 0 ∧ (spr v i.toNat).2.1 < v i then v i else (spr v i.toNat).2.1, (spr v i.toNat).2.2 + (if v i = 0 then 1 else 0)) := by
  rw [nat_succ h]
  show (if 0 < v (i.toNat : Int) ∧ ((spr v i.toNat).1 = NO ∨ v (i.toNat : Int) < (spr v i.toNat).1) then v (i.toNat : Int) else (spr v i.toNat).1, if v (i.toNat : Int) < 0 ∧ (spr v i.toNat).2.1 < v (i.toNat : Int) then v (i.toNat : Int) else (spr v i.toNat).2.1, (spr v i.toNat).2.2 + (if v (i.toNat : Int) = 0 then 1 else 0)) = _
  rw [Int.toNat_of_nonneg h]
theorem tbl_stepI {tc v : Int → Int} {i : Int} (h : 1 ≤ i) : tbl tc v (i + 1).toNat = tc (4 * tbl tc v i.toNat + v i % 4) := by
  rw [nat_succ (by omega)]
  show (if i.toNat = 0 then v 0 % 4 else tc (4 * tbl tc v i.toNat + v (i.toNat : Int) % 4)) = _
  rw [if_neg (by omega), Int.toNat_of_nonneg (by omega)]
theorem stp_stepI {v : Int → Int} {i : Int} (h : 1 ≤ i) : stp v (i + 1).toNat = ((stp v i.toNat).1 + (if v i < v (i - 1) then 1 else 0), (stp v i.toNat).2.1 + (if v i > v (i - 1) then 1 else 0), max (stp v i.toNat).2.2.1 (if v i < v (i - 1) then 1 else (stp v i.toNat).2.2.2 + 1), if v i < v (i - 1) then 1 else (stp v i.toNat).2.2.2 + 1) := by
  rw [nat_succ (by omega)]
  show (let s := stp v i.toNat; let f : Bool := decide (0 < i.toNat) && decide (v (i.toNat : Int) < v ((i.toNat : Int) - 1)); let c : Bool := decide (0 < i.toNat) && decide (v (i.toNat : Int) > v ((i.toNat : Int) - 1)); let r := if f then 1 else s.2.2.2 + 1; (s.1 + (if f then 1 else 0), s.2.1 + (if c then 1 else 0), max s.2.2.1 r, r)) = _
  rw [Int.toNat_of_nonneg (by omega)]
  have h0 : decide (0 < i.toNat) = true := decide_eq_true (by omega)
  simp only [h0, Bool.true_and, decide_eq_true_eq]
-- B: the reference, what it makes of its row
theorem y_rest {e : Ev} {d : Nat} {P : Option Vl → Mm → Prop} {σ : Mm} {a b : Int} (b_b : 1 ≤ b ∧ b ≤ 1000)  (k : 0 ≤ a % b ∧ a % b < b → P (some (vI (a % b))) σ) : WT e (d + 1) 162 [vI a, vI b] σ P := by
  refine WT_in fun K hK => ?_
  have hK : StpY e cX6_rest RX6 (some .int) (WT e (d + 0)) P K := hK
  have hM := hK.1
  have hC := hK.1.1
  show K 0 [some (vI a), some (vI b), none] [] σ
  refine r_rngz hC (fun g0 => ?_)
  have r_a : -2147483648 ≤ a ∧ a ≤ 2147483647 := inR_le (g0 (vI a) (by simp))
  refine r_iload_n hC dX6_rest_0 rfl ?_
  refine r_iload_n hC dX6_rest_1 rfl ?_
  refine r_irem hC dX6_rest_2 (by omega) ?_
  have f_v1 := tmod_fr (a := a) (b := b) (by omega)
  refine r_istore_n hC dX6_rest_3 rfl ?_
  refine r_iload_n hC dX6_rest_4 rfl ?_
  refine r_if_ge (tgt := 14) hC dX6_rest_5 rfl (fun h2 => ?_) (fun h2 => ?_)
  · refine r_iload_n hC dX6_rest_14 rfl ?_
    refine y_iret hK rfl dX6_rest_15 ?_
    have e := emod_tm (a := a) (b := b) (by omega)
    have e2 : a % b = (Int.tmod a b) := by omega
    rw [e2] at k
    exact k (by omega)
  · refine r_iload_n hC dX6_rest_8 rfl ?_
    refine r_iload_n hC dX6_rest_9 rfl ?_
    refine r_iaddE hC (((Int.tmod a b) + b)) dX6_rest_10 (by omega) (by unfold inR; omega) ?_
    refine r_goto (tgt := 15) hC dX6_rest_11 rfl ?_
    refine y_iret hK rfl dX6_rest_15 ?_
    have e := emod_tm (a := a) (b := b) (by omega)
    have e2 : a % b = ((Int.tmod a b) + b) := by omega
    rw [e2] at k
    exact k (by omega)
theorem y_greatest {eb : Bool} {n : Nat} {d : Nat} {P : Option Vl → Mm → Prop} {σ : Mm} {t0 t1 t2 t3 : Int} (qg0 : σ 30 0 8 = (n : Int)) (qg1 : σ 38 0 0 = t0) (qg2 : σ 38 0 1 = t1) (qg3 : σ 38 0 2 = t2) (qg4 : σ 38 0 3 = t3) (hn1 : 1 ≤ n) (hn : n ≤ 242)  (k : ∀ ρ : Mm, Gx (fun c x y => c = 38 ∧ x = 0) σ ρ → ρ 38 0 0 = ((gr (σ 37 0) n).1) → ρ 38 0 1 = ((gr (σ 37 0) n).2.1) → ρ 38 0 2 = ((gr (σ 37 0) n).2.2) → ρ 38 0 3 = ((n : Int)) → P none ρ) : WT (true, eb, true) (d + 1) 160 [vR 30 0] σ P := by
  refine WT_in fun K hK => ?_
  have hK : StpY (true, eb, true) cX6_greatest RX6 (none) (WT (true, eb, true) (d + 0)) P K := hK
  have hM := hK.1
  have hC := hK.1.1
  show K 0 [some (vR 30 0), none, none, none] [] σ
  refine r_iconst hC dX6_greatest_0 rfl ?_
  refine r_istore_n hC dX6_greatest_1 rfl ?_
  refine r_iconst hC dX6_greatest_2 rfl ?_
  refine r_istore_n hC dX6_greatest_3 rfl ?_
  refine r_iconst hC dX6_greatest_4 rfl ?_
  refine r_istore_n hC dX6_greatest_5 rfl ?_
  have L6 : ∀ (n6 : Nat) (w1 w2 : Int), 0 ≤ w1 ∧ w1 ≤ 242 → 0 ≤ w2 ∧ w2 ≤ 241 → ((w2) = (gr (σ 37 0) ((w1)).toNat).2.2) → ((w1) ≤ (n : Int)) → 242 - w1 < (n6 : Int) → K 6 [some (vR 30 0), some (vI w2), some (vI 0), some (vI w1)] [] σ := by
    intro n6
    induction n6 with
    | zero => intro w1 w2  f_w1 f_w2 i0_6 i1_6 hm  ; omega
    | succ n6 ih6 =>
      intro w1 w2  f_w1 f_w2 i0_6 i1_6 hm6  
      refine r_iload_n hC dX6_greatest_6 rfl ?_
      refine r_aload_n hC dX6_greatest_7 rfl ?_
      refine z_getI (jz := 8) hM dX6_greatest_8 fl_RX6_105 rfl rfl rfl (fun v3 h_v3 o_v3 t_v3 => ?_)
      have e_v3 : (n : Int) = v3 := ((t_v3 ((by simp [Tk, Tb, DL, DR]))).trans qg0).symm
      clear t_v3
      subst e_v3
      refine r_icmp_ge (tgt := 37) hC dX6_greatest_11 rfl (fun h4 => ?_) (fun h4 => ?_)
      · refine r_iconst hC dX6_greatest_37 rfl ?_
        refine r_istore_n hC dX6_greatest_38 rfl ?_
        have L39 : ∀ (n39 : Nat) (w5 w6 : Int), 0 ≤ w5 ∧ w5 ≤ 242 → 0 ≤ w6 ∧ w6 ≤ 242 → ((w6) = cnE (σ 37 0) (σ 37 0 (w2)) ((w5)).toNat) → ((w6) ≤ (w5)) → ((w5) ≤ (n : Int)) → 242 - w5 < (n39 : Int) → K 39 [some (vR 30 0), some (vI w2), some (vI w6), some (vI w5)] [] σ := by
          intro n39
          induction n39 with
          | zero => intro w5 w6  f_w5 f_w6 i0_39 i1_39 i2_39 hm  ; omega
          | succ n39 ih39 =>
            intro w5 w6  f_w5 f_w6 i0_39 i1_39 i2_39 hm39  
            refine r_iload_n hC dX6_greatest_39 rfl ?_
            refine r_aload_n hC dX6_greatest_40 rfl ?_
            refine z_getI (jz := 8) hM dX6_greatest_41 fl_RX6_105 rfl rfl rfl (fun v7 h_v7 o_v7 t_v7 => ?_)
            have e_v7 : (n : Int) = v7 := ((t_v7 ((by simp [Tk, Tb, DL, DR]))).trans qg0).symm
            clear t_v7
            subst e_v7
            refine r_icmp_ge (tgt := 76) hC dX6_greatest_44 rfl (fun h8 => ?_) (fun h8 => ?_)
            · refine r_aload_n hC dX6_greatest_76 rfl ?_
              refine z_getR hM dX6_greatest_77 fl_RX6_31 rfl rfl (vld_of (n := 1) rfl (by omega) (by omega)) ?_
              refine r_iconst hC dX6_greatest_80 rfl ?_
              refine r_aload_n hC dX6_greatest_81 rfl ?_
              refine z_getR hM dX6_greatest_82 fl_RX6_28 rfl rfl (vld_of (n := 1) rfl (by omega) (by omega)) ?_
              refine r_iload_n hC dX6_greatest_85 rfl ?_
              refine z_iald hM dX6_greatest_86 rfl (by omega) (by omega) (fun v9 h_v9 o_v9 t_v9 => ?_)
              have w_v9 := t_v9 (Or.inr (Or.inr (Or.inr ⟨rfl, by first | exact True.intro | exact (rfl : true = true)⟩)))
              clear t_v9
              subst w_v9
              refine z_iastG hM dX6_greatest_87 rfl (by omega) (by omega) (by simp [Tl, DL, DF]) (by first | trivial | (simp only [Okv]; omega) | (simp [Okv]; try omega)) (fun ρ10 a_ρ10 q_ρ10 => ?_)
              refine r_aload_n hC dX6_greatest_88 rfl ?_
              refine z_getR hM dX6_greatest_89 fl_RX6_31 rfl rfl (vld_of (n := 1) rfl (by omega) (by omega)) ?_
              refine r_iconst hC dX6_greatest_92 rfl ?_
              refine r_iload_n hC dX6_greatest_93 rfl ?_
              refine z_iastG hM dX6_greatest_94 rfl (by omega) (by omega) (by simp [Tl, DL, DF]) (by first | trivial | (simp only [Okv]; omega) | (simp [Okv]; try omega)) (fun ρ11 a_ρ11 q_ρ11 => ?_)
              refine r_aload_n hC dX6_greatest_95 rfl ?_
              refine z_getR hM dX6_greatest_96 fl_RX6_31 rfl rfl (vld_of (n := 1) rfl (by omega) (by omega)) ?_
              refine r_iconst hC dX6_greatest_99 rfl ?_
              refine r_iload_n hC dX6_greatest_100 rfl ?_
              refine z_iastG hM dX6_greatest_101 rfl (by omega) (by omega) (by simp [Tl, DL, DF]) (by first | trivial | (simp only [Okv]; omega) | (simp [Okv]; try omega)) (fun ρ12 a_ρ12 q_ρ12 => ?_)
              refine r_aload_n hC dX6_greatest_102 rfl ?_
              refine z_getR hM dX6_greatest_103 fl_RX6_31 rfl rfl (vld_of (n := 1) rfl (by omega) (by omega)) ?_
              refine r_iconst hC dX6_greatest_106 rfl ?_
              refine r_aload_n hC dX6_greatest_107 rfl ?_
              refine z_getI (jz := 8) hM dX6_greatest_108 fl_RX6_105 rfl rfl rfl (fun v13 h_v13 o_v13 t_v13 => ?_)
              have e_v13 : (n : Int) = v13 := ((t_v13 ((by simp [Tk, Tb, DL, DR]))).trans ((a_ρ12 _ _ _ (by first | exact xs_ (by decide) | exact xc_ (by decide) | omega)).trans ((a_ρ11 _ _ _ (by first | exact xs_ (by decide) | exact xc_ (by decide) | omega)).trans ((a_ρ10 _ _ _ (by first | exact xs_ (by decide) | exact xc_ (by decide) | omega)).trans qg0)))).symm
              clear t_v13
              subst e_v13
              refine z_iastG hM dX6_greatest_111 rfl (by omega) (by omega) (by simp [Tl, DL, DF]) (by first | trivial | (simp only [Okv]; omega) | (simp [Okv]; try omega)) (fun ρ14 a_ρ14 q_ρ14 => ?_)
              refine y_vret hK rfl dX6_greatest_112 ?_
              have hat : w2 = (gr (σ 37 0) n).2.2 := at_nat (n := n) (f := fun m => (gr (σ 37 0) m).2.2) i0_6 (by omega)
              have hcn : w6 = (gr (σ 37 0) n).2.1 := (at_nat (n := n) (f := fun m => cnE (σ 37 0) (σ 37 0 w2) m) i0_39 (by omega)).trans (by show cnE (σ 37 0) (σ 37 0 w2) n = _; rw [hat, (gr_top (σ 37 0) n hn1).1, gr_cnt (σ 37 0) n hn1])
              exact k _ (((((Gx.rf).al a_ρ10 (by first | (simp; done) | omega | (simp; omega))).al a_ρ11 (by first | (simp; done) | omega | (simp; omega))).al a_ρ12 (by first | (simp; done) | omega | (simp; omega))).al a_ρ14 (by first | (simp; done) | omega | (simp; omega))) (by have hq := ((a_ρ14 _ _ _ (by first | exact xs_ (by decide) | exact xc_ (by decide) | omega)).trans ((a_ρ12 _ _ _ (by first | exact xs_ (by decide) | exact xc_ (by decide) | omega)).trans ((a_ρ11 _ _ _ (by first | exact xs_ (by decide) | exact xc_ (by decide) | omega)).trans q_ρ10))); exact hq.trans (by rw [hat]; exact (gr_top (σ 37 0) n hn1).1)) (by have hq := ((a_ρ14 _ _ _ (by first | exact xs_ (by decide) | exact xc_ (by decide) | omega)).trans ((a_ρ12 _ _ _ (by first | exact xs_ (by decide) | exact xc_ (by decide) | omega)).trans q_ρ11)); omega) (by have hq := ((a_ρ14 _ _ _ (by first | exact xs_ (by decide) | exact xc_ (by decide) | omega)).trans q_ρ12); omega) (by have hq := q_ρ14; omega)
            · refine r_iload_n hC dX6_greatest_47 rfl ?_
              refine r_aload_n hC dX6_greatest_48 rfl ?_
              refine z_getR hM dX6_greatest_49 fl_RX6_28 rfl rfl (vld_of (n := 1) rfl (by omega) (by omega)) ?_
              refine r_iload_n hC dX6_greatest_52 rfl ?_
              refine z_iald hM dX6_greatest_53 rfl (by omega) (by omega) (fun v15 h_v15 o_v15 t_v15 => ?_)
              have w_v15 := t_v15 (Or.inr (Or.inr (Or.inr ⟨rfl, by first | exact True.intro | exact (rfl : true = true)⟩)))
              clear t_v15
              subst w_v15
              refine r_aload_n hC dX6_greatest_54 rfl ?_
              refine z_getR hM dX6_greatest_55 fl_RX6_28 rfl rfl (vld_of (n := 1) rfl (by omega) (by omega)) ?_
              refine r_iload_n hC dX6_greatest_58 rfl ?_
              refine z_iald hM dX6_greatest_59 rfl (by omega) (by omega) (fun v16 h_v16 o_v16 t_v16 => ?_)
              have w_v16 := t_v16 (Or.inr (Or.inr (Or.inr ⟨rfl, by first | exact True.intro | exact (rfl : true = true)⟩)))
              clear t_v16
              subst w_v16
              refine r_icmp_ne (tgt := 67) hC dX6_greatest_60 rfl (fun h17 => ?_) (fun h17 => ?_)
              · refine r_iconst hC dX6_greatest_67 rfl ?_
                refine r_iaddE hC (w6) dX6_greatest_68 (by omega) (by unfold inR; omega) ?_
                refine r_istore_n hC dX6_greatest_69 rfl ?_
                refine r_iincE hC ((w5 + 1)) dX6_greatest_70 rfl rfl (by omega) (by unfold inR; omega) ?_
                refine r_goto (tgt := 39) hC dX6_greatest_73 rfl ?_
                exact ih39 ((w5 + 1)) (w6)  (by omega) (by omega) (by first | rfl | (rw [cnE_stepI (by omega), ← i0_39]; split <;> omega)) (by omega) (by omega) (by omega)  
              · refine r_iconst hC dX6_greatest_63 rfl ?_
                refine r_goto (tgt := 68) hC dX6_greatest_64 rfl ?_
                refine r_iaddE hC ((w6 + 1)) dX6_greatest_68 (by omega) (by unfold inR; omega) ?_
                refine r_istore_n hC dX6_greatest_69 rfl ?_
                refine r_iincE hC ((w5 + 1)) dX6_greatest_70 rfl rfl (by omega) (by unfold inR; omega) ?_
                refine r_goto (tgt := 39) hC dX6_greatest_73 rfl ?_
                exact ih39 ((w5 + 1)) ((w6 + 1))  (by omega) (by omega) (by first | rfl | (rw [cnE_stepI (by omega), ← i0_39]; split <;> omega)) (by omega) (by omega) (by omega)  
        exact L39 244 (0) (0)  (by omega) (by omega) (by first | rfl | (rw [cnE_stepI (by omega), ← i0_39]; split <;> omega)) (by omega) (by omega) (by omega)  
      · refine r_aload_n hC dX6_greatest_14 rfl ?_
        refine z_getR hM dX6_greatest_15 fl_RX6_28 rfl rfl (vld_of (n := 1) rfl (by omega) (by omega)) ?_
        refine r_iload_n hC dX6_greatest_18 rfl ?_
        refine z_iald hM dX6_greatest_19 rfl (by omega) (by omega) (fun v18 h_v18 o_v18 t_v18 => ?_)
        have w_v18 := t_v18 (Or.inr (Or.inr (Or.inr ⟨rfl, by first | exact True.intro | exact (rfl : true = true)⟩)))
        clear t_v18
        subst w_v18
        refine r_aload_n hC dX6_greatest_20 rfl ?_
        refine z_getR hM dX6_greatest_21 fl_RX6_28 rfl rfl (vld_of (n := 1) rfl (by omega) (by omega)) ?_
        refine r_iload_n hC dX6_greatest_24 rfl ?_
        refine z_iald hM dX6_greatest_25 rfl (by omega) (by omega) (fun v19 h_v19 o_v19 t_v19 => ?_)
        have w_v19 := t_v19 (Or.inr (Or.inr (Or.inr ⟨rfl, by first | exact True.intro | exact (rfl : true = true)⟩)))
        clear t_v19
        subst w_v19
        refine r_icmp_le (tgt := 31) hC dX6_greatest_26 rfl (fun h20 => ?_) (fun h20 => ?_)
        · refine r_iincE hC ((w1 + 1)) dX6_greatest_31 rfl rfl (by omega) (by unfold inR; omega) ?_
          refine r_goto (tgt := 6) hC dX6_greatest_34 rfl ?_
          exact ih6 ((w1 + 1)) (w2)  (by omega) (by omega) (by first | rfl | (rw [gr_stepI (by omega), ← i0_6]; split <;> omega)) (by omega) (by omega)  
        · refine r_iload_n hC dX6_greatest_29 rfl ?_
          refine r_istore_n hC dX6_greatest_30 rfl ?_
          refine r_iincE hC ((w1 + 1)) dX6_greatest_31 rfl rfl (by omega) (by unfold inR; omega) ?_
          refine r_goto (tgt := 6) hC dX6_greatest_34 rfl ?_
          exact ih6 ((w1 + 1)) (w1)  (by omega) (by omega) (by first | rfl | (rw [gr_stepI (by omega), ← i0_6]; split <;> omega)) (by omega) (by omega)  
  exact L6 244 (0) (0)  (by omega) (by omega) (by first | rfl | (rw [gr_stepI (by omega), ← i0_6]; split <;> omega)) (by omega) (by omega)  
theorem y_spread {eb : Bool} {n : Nat} {d : Nat} {P : Option Vl → Mm → Prop} {σ : Mm} {t0 t1 t2 : Int} (qg0 : σ 30 0 8 = (n : Int)) (qg1 : σ 38 0 0 = t0) (qg2 : σ 38 0 1 = t1) (qg3 : σ 38 0 2 = t2) (hn1 : 1 ≤ n) (hn : n ≤ 242)  (k : ∀ ρ : Mm, Gx (fun c x y => c = 38 ∧ x = 0) σ ρ → ρ 38 0 0 = ((spr (σ 37 0) n).1) → ρ 38 0 1 = ((spr (σ 37 0) n).2.1) → ρ 38 0 2 = ((spr (σ 37 0) n).2.2) → P none ρ) : WT (true, eb, true) (d + 1) 171 [vR 30 0] σ P := by
  refine WT_in fun K hK => ?_
  have hK : StpY (true, eb, true) cX6_spread RX6 (none) (WT (true, eb, true) (d + 0)) P K := hK
  have hM := hK.1
  have hC := hK.1.1
  show K 0 [some (vR 30 0), none, none, none, none] [] σ
  refine r_ldc hC dX6_spread_0 co_RX6_160 rfl ?_
  refine r_istore_n hC dX6_spread_2 rfl ?_
  refine r_ldc hC dX6_spread_3 co_RX6_160 rfl ?_
  refine r_istore_n hC dX6_spread_5 rfl ?_
  refine r_iconst hC dX6_spread_6 rfl ?_
  refine r_istore_n hC dX6_spread_7 rfl ?_
  show K _ [_, _, _, _, _] _ _
  refine r_iconst hC dX6_spread_8 rfl ?_
  refine r_istore hC dX6_spread_9 rfl ?_
  have L11 : ∀ (n11 : Nat) (w1 w2 w3 w4 : Int), 0 ≤ w1 ∧ w1 ≤ 242 → -2147483648 ≤ w2 ∧ w2 ≤ -1 → -2147483648 ≤ w3 ∧ w3 ≤ 2147483647 → 0 ≤ w4 ∧ w4 ≤ 242 → ((w3) = (spr (σ 37 0) ((w1)).toNat).1) → ((w2) = (spr (σ 37 0) ((w1)).toNat).2.1) → ((w4) = (spr (σ 37 0) ((w1)).toNat).2.2) → ((w4) ≤ (w1)) → ((w1) ≤ (n : Int)) → 242 - w1 < (n11 : Int) → K 11 [some (vR 30 0), some (vI w3), some (vI w2), some (vI w4), some (vI w1)] [] σ := by
    intro n11
    induction n11 with
    | zero => intro w1 w2 w3 w4  f_w1 f_w2 f_w3 f_w4 i0_11 i1_11 i2_11 i3_11 i4_11 hm  ; omega
    | succ n11 ih11 =>
      intro w1 w2 w3 w4  f_w1 f_w2 f_w3 f_w4 i0_11 i1_11 i2_11 i3_11 i4_11 hm11  
      refine r_iload hC dX6_spread_11 rfl ?_
      refine r_aload_n hC dX6_spread_13 rfl ?_
      refine z_getI (jz := 8) hM dX6_spread_14 fl_RX6_105 rfl rfl rfl (fun v5 h_v5 o_v5 t_v5 => ?_)
      have e_v5 : (n : Int) = v5 := ((t_v5 ((by simp [Tk, Tb, DL, DR]))).trans qg0).symm
      clear t_v5
      subst e_v5
      refine r_icmp_ge (tgt := 103) hC dX6_spread_17 rfl (fun h6 => ?_) (fun h6 => ?_)
      · refine r_aload_n hC dX6_spread_103 rfl ?_
        refine z_getR hM dX6_spread_104 fl_RX6_31 rfl rfl (vld_of (n := 1) rfl (by omega) (by omega)) ?_
        refine r_iconst hC dX6_spread_107 rfl ?_
        refine r_iload_n hC dX6_spread_108 rfl ?_
        refine z_iastG hM dX6_spread_109 rfl (by omega) (by omega) (by simp [Tl, DL, DF]) (by first | trivial | (simp only [Okv]; omega) | (simp [Okv]; try omega)) (fun ρ7 a_ρ7 q_ρ7 => ?_)
        refine r_aload_n hC dX6_spread_110 rfl ?_
        refine z_getR hM dX6_spread_111 fl_RX6_31 rfl rfl (vld_of (n := 1) rfl (by omega) (by omega)) ?_
        refine r_iconst hC dX6_spread_114 rfl ?_
        refine r_iload_n hC dX6_spread_115 rfl ?_
        refine z_iastG hM dX6_spread_116 rfl (by omega) (by omega) (by simp [Tl, DL, DF]) (by first | trivial | (simp only [Okv]; omega) | (simp [Okv]; try omega)) (fun ρ8 a_ρ8 q_ρ8 => ?_)
        refine r_aload_n hC dX6_spread_117 rfl ?_
        refine z_getR hM dX6_spread_118 fl_RX6_31 rfl rfl (vld_of (n := 1) rfl (by omega) (by omega)) ?_
        refine r_iconst hC dX6_spread_121 rfl ?_
        refine r_iload_n hC dX6_spread_122 rfl ?_
        refine z_iastG hM dX6_spread_123 rfl (by omega) (by omega) (by simp [Tl, DL, DF]) (by first | trivial | (simp only [Okv]; omega) | (simp [Okv]; try omega)) (fun ρ9 a_ρ9 q_ρ9 => ?_)
        refine y_vret hK rfl dX6_spread_124 ?_
        have hs1 : w3 = (spr (σ 37 0) n).1 := at_nat (n := n) (f := fun m => (spr (σ 37 0) m).1) i0_11 (by omega)
        have hs2 : w2 = (spr (σ 37 0) n).2.1 := at_nat (n := n) (f := fun m => (spr (σ 37 0) m).2.1) i1_11 (by omega)
        have hs3 : w4 = (spr (σ 37 0) n).2.2 := at_nat (n := n) (f := fun m => (spr (σ 37 0) m).2.2) i2_11 (by omega)
        exact k _ ((((Gx.rf).al a_ρ7 (by first | (simp; done) | omega | (simp; omega))).al a_ρ8 (by first | (simp; done) | omega | (simp; omega))).al a_ρ9 (by first | (simp; done) | omega | (simp; omega))) (by have hq := ((a_ρ9 _ _ _ (by first | exact xs_ (by decide) | exact xc_ (by decide) | omega)).trans ((a_ρ8 _ _ _ (by first | exact xs_ (by decide) | exact xc_ (by decide) | omega)).trans q_ρ7)); exact hq.trans hs1) (by have hq := ((a_ρ9 _ _ _ (by first | exact xs_ (by decide) | exact xc_ (by decide) | omega)).trans q_ρ8); exact hq.trans hs2) (by have hq := q_ρ9; exact hq.trans hs3)
      · refine r_aload_n hC dX6_spread_20 rfl ?_
        refine z_getR hM dX6_spread_21 fl_RX6_28 rfl rfl (vld_of (n := 1) rfl (by omega) (by omega)) ?_
        refine r_iload hC dX6_spread_24 rfl ?_
        refine z_iald hM dX6_spread_26 rfl (by omega) (by omega) (fun v10 h_v10 o_v10 t_v10 => ?_)
        have w_v10 := t_v10 (Or.inr (Or.inr (Or.inr ⟨rfl, by first | exact True.intro | exact (rfl : true = true)⟩)))
        clear t_v10
        subst w_v10
        refine r_if_ne (tgt := 33) hC dX6_spread_27 rfl (fun h11 => ?_) (fun h11 => ?_)
        · refine r_aload_n hC dX6_spread_33 rfl ?_
          refine z_getR hM dX6_spread_34 fl_RX6_28 rfl rfl (vld_of (n := 1) rfl (by omega) (by omega)) ?_
          refine r_iload hC dX6_spread_37 rfl ?_
          refine z_iald hM dX6_spread_39 rfl (by omega) (by omega) (fun v12 h_v12 o_v12 t_v12 => ?_)
          have w_v12 := t_v12 (Or.inr (Or.inr (Or.inr ⟨rfl, by first | exact True.intro | exact (rfl : true = true)⟩)))
          clear t_v12
          subst w_v12
          refine r_if_le (tgt := 68) hC dX6_spread_40 rfl (fun h13 => ?_) (fun h13 => ?_)
          · refine r_aload_n hC dX6_spread_68 rfl ?_
            refine z_getR hM dX6_spread_69 fl_RX6_28 rfl rfl (vld_of (n := 1) rfl (by omega) (by omega)) ?_
            refine r_iload hC dX6_spread_72 rfl ?_
            refine z_iald hM dX6_spread_74 rfl (by omega) (by omega) (fun v14 h_v14 o_v14 t_v14 => ?_)
            have w_v14 := t_v14 (Or.inr (Or.inr (Or.inr ⟨rfl, by first | exact True.intro | exact (rfl : true = true)⟩)))
            clear t_v14
            subst w_v14
            refine r_if_ge (tgt := 97) hC dX6_spread_75 rfl (fun h15 => ?_) (fun h15 => ?_)
            · refine r_iincE hC ((w1 + 1)) dX6_spread_97 rfl rfl (by omega) (by unfold inR; omega) ?_
              refine r_goto (tgt := 11) hC dX6_spread_100 rfl ?_
              exact ih11 ((w1 + 1)) (w2) (w3) (w4)  (by omega) (by omega) (by omega) (by omega) (by first | rfl | (rw [spr_stepI (by omega)]; simp only [NO]; rw [← i0_11]; split <;> omega)) (by first | rfl | (rw [spr_stepI (by omega)]; simp only [NO]; rw [← i1_11]; split <;> omega)) (by first | rfl | (rw [spr_stepI (by omega)]; simp only [NO]; rw [← i2_11]; split <;> omega)) (by omega) (by omega) (by omega)  
            · refine r_aload_n hC dX6_spread_78 rfl ?_
              refine z_getR hM dX6_spread_79 fl_RX6_28 rfl rfl (vld_of (n := 1) rfl (by omega) (by omega)) ?_
              refine r_iload hC dX6_spread_82 rfl ?_
              refine z_iald hM dX6_spread_84 rfl (by omega) (by omega) (fun v16 h_v16 o_v16 t_v16 => ?_)
              have w_v16 := t_v16 (Or.inr (Or.inr (Or.inr ⟨rfl, by first | exact True.intro | exact (rfl : true = true)⟩)))
              clear t_v16
              subst w_v16
              refine r_iload_n hC dX6_spread_85 rfl ?_
              refine r_icmp_le (tgt := 97) hC dX6_spread_86 rfl (fun h17 => ?_) (fun h17 => ?_)
              · refine r_iincE hC ((w1 + 1)) dX6_spread_97 rfl rfl (by omega) (by unfold inR; omega) ?_
                refine r_goto (tgt := 11) hC dX6_spread_100 rfl ?_
                exact ih11 ((w1 + 1)) (w2) (w3) (w4)  (by omega) (by omega) (by omega) (by omega) (by first | rfl | (rw [spr_stepI (by omega)]; simp only [NO]; rw [← i0_11]; split <;> omega)) (by first | rfl | (rw [spr_stepI (by omega)]; simp only [NO]; rw [← i1_11]; split <;> omega)) (by first | rfl | (rw [spr_stepI (by omega)]; simp only [NO]; rw [← i2_11]; split <;> omega)) (by omega) (by omega) (by omega)  
              · refine r_aload_n hC dX6_spread_89 rfl ?_
                refine z_getR hM dX6_spread_90 fl_RX6_28 rfl rfl (vld_of (n := 1) rfl (by omega) (by omega)) ?_
                refine r_iload hC dX6_spread_93 rfl ?_
                refine z_iald hM dX6_spread_95 rfl (by omega) (by omega) (fun v18 h_v18 o_v18 t_v18 => ?_)
                have w_v18 := t_v18 (Or.inr (Or.inr (Or.inr ⟨rfl, by first | exact True.intro | exact (rfl : true = true)⟩)))
                clear t_v18
                subst w_v18
                refine r_istore_n hC dX6_spread_96 rfl ?_
                refine r_iincE hC ((w1 + 1)) dX6_spread_97 rfl rfl (by omega) (by unfold inR; omega) ?_
                refine r_goto (tgt := 11) hC dX6_spread_100 rfl ?_
                exact ih11 ((w1 + 1)) ((σ 37 0 w1)) (w3) (w4)  (by omega) (by omega) (by omega) (by omega) (by first | rfl | (rw [spr_stepI (by omega)]; simp only [NO]; rw [← i0_11]; split <;> omega)) (by first | rfl | (rw [spr_stepI (by omega)]; simp only [NO]; rw [← i1_11]; split <;> omega)) (by first | rfl | (rw [spr_stepI (by omega)]; simp only [NO]; rw [← i2_11]; split <;> omega)) (by omega) (by omega) (by omega)  
          · refine r_iload_n hC dX6_spread_43 rfl ?_
            refine r_ldc hC dX6_spread_44 co_RX6_160 rfl ?_
            refine r_icmp_eq (tgt := 60) hC dX6_spread_46 rfl (fun h19 => ?_) (fun h19 => ?_)
            · refine r_aload_n hC dX6_spread_60 rfl ?_
              refine z_getR hM dX6_spread_61 fl_RX6_28 rfl rfl (vld_of (n := 1) rfl (by omega) (by omega)) ?_
              refine r_iload hC dX6_spread_64 rfl ?_
              refine z_iald hM dX6_spread_66 rfl (by omega) (by omega) (fun v20 h_v20 o_v20 t_v20 => ?_)
              have w_v20 := t_v20 (Or.inr (Or.inr (Or.inr ⟨rfl, by first | exact True.intro | exact (rfl : true = true)⟩)))
              clear t_v20
              subst w_v20
              refine r_istore_n hC dX6_spread_67 rfl ?_
              refine r_aload_n hC dX6_spread_68 rfl ?_
              refine z_getR hM dX6_spread_69 fl_RX6_28 rfl rfl (vld_of (n := 1) rfl (by omega) (by omega)) ?_
              refine r_iload hC dX6_spread_72 rfl ?_
              refine z_iald hM dX6_spread_74 rfl (by omega) (by omega) (fun v21 h_v21 o_v21 t_v21 => ?_)
              have w_v21 := t_v21 (Or.inr (Or.inr (Or.inr ⟨rfl, by first | exact True.intro | exact (rfl : true = true)⟩)))
              clear t_v21
              subst w_v21
              refine r_if_ge (tgt := 97) hC dX6_spread_75 rfl (fun h22 => ?_) (fun h22 => by omega)
              refine r_iincE hC ((w1 + 1)) dX6_spread_97 rfl rfl (by omega) (by unfold inR; omega) ?_
              refine r_goto (tgt := 11) hC dX6_spread_100 rfl ?_
              exact ih11 ((w1 + 1)) (w2) ((σ 37 0 w1)) (w4)  (by omega) (by omega) (by omega) (by omega) (by first | rfl | (rw [spr_stepI (by omega)]; simp only [NO]; rw [← i0_11]; split <;> omega)) (by first | rfl | (rw [spr_stepI (by omega)]; simp only [NO]; rw [← i1_11]; split <;> omega)) (by first | rfl | (rw [spr_stepI (by omega)]; simp only [NO]; rw [← i2_11]; split <;> omega)) (by omega) (by omega) (by omega)  
            · refine r_aload_n hC dX6_spread_49 rfl ?_
              refine z_getR hM dX6_spread_50 fl_RX6_28 rfl rfl (vld_of (n := 1) rfl (by omega) (by omega)) ?_
              refine r_iload hC dX6_spread_53 rfl ?_
              refine z_iald hM dX6_spread_55 rfl (by omega) (by omega) (fun v23 h_v23 o_v23 t_v23 => ?_)
              have w_v23 := t_v23 (Or.inr (Or.inr (Or.inr ⟨rfl, by first | exact True.intro | exact (rfl : true = true)⟩)))
              clear t_v23
              subst w_v23
              refine r_iload_n hC dX6_spread_56 rfl ?_
              refine r_icmp_ge (tgt := 68) hC dX6_spread_57 rfl (fun h24 => ?_) (fun h24 => ?_)
              · refine r_aload_n hC dX6_spread_68 rfl ?_
                refine z_getR hM dX6_spread_69 fl_RX6_28 rfl rfl (vld_of (n := 1) rfl (by omega) (by omega)) ?_
                refine r_iload hC dX6_spread_72 rfl ?_
                refine z_iald hM dX6_spread_74 rfl (by omega) (by omega) (fun v25 h_v25 o_v25 t_v25 => ?_)
                have w_v25 := t_v25 (Or.inr (Or.inr (Or.inr ⟨rfl, by first | exact True.intro | exact (rfl : true = true)⟩)))
                clear t_v25
                subst w_v25
                refine r_if_ge (tgt := 97) hC dX6_spread_75 rfl (fun h26 => ?_) (fun h26 => by omega)
                refine r_iincE hC ((w1 + 1)) dX6_spread_97 rfl rfl (by omega) (by unfold inR; omega) ?_
                refine r_goto (tgt := 11) hC dX6_spread_100 rfl ?_
                exact ih11 ((w1 + 1)) (w2) (w3) (w4)  (by omega) (by omega) (by omega) (by omega) (by first | rfl | (rw [spr_stepI (by omega)]; simp only [NO]; rw [← i0_11]; split <;> omega)) (by first | rfl | (rw [spr_stepI (by omega)]; simp only [NO]; rw [← i1_11]; split <;> omega)) (by first | rfl | (rw [spr_stepI (by omega)]; simp only [NO]; rw [← i2_11]; split <;> omega)) (by omega) (by omega) (by omega)  
              · refine r_aload_n hC dX6_spread_60 rfl ?_
                refine z_getR hM dX6_spread_61 fl_RX6_28 rfl rfl (vld_of (n := 1) rfl (by omega) (by omega)) ?_
                refine r_iload hC dX6_spread_64 rfl ?_
                refine z_iald hM dX6_spread_66 rfl (by omega) (by omega) (fun v27 h_v27 o_v27 t_v27 => ?_)
                have w_v27 := t_v27 (Or.inr (Or.inr (Or.inr ⟨rfl, by first | exact True.intro | exact (rfl : true = true)⟩)))
                clear t_v27
                subst w_v27
                refine r_istore_n hC dX6_spread_67 rfl ?_
                refine r_aload_n hC dX6_spread_68 rfl ?_
                refine z_getR hM dX6_spread_69 fl_RX6_28 rfl rfl (vld_of (n := 1) rfl (by omega) (by omega)) ?_
                refine r_iload hC dX6_spread_72 rfl ?_
                refine z_iald hM dX6_spread_74 rfl (by omega) (by omega) (fun v28 h_v28 o_v28 t_v28 => ?_)
                have w_v28 := t_v28 (Or.inr (Or.inr (Or.inr ⟨rfl, by first | exact True.intro | exact (rfl : true = true)⟩)))
                clear t_v28
                subst w_v28
                refine r_if_ge (tgt := 97) hC dX6_spread_75 rfl (fun h29 => ?_) (fun h29 => by omega)
                refine r_iincE hC ((w1 + 1)) dX6_spread_97 rfl rfl (by omega) (by unfold inR; omega) ?_
                refine r_goto (tgt := 11) hC dX6_spread_100 rfl ?_
                exact ih11 ((w1 + 1)) (w2) ((σ 37 0 w1)) (w4)  (by omega) (by omega) (by omega) (by omega) (by first | rfl | (rw [spr_stepI (by omega)]; simp only [NO]; rw [← i0_11]; split <;> omega)) (by first | rfl | (rw [spr_stepI (by omega)]; simp only [NO]; rw [← i1_11]; split <;> omega)) (by first | rfl | (rw [spr_stepI (by omega)]; simp only [NO]; rw [← i2_11]; split <;> omega)) (by omega) (by omega) (by omega)  
        · refine r_iincE hC ((w4 + 1)) dX6_spread_30 rfl rfl (by omega) (by unfold inR; omega) ?_
          refine r_aload_n hC dX6_spread_33 rfl ?_
          refine z_getR hM dX6_spread_34 fl_RX6_28 rfl rfl (vld_of (n := 1) rfl (by omega) (by omega)) ?_
          refine r_iload hC dX6_spread_37 rfl ?_
          refine z_iald hM dX6_spread_39 rfl (by omega) (by omega) (fun v30 h_v30 o_v30 t_v30 => ?_)
          have w_v30 := t_v30 (Or.inr (Or.inr (Or.inr ⟨rfl, by first | exact True.intro | exact (rfl : true = true)⟩)))
          clear t_v30
          subst w_v30
          refine r_if_le (tgt := 68) hC dX6_spread_40 rfl (fun h31 => ?_) (fun h31 => by omega)
          refine r_aload_n hC dX6_spread_68 rfl ?_
          refine z_getR hM dX6_spread_69 fl_RX6_28 rfl rfl (vld_of (n := 1) rfl (by omega) (by omega)) ?_
          refine r_iload hC dX6_spread_72 rfl ?_
          refine z_iald hM dX6_spread_74 rfl (by omega) (by omega) (fun v32 h_v32 o_v32 t_v32 => ?_)
          have w_v32 := t_v32 (Or.inr (Or.inr (Or.inr ⟨rfl, by first | exact True.intro | exact (rfl : true = true)⟩)))
          clear t_v32
          subst w_v32
          refine r_if_ge (tgt := 97) hC dX6_spread_75 rfl (fun h33 => ?_) (fun h33 => by omega)
          refine r_iincE hC ((w1 + 1)) dX6_spread_97 rfl rfl (by omega) (by unfold inR; omega) ?_
          refine r_goto (tgt := 11) hC dX6_spread_100 rfl ?_
          exact ih11 ((w1 + 1)) (w2) (w3) ((w4 + 1))  (by omega) (by omega) (by omega) (by omega) (by first | rfl | (rw [spr_stepI (by omega)]; simp only [NO]; rw [← i0_11]; split <;> omega)) (by first | rfl | (rw [spr_stepI (by omega)]; simp only [NO]; rw [← i1_11]; split <;> omega)) (by first | rfl | (rw [spr_stepI (by omega)]; simp only [NO]; rw [← i2_11]; split <;> omega)) (by omega) (by omega) (by omega)  
  exact L11 244 (0) ((-2147483648)) ((-2147483648)) (0)  (by omega) (by omega) (by omega) (by omega) (by first | rfl | (rw [spr_stepI (by omega)]; simp only [NO]; rw [← i0_11]; split <;> omega)) (by first | rfl | (rw [spr_stepI (by omega)]; simp only [NO]; rw [← i1_11]; split <;> omega)) (by first | rfl | (rw [spr_stepI (by omega)]; simp only [NO]; rw [← i2_11]; split <;> omega)) (by omega) (by omega) (by omega)  
theorem y_steps {eb : Bool} {n : Nat} {d : Nat} {P : Option Vl → Mm → Prop} {σ : Mm} {t0 t1 t2 t3 t4 : Int} (qg0 : σ 30 0 8 = (n : Int)) (qg1 : σ 38 0 0 = t0) (qg2 : σ 38 0 1 = t1) (qg3 : σ 38 0 2 = t2) (qg4 : σ 38 0 3 = t3) (qg5 : σ 38 0 4 = t4) (hn1 : 1 ≤ n) (hn : n ≤ 242)  (k : ∀ ρ : Mm, Gx (fun c x y => c = 38 ∧ x = 0) σ ρ → ρ 38 0 0 = ((stp (σ 37 0) n).1) → ρ 38 0 1 = ((stp (σ 37 0) n).2.1) → ρ 38 0 2 = (σ 37 0 0) → ρ 38 0 3 = (σ 37 0 ((n : Int) - 1)) → ρ 38 0 4 = ((stp (σ 37 0) n).2.2.1) → P none ρ) : WT (true, eb, true) (d + 1) 170 [vR 30 0] σ P := by
  refine WT_in fun K hK => ?_
  have hK : StpY (true, eb, true) cX6_steps RX6 (none) (WT (true, eb, true) (d + 0)) P K := hK
  have hM := hK.1
  have hC := hK.1.1
  show K 0 [some (vR 30 0), none, none, none, none, none] [] σ
  refine r_iconst hC dX6_steps_0 rfl ?_
  refine r_istore_n hC dX6_steps_1 rfl ?_
  refine r_iconst hC dX6_steps_2 rfl ?_
  refine r_istore_n hC dX6_steps_3 rfl ?_
  refine r_iconst hC dX6_steps_4 rfl ?_
  refine r_istore_n hC dX6_steps_5 rfl ?_
  show K _ [_, _, _, _, _, _] _ _
  refine r_iconst hC dX6_steps_6 rfl ?_
  refine r_istore hC dX6_steps_7 rfl ?_
  refine r_iconst hC dX6_steps_9 rfl ?_
  refine r_istore hC dX6_steps_10 rfl ?_
  have L12 : ∀ (n12 : Nat) (w1 w2 w3 w4 w5 : Int), 1 ≤ w1 ∧ w1 ≤ 242 → 1 ≤ w2 ∧ w2 ≤ 242 → 1 ≤ w3 ∧ w3 ≤ 242 → 0 ≤ w4 ∧ w4 ≤ 242 → 0 ≤ w5 ∧ w5 ≤ 242 → ((w5) = (stp (σ 37 0) ((w3)).toNat).1) → ((w4) = (stp (σ 37 0) ((w3)).toNat).2.1) → ((w1) = (stp (σ 37 0) ((w3)).toNat).2.2.2) → ((w2) = (stp (σ 37 0) ((w3)).toNat).2.2.1) → ((w5) ≤ (w3)) → ((w4) ≤ (w3)) → ((w1) ≤ (w3)) → ((w2) ≤ (w3)) → ((w3) ≤ (n : Int)) → 242 - w3 < (n12 : Int) → K 12 [some (vR 30 0), some (vI w5), some (vI w4), some (vI w1), some (vI w2), some (vI w3)] [] σ := by
    intro n12
    induction n12 with
    | zero => intro w1 w2 w3 w4 w5  f_w1 f_w2 f_w3 f_w4 f_w5 i0_12 i1_12 i2_12 i3_12 i4_12 i5_12 i6_12 i7_12 i8_12 hm  ; omega
    | succ n12 ih12 =>
      intro w1 w2 w3 w4 w5  f_w1 f_w2 f_w3 f_w4 f_w5 i0_12 i1_12 i2_12 i3_12 i4_12 i5_12 i6_12 i7_12 i8_12 hm12  
      refine r_iload hC dX6_steps_12 rfl ?_
      refine r_aload_n hC dX6_steps_14 rfl ?_
      refine z_getI (jz := 8) hM dX6_steps_15 fl_RX6_105 rfl rfl rfl (fun v6 h_v6 o_v6 t_v6 => ?_)
      have e_v6 : (n : Int) = v6 := ((t_v6 ((by simp [Tk, Tb, DL, DR]))).trans qg0).symm
      clear t_v6
      subst e_v6
      refine r_icmp_ge (tgt := 117) hC dX6_steps_18 rfl (fun h7 => ?_) (fun h7 => ?_)
      · refine r_aload_n hC dX6_steps_117 rfl ?_
        refine z_getR hM dX6_steps_118 fl_RX6_31 rfl rfl (vld_of (n := 1) rfl (by omega) (by omega)) ?_
        refine r_iconst hC dX6_steps_121 rfl ?_
        refine r_iload_n hC dX6_steps_122 rfl ?_
        refine z_iastG hM dX6_steps_123 rfl (by omega) (by omega) (by simp [Tl, DL, DF]) (by first | trivial | (simp only [Okv]; omega) | (simp [Okv]; try omega)) (fun ρ8 a_ρ8 q_ρ8 => ?_)
        refine r_aload_n hC dX6_steps_124 rfl ?_
        refine z_getR hM dX6_steps_125 fl_RX6_31 rfl rfl (vld_of (n := 1) rfl (by omega) (by omega)) ?_
        refine r_iconst hC dX6_steps_128 rfl ?_
        refine r_iload_n hC dX6_steps_129 rfl ?_
        refine z_iastG hM dX6_steps_130 rfl (by omega) (by omega) (by simp [Tl, DL, DF]) (by first | trivial | (simp only [Okv]; omega) | (simp [Okv]; try omega)) (fun ρ9 a_ρ9 q_ρ9 => ?_)
        refine r_aload_n hC dX6_steps_131 rfl ?_
        refine z_getR hM dX6_steps_132 fl_RX6_31 rfl rfl (vld_of (n := 1) rfl (by omega) (by omega)) ?_
        refine r_iconst hC dX6_steps_135 rfl ?_
        refine r_aload_n hC dX6_steps_136 rfl ?_
        refine z_getR hM dX6_steps_137 fl_RX6_28 rfl rfl (vld_of (n := 1) rfl (by omega) (by omega)) ?_
        refine r_iconst hC dX6_steps_140 rfl ?_
        refine z_iald hM dX6_steps_141 rfl (by omega) (by omega) (fun v10 h_v10 o_v10 t_v10 => ?_)
        have w_v10 := t_v10 (Or.inr (Or.inr (Or.inr ⟨rfl, by first | exact True.intro | exact (rfl : true = true)⟩)))
        clear t_v10
        subst w_v10
        refine z_iastG hM dX6_steps_142 rfl (by omega) (by omega) (by simp [Tl, DL, DF]) (by first | trivial | (simp only [Okv]; omega) | (simp [Okv]; try omega)) (fun ρ11 a_ρ11 q_ρ11 => ?_)
        refine r_aload_n hC dX6_steps_143 rfl ?_
        refine z_getR hM dX6_steps_144 fl_RX6_31 rfl rfl (vld_of (n := 1) rfl (by omega) (by omega)) ?_
        refine r_iconst hC dX6_steps_147 rfl ?_
        refine r_aload_n hC dX6_steps_148 rfl ?_
        refine z_getR hM dX6_steps_149 fl_RX6_28 rfl rfl (vld_of (n := 1) rfl (by omega) (by omega)) ?_
        refine r_aload_n hC dX6_steps_152 rfl ?_
        refine z_getI (jz := 8) hM dX6_steps_153 fl_RX6_105 rfl rfl rfl (fun v12 h_v12 o_v12 t_v12 => ?_)
        have e_v12 : (n : Int) = v12 := ((t_v12 ((by simp [Tk, Tb, DL, DR]))).trans ((a_ρ11 _ _ _ (by first | exact xs_ (by decide) | exact xc_ (by decide) | omega)).trans ((a_ρ9 _ _ _ (by first | exact xs_ (by decide) | exact xc_ (by decide) | omega)).trans ((a_ρ8 _ _ _ (by first | exact xs_ (by decide) | exact xc_ (by decide) | omega)).trans qg0)))).symm
        clear t_v12
        subst e_v12
        refine r_iconst hC dX6_steps_156 rfl ?_
        refine r_isubE hC (((n : Int) - 1)) dX6_steps_157 (by omega) (by unfold inR; omega) ?_
        refine z_iald hM dX6_steps_158 rfl (by omega) (by omega) (fun v13 h_v13 o_v13 t_v13 => ?_)
        have w_v13 := t_v13 (Or.inr (Or.inr (Or.inr ⟨rfl, by first | exact True.intro | exact (rfl : true = true)⟩)))
        clear t_v13
        subst w_v13
        refine z_iastG hM dX6_steps_159 rfl (by omega) (by omega) (by simp [Tl, DL, DF]) (by first | trivial | (simp only [Okv]; omega) | (simp [Okv]; try omega)) (fun ρ14 a_ρ14 q_ρ14 => ?_)
        refine r_aload_n hC dX6_steps_160 rfl ?_
        refine z_getR hM dX6_steps_161 fl_RX6_31 rfl rfl (vld_of (n := 1) rfl (by omega) (by omega)) ?_
        refine r_iconst hC dX6_steps_164 rfl ?_
        refine r_iload hC dX6_steps_165 rfl ?_
        refine z_iastG hM dX6_steps_167 rfl (by omega) (by omega) (by simp [Tl, DL, DF]) (by first | trivial | (simp only [Okv]; omega) | (simp [Okv]; try omega)) (fun ρ15 a_ρ15 q_ρ15 => ?_)
        refine y_vret hK rfl dX6_steps_168 ?_
        have hs0 : w5 = (stp (σ 37 0) n).1 := at_nat (n := n) (f := fun m => (stp (σ 37 0) m).1) i0_12 (by omega)
        have hs1 : w4 = (stp (σ 37 0) n).2.1 := at_nat (n := n) (f := fun m => (stp (σ 37 0) m).2.1) i1_12 (by omega)
        have hs2 : w1 = (stp (σ 37 0) n).2.2.2 := at_nat (n := n) (f := fun m => (stp (σ 37 0) m).2.2.2) i2_12 (by omega)
        have hs3 : w2 = (stp (σ 37 0) n).2.2.1 := at_nat (n := n) (f := fun m => (stp (σ 37 0) m).2.2.1) i3_12 (by omega)
        exact k _ ((((((Gx.rf).al a_ρ8 (by first | (simp; done) | omega | (simp; omega))).al a_ρ9 (by first | (simp; done) | omega | (simp; omega))).al a_ρ11 (by first | (simp; done) | omega | (simp; omega))).al a_ρ14 (by first | (simp; done) | omega | (simp; omega))).al a_ρ15 (by first | (simp; done) | omega | (simp; omega))) (by have hq := ((a_ρ15 _ _ _ (by first | exact xs_ (by decide) | exact xc_ (by decide) | omega)).trans ((a_ρ14 _ _ _ (by first | exact xs_ (by decide) | exact xc_ (by decide) | omega)).trans ((a_ρ11 _ _ _ (by first | exact xs_ (by decide) | exact xc_ (by decide) | omega)).trans ((a_ρ9 _ _ _ (by first | exact xs_ (by decide) | exact xc_ (by decide) | omega)).trans q_ρ8)))); exact hq.trans hs0) (by have hq := ((a_ρ15 _ _ _ (by first | exact xs_ (by decide) | exact xc_ (by decide) | omega)).trans ((a_ρ14 _ _ _ (by first | exact xs_ (by decide) | exact xc_ (by decide) | omega)).trans ((a_ρ11 _ _ _ (by first | exact xs_ (by decide) | exact xc_ (by decide) | omega)).trans q_ρ9))); exact hq.trans hs1) (by have hq := ((a_ρ15 _ _ _ (by first | exact xs_ (by decide) | exact xc_ (by decide) | omega)).trans ((a_ρ14 _ _ _ (by first | exact xs_ (by decide) | exact xc_ (by decide) | omega)).trans q_ρ11)); first | exact hq | exact hq.trans (a_ρ8 _ _ _ (by first | exact xs_ (by decide) | exact xc_ (by decide) | omega)) | exact hq.trans ((a_ρ9 _ _ _ (by first | exact xs_ (by decide) | exact xc_ (by decide) | omega)).trans (a_ρ8 _ _ _ (by first | exact xs_ (by decide) | exact xc_ (by decide) | omega))) | exact hq.trans ((a_ρ11 _ _ _ (by first | exact xs_ (by decide) | exact xc_ (by decide) | omega)).trans ((a_ρ9 _ _ _ (by first | exact xs_ (by decide) | exact xc_ (by decide) | omega)).trans (a_ρ8 _ _ _ (by first | exact xs_ (by decide) | exact xc_ (by decide) | omega)))) | exact hq.trans ((a_ρ14 _ _ _ (by first | exact xs_ (by decide) | exact xc_ (by decide) | omega)).trans ((a_ρ11 _ _ _ (by first | exact xs_ (by decide) | exact xc_ (by decide) | omega)).trans ((a_ρ9 _ _ _ (by first | exact xs_ (by decide) | exact xc_ (by decide) | omega)).trans (a_ρ8 _ _ _ (by first | exact xs_ (by decide) | exact xc_ (by decide) | omega))))) | exact hq.trans ((a_ρ15 _ _ _ (by first | exact xs_ (by decide) | exact xc_ (by decide) | omega)).trans ((a_ρ14 _ _ _ (by first | exact xs_ (by decide) | exact xc_ (by decide) | omega)).trans ((a_ρ11 _ _ _ (by first | exact xs_ (by decide) | exact xc_ (by decide) | omega)).trans ((a_ρ9 _ _ _ (by first | exact xs_ (by decide) | exact xc_ (by decide) | omega)).trans (a_ρ8 _ _ _ (by first | exact xs_ (by decide) | exact xc_ (by decide) | omega))))))) (by have hq := ((a_ρ15 _ _ _ (by first | exact xs_ (by decide) | exact xc_ (by decide) | omega)).trans q_ρ14); first | exact hq | exact hq.trans (a_ρ8 _ _ _ (by first | exact xs_ (by decide) | exact xc_ (by decide) | omega)) | exact hq.trans ((a_ρ9 _ _ _ (by first | exact xs_ (by decide) | exact xc_ (by decide) | omega)).trans (a_ρ8 _ _ _ (by first | exact xs_ (by decide) | exact xc_ (by decide) | omega))) | exact hq.trans ((a_ρ11 _ _ _ (by first | exact xs_ (by decide) | exact xc_ (by decide) | omega)).trans ((a_ρ9 _ _ _ (by first | exact xs_ (by decide) | exact xc_ (by decide) | omega)).trans (a_ρ8 _ _ _ (by first | exact xs_ (by decide) | exact xc_ (by decide) | omega)))) | exact hq.trans ((a_ρ14 _ _ _ (by first | exact xs_ (by decide) | exact xc_ (by decide) | omega)).trans ((a_ρ11 _ _ _ (by first | exact xs_ (by decide) | exact xc_ (by decide) | omega)).trans ((a_ρ9 _ _ _ (by first | exact xs_ (by decide) | exact xc_ (by decide) | omega)).trans (a_ρ8 _ _ _ (by first | exact xs_ (by decide) | exact xc_ (by decide) | omega))))) | exact hq.trans ((a_ρ15 _ _ _ (by first | exact xs_ (by decide) | exact xc_ (by decide) | omega)).trans ((a_ρ14 _ _ _ (by first | exact xs_ (by decide) | exact xc_ (by decide) | omega)).trans ((a_ρ11 _ _ _ (by first | exact xs_ (by decide) | exact xc_ (by decide) | omega)).trans ((a_ρ9 _ _ _ (by first | exact xs_ (by decide) | exact xc_ (by decide) | omega)).trans (a_ρ8 _ _ _ (by first | exact xs_ (by decide) | exact xc_ (by decide) | omega))))))) (by have hq := q_ρ15; exact hq.trans hs3)
      · refine r_iload_n hC dX6_steps_21 rfl ?_
        refine r_aload_n hC dX6_steps_22 rfl ?_
        refine z_getR hM dX6_steps_23 fl_RX6_28 rfl rfl (vld_of (n := 1) rfl (by omega) (by omega)) ?_
        refine r_iload hC dX6_steps_26 rfl ?_
        refine z_iald hM dX6_steps_28 rfl (by omega) (by omega) (fun v16 h_v16 o_v16 t_v16 => ?_)
        have w_v16 := t_v16 (Or.inr (Or.inr (Or.inr ⟨rfl, by first | exact True.intro | exact (rfl : true = true)⟩)))
        clear t_v16
        subst w_v16
        refine r_aload_n hC dX6_steps_29 rfl ?_
        refine z_getR hM dX6_steps_30 fl_RX6_28 rfl rfl (vld_of (n := 1) rfl (by omega) (by omega)) ?_
        refine r_iload hC dX6_steps_33 rfl ?_
        refine r_iconst hC dX6_steps_35 rfl ?_
        refine r_isubE hC ((w3 - 1)) dX6_steps_36 (by omega) (by unfold inR; omega) ?_
        refine z_iald hM dX6_steps_37 rfl (by omega) (by omega) (fun v17 h_v17 o_v17 t_v17 => ?_)
        have w_v17 := t_v17 (Or.inr (Or.inr (Or.inr ⟨rfl, by first | exact True.intro | exact (rfl : true = true)⟩)))
        clear t_v17
        subst w_v17
        refine r_icmp_ge (tgt := 45) hC dX6_steps_38 rfl (fun h18 => ?_) (fun h18 => ?_)
        · refine r_iconst hC dX6_steps_45 rfl ?_
          refine r_iaddE hC (w5) dX6_steps_46 (by omega) (by unfold inR; omega) ?_
          refine r_istore_n hC dX6_steps_47 rfl ?_
          refine r_iload_n hC dX6_steps_48 rfl ?_
          refine r_aload_n hC dX6_steps_49 rfl ?_
          refine z_getR hM dX6_steps_50 fl_RX6_28 rfl rfl (vld_of (n := 1) rfl (by omega) (by omega)) ?_
          refine r_iload hC dX6_steps_53 rfl ?_
          refine z_iald hM dX6_steps_55 rfl (by omega) (by omega) (fun v19 h_v19 o_v19 t_v19 => ?_)
          have w_v19 := t_v19 (Or.inr (Or.inr (Or.inr ⟨rfl, by first | exact True.intro | exact (rfl : true = true)⟩)))
          clear t_v19
          subst w_v19
          refine r_aload_n hC dX6_steps_56 rfl ?_
          refine z_getR hM dX6_steps_57 fl_RX6_28 rfl rfl (vld_of (n := 1) rfl (by omega) (by omega)) ?_
          refine r_iload hC dX6_steps_60 rfl ?_
          refine r_iconst hC dX6_steps_62 rfl ?_
          refine r_isubE hC ((w3 - 1)) dX6_steps_63 (by omega) (by unfold inR; omega) ?_
          refine z_iald hM dX6_steps_64 rfl (by omega) (by omega) (fun v20 h_v20 o_v20 t_v20 => ?_)
          have w_v20 := t_v20 (Or.inr (Or.inr (Or.inr ⟨rfl, by first | exact True.intro | exact (rfl : true = true)⟩)))
          clear t_v20
          subst w_v20
          refine r_icmp_le (tgt := 72) hC dX6_steps_65 rfl (fun h21 => ?_) (fun h21 => ?_)
          · refine r_iconst hC dX6_steps_72 rfl ?_
            refine r_iaddE hC (w4) dX6_steps_73 (by omega) (by unfold inR; omega) ?_
            refine r_istore_n hC dX6_steps_74 rfl ?_
            refine r_aload_n hC dX6_steps_75 rfl ?_
            refine z_getR hM dX6_steps_76 fl_RX6_28 rfl rfl (vld_of (n := 1) rfl (by omega) (by omega)) ?_
            refine r_iload hC dX6_steps_79 rfl ?_
            refine z_iald hM dX6_steps_81 rfl (by omega) (by omega) (fun v22 h_v22 o_v22 t_v22 => ?_)
            have w_v22 := t_v22 (Or.inr (Or.inr (Or.inr ⟨rfl, by first | exact True.intro | exact (rfl : true = true)⟩)))
            clear t_v22
            subst w_v22
            refine r_aload_n hC dX6_steps_82 rfl ?_
            refine z_getR hM dX6_steps_83 fl_RX6_28 rfl rfl (vld_of (n := 1) rfl (by omega) (by omega)) ?_
            refine r_iload hC dX6_steps_86 rfl ?_
            refine r_iconst hC dX6_steps_88 rfl ?_
            refine r_isubE hC ((w3 - 1)) dX6_steps_89 (by omega) (by unfold inR; omega) ?_
            refine z_iald hM dX6_steps_90 rfl (by omega) (by omega) (fun v23 h_v23 o_v23 t_v23 => ?_)
            have w_v23 := t_v23 (Or.inr (Or.inr (Or.inr ⟨rfl, by first | exact True.intro | exact (rfl : true = true)⟩)))
            clear t_v23
            subst w_v23
            refine r_icmp_ge (tgt := 98) hC dX6_steps_91 rfl (fun h24 => ?_) (fun h24 => ?_)
            · refine r_iload_n hC dX6_steps_98 rfl ?_
              refine r_iconst hC dX6_steps_99 rfl ?_
              refine r_iaddE hC ((w1 + 1)) dX6_steps_100 (by omega) (by unfold inR; omega) ?_
              refine r_istore_n hC dX6_steps_101 rfl ?_
              refine r_iload_n hC dX6_steps_102 rfl ?_
              refine r_iload hC dX6_steps_103 rfl ?_
              refine r_icmp_le (tgt := 111) hC dX6_steps_105 rfl (fun h25 => ?_) (fun h25 => ?_)
              · refine r_iincE hC ((w3 + 1)) dX6_steps_111 rfl rfl (by omega) (by unfold inR; omega) ?_
                refine r_goto (tgt := 12) hC dX6_steps_114 rfl ?_
                exact ih12 ((w1 + 1)) (w2) ((w3 + 1)) (w4) (w5)  (by omega) (by omega) (by omega) (by omega) (by omega) (by first | rfl | (rw [stp_stepI (by omega)]; simp only []; rw [← i0_12]; split <;> omega)) (by first | rfl | (rw [stp_stepI (by omega)]; simp only []; rw [← i1_12]; split <;> omega)) (by first | rfl | (rw [stp_stepI (by omega)]; simp only []; rw [← i2_12]; split <;> omega)) (by first | rfl | (rw [stp_stepI (by omega)]; simp only []; rw [← i2_12, ← i3_12]; split <;> omega)) (by omega) (by omega) (by omega) (by omega) (by omega) (by omega)  
              · refine r_iload_n hC dX6_steps_108 rfl ?_
                refine r_istore hC dX6_steps_109 rfl ?_
                refine r_iincE hC ((w3 + 1)) dX6_steps_111 rfl rfl (by omega) (by unfold inR; omega) ?_
                refine r_goto (tgt := 12) hC dX6_steps_114 rfl ?_
                exact ih12 ((w1 + 1)) ((w1 + 1)) ((w3 + 1)) (w4) (w5)  (by omega) (by omega) (by omega) (by omega) (by omega) (by first | rfl | (rw [stp_stepI (by omega)]; simp only []; rw [← i0_12]; split <;> omega)) (by first | rfl | (rw [stp_stepI (by omega)]; simp only []; rw [← i1_12]; split <;> omega)) (by first | rfl | (rw [stp_stepI (by omega)]; simp only []; rw [← i2_12]; split <;> omega)) (by first | rfl | (rw [stp_stepI (by omega)]; simp only []; rw [← i2_12, ← i3_12]; split <;> omega)) (by omega) (by omega) (by omega) (by omega) (by omega) (by omega)  
            · refine r_iconst hC dX6_steps_94 rfl ?_
              refine r_goto (tgt := 101) hC dX6_steps_95 rfl ?_
              refine r_istore_n hC dX6_steps_101 rfl ?_
              refine r_iload_n hC dX6_steps_102 rfl ?_
              refine r_iload hC dX6_steps_103 rfl ?_
              refine r_icmp_le (tgt := 111) hC dX6_steps_105 rfl (fun h26 => ?_) (fun h26 => by omega)
              refine r_iincE hC ((w3 + 1)) dX6_steps_111 rfl rfl (by omega) (by unfold inR; omega) ?_
              refine r_goto (tgt := 12) hC dX6_steps_114 rfl ?_
              exact ih12 (1) (w2) ((w3 + 1)) (w4) (w5)  (by omega) (by omega) (by omega) (by omega) (by omega) (by first | rfl | (rw [stp_stepI (by omega)]; simp only []; rw [← i0_12]; split <;> omega)) (by first | rfl | (rw [stp_stepI (by omega)]; simp only []; rw [← i1_12]; split <;> omega)) (by first | rfl | (rw [stp_stepI (by omega)]; simp only []; rw [← i2_12]; split <;> omega)) (by first | rfl | (rw [stp_stepI (by omega)]; simp only []; rw [← i2_12, ← i3_12]; split <;> omega)) (by omega) (by omega) (by omega) (by omega) (by omega) (by omega)  
          · refine r_iconst hC dX6_steps_68 rfl ?_
            refine r_goto (tgt := 73) hC dX6_steps_69 rfl ?_
            refine r_iaddE hC ((w4 + 1)) dX6_steps_73 (by omega) (by unfold inR; omega) ?_
            refine r_istore_n hC dX6_steps_74 rfl ?_
            refine r_aload_n hC dX6_steps_75 rfl ?_
            refine z_getR hM dX6_steps_76 fl_RX6_28 rfl rfl (vld_of (n := 1) rfl (by omega) (by omega)) ?_
            refine r_iload hC dX6_steps_79 rfl ?_
            refine z_iald hM dX6_steps_81 rfl (by omega) (by omega) (fun v27 h_v27 o_v27 t_v27 => ?_)
            have w_v27 := t_v27 (Or.inr (Or.inr (Or.inr ⟨rfl, by first | exact True.intro | exact (rfl : true = true)⟩)))
            clear t_v27
            subst w_v27
            refine r_aload_n hC dX6_steps_82 rfl ?_
            refine z_getR hM dX6_steps_83 fl_RX6_28 rfl rfl (vld_of (n := 1) rfl (by omega) (by omega)) ?_
            refine r_iload hC dX6_steps_86 rfl ?_
            refine r_iconst hC dX6_steps_88 rfl ?_
            refine r_isubE hC ((w3 - 1)) dX6_steps_89 (by omega) (by unfold inR; omega) ?_
            refine z_iald hM dX6_steps_90 rfl (by omega) (by omega) (fun v28 h_v28 o_v28 t_v28 => ?_)
            have w_v28 := t_v28 (Or.inr (Or.inr (Or.inr ⟨rfl, by first | exact True.intro | exact (rfl : true = true)⟩)))
            clear t_v28
            subst w_v28
            refine r_icmp_ge (tgt := 98) hC dX6_steps_91 rfl (fun h29 => ?_) (fun h29 => ?_)
            · refine r_iload_n hC dX6_steps_98 rfl ?_
              refine r_iconst hC dX6_steps_99 rfl ?_
              refine r_iaddE hC ((w1 + 1)) dX6_steps_100 (by omega) (by unfold inR; omega) ?_
              refine r_istore_n hC dX6_steps_101 rfl ?_
              refine r_iload_n hC dX6_steps_102 rfl ?_
              refine r_iload hC dX6_steps_103 rfl ?_
              refine r_icmp_le (tgt := 111) hC dX6_steps_105 rfl (fun h30 => ?_) (fun h30 => ?_)
              · refine r_iincE hC ((w3 + 1)) dX6_steps_111 rfl rfl (by omega) (by unfold inR; omega) ?_
                refine r_goto (tgt := 12) hC dX6_steps_114 rfl ?_
                exact ih12 ((w1 + 1)) (w2) ((w3 + 1)) ((w4 + 1)) (w5)  (by omega) (by omega) (by omega) (by omega) (by omega) (by first | rfl | (rw [stp_stepI (by omega)]; simp only []; rw [← i0_12]; split <;> omega)) (by first | rfl | (rw [stp_stepI (by omega)]; simp only []; rw [← i1_12]; split <;> omega)) (by first | rfl | (rw [stp_stepI (by omega)]; simp only []; rw [← i2_12]; split <;> omega)) (by first | rfl | (rw [stp_stepI (by omega)]; simp only []; rw [← i2_12, ← i3_12]; split <;> omega)) (by omega) (by omega) (by omega) (by omega) (by omega) (by omega)  
              · refine r_iload_n hC dX6_steps_108 rfl ?_
                refine r_istore hC dX6_steps_109 rfl ?_
                refine r_iincE hC ((w3 + 1)) dX6_steps_111 rfl rfl (by omega) (by unfold inR; omega) ?_
                refine r_goto (tgt := 12) hC dX6_steps_114 rfl ?_
                exact ih12 ((w1 + 1)) ((w1 + 1)) ((w3 + 1)) ((w4 + 1)) (w5)  (by omega) (by omega) (by omega) (by omega) (by omega) (by first | rfl | (rw [stp_stepI (by omega)]; simp only []; rw [← i0_12]; split <;> omega)) (by first | rfl | (rw [stp_stepI (by omega)]; simp only []; rw [← i1_12]; split <;> omega)) (by first | rfl | (rw [stp_stepI (by omega)]; simp only []; rw [← i2_12]; split <;> omega)) (by first | rfl | (rw [stp_stepI (by omega)]; simp only []; rw [← i2_12, ← i3_12]; split <;> omega)) (by omega) (by omega) (by omega) (by omega) (by omega) (by omega)  
            · refine r_iconst hC dX6_steps_94 rfl ?_
              refine r_goto (tgt := 101) hC dX6_steps_95 rfl ?_
              refine r_istore_n hC dX6_steps_101 rfl ?_
              refine r_iload_n hC dX6_steps_102 rfl ?_
              refine r_iload hC dX6_steps_103 rfl ?_
              refine r_icmp_le (tgt := 111) hC dX6_steps_105 rfl (fun h31 => ?_) (fun h31 => by omega)
              refine r_iincE hC ((w3 + 1)) dX6_steps_111 rfl rfl (by omega) (by unfold inR; omega) ?_
              refine r_goto (tgt := 12) hC dX6_steps_114 rfl ?_
              exact ih12 (1) (w2) ((w3 + 1)) ((w4 + 1)) (w5)  (by omega) (by omega) (by omega) (by omega) (by omega) (by first | rfl | (rw [stp_stepI (by omega)]; simp only []; rw [← i0_12]; split <;> omega)) (by first | rfl | (rw [stp_stepI (by omega)]; simp only []; rw [← i1_12]; split <;> omega)) (by first | rfl | (rw [stp_stepI (by omega)]; simp only []; rw [← i2_12]; split <;> omega)) (by first | rfl | (rw [stp_stepI (by omega)]; simp only []; rw [← i2_12, ← i3_12]; split <;> omega)) (by omega) (by omega) (by omega) (by omega) (by omega) (by omega)  
        · refine r_iconst hC dX6_steps_41 rfl ?_
          refine r_goto (tgt := 46) hC dX6_steps_42 rfl ?_
          refine r_iaddE hC ((w5 + 1)) dX6_steps_46 (by omega) (by unfold inR; omega) ?_
          refine r_istore_n hC dX6_steps_47 rfl ?_
          refine r_iload_n hC dX6_steps_48 rfl ?_
          refine r_aload_n hC dX6_steps_49 rfl ?_
          refine z_getR hM dX6_steps_50 fl_RX6_28 rfl rfl (vld_of (n := 1) rfl (by omega) (by omega)) ?_
          refine r_iload hC dX6_steps_53 rfl ?_
          refine z_iald hM dX6_steps_55 rfl (by omega) (by omega) (fun v32 h_v32 o_v32 t_v32 => ?_)
          have w_v32 := t_v32 (Or.inr (Or.inr (Or.inr ⟨rfl, by first | exact True.intro | exact (rfl : true = true)⟩)))
          clear t_v32
          subst w_v32
          refine r_aload_n hC dX6_steps_56 rfl ?_
          refine z_getR hM dX6_steps_57 fl_RX6_28 rfl rfl (vld_of (n := 1) rfl (by omega) (by omega)) ?_
          refine r_iload hC dX6_steps_60 rfl ?_
          refine r_iconst hC dX6_steps_62 rfl ?_
          refine r_isubE hC ((w3 - 1)) dX6_steps_63 (by omega) (by unfold inR; omega) ?_
          refine z_iald hM dX6_steps_64 rfl (by omega) (by omega) (fun v33 h_v33 o_v33 t_v33 => ?_)
          have w_v33 := t_v33 (Or.inr (Or.inr (Or.inr ⟨rfl, by first | exact True.intro | exact (rfl : true = true)⟩)))
          clear t_v33
          subst w_v33
          refine r_icmp_le (tgt := 72) hC dX6_steps_65 rfl (fun h34 => ?_) (fun h34 => ?_)
          · refine r_iconst hC dX6_steps_72 rfl ?_
            refine r_iaddE hC (w4) dX6_steps_73 (by omega) (by unfold inR; omega) ?_
            refine r_istore_n hC dX6_steps_74 rfl ?_
            refine r_aload_n hC dX6_steps_75 rfl ?_
            refine z_getR hM dX6_steps_76 fl_RX6_28 rfl rfl (vld_of (n := 1) rfl (by omega) (by omega)) ?_
            refine r_iload hC dX6_steps_79 rfl ?_
            refine z_iald hM dX6_steps_81 rfl (by omega) (by omega) (fun v35 h_v35 o_v35 t_v35 => ?_)
            have w_v35 := t_v35 (Or.inr (Or.inr (Or.inr ⟨rfl, by first | exact True.intro | exact (rfl : true = true)⟩)))
            clear t_v35
            subst w_v35
            refine r_aload_n hC dX6_steps_82 rfl ?_
            refine z_getR hM dX6_steps_83 fl_RX6_28 rfl rfl (vld_of (n := 1) rfl (by omega) (by omega)) ?_
            refine r_iload hC dX6_steps_86 rfl ?_
            refine r_iconst hC dX6_steps_88 rfl ?_
            refine r_isubE hC ((w3 - 1)) dX6_steps_89 (by omega) (by unfold inR; omega) ?_
            refine z_iald hM dX6_steps_90 rfl (by omega) (by omega) (fun v36 h_v36 o_v36 t_v36 => ?_)
            have w_v36 := t_v36 (Or.inr (Or.inr (Or.inr ⟨rfl, by first | exact True.intro | exact (rfl : true = true)⟩)))
            clear t_v36
            subst w_v36
            refine r_icmp_ge (tgt := 98) hC dX6_steps_91 rfl (fun h37 => ?_) (fun h37 => ?_)
            · refine r_iload_n hC dX6_steps_98 rfl ?_
              refine r_iconst hC dX6_steps_99 rfl ?_
              refine r_iaddE hC ((w1 + 1)) dX6_steps_100 (by omega) (by unfold inR; omega) ?_
              refine r_istore_n hC dX6_steps_101 rfl ?_
              refine r_iload_n hC dX6_steps_102 rfl ?_
              refine r_iload hC dX6_steps_103 rfl ?_
              refine r_icmp_le (tgt := 111) hC dX6_steps_105 rfl (fun h38 => ?_) (fun h38 => ?_)
              · refine r_iincE hC ((w3 + 1)) dX6_steps_111 rfl rfl (by omega) (by unfold inR; omega) ?_
                refine r_goto (tgt := 12) hC dX6_steps_114 rfl ?_
                exact ih12 ((w1 + 1)) (w2) ((w3 + 1)) (w4) ((w5 + 1))  (by omega) (by omega) (by omega) (by omega) (by omega) (by first | rfl | (rw [stp_stepI (by omega)]; simp only []; rw [← i0_12]; split <;> omega)) (by first | rfl | (rw [stp_stepI (by omega)]; simp only []; rw [← i1_12]; split <;> omega)) (by first | rfl | (rw [stp_stepI (by omega)]; simp only []; rw [← i2_12]; split <;> omega)) (by first | rfl | (rw [stp_stepI (by omega)]; simp only []; rw [← i2_12, ← i3_12]; split <;> omega)) (by omega) (by omega) (by omega) (by omega) (by omega) (by omega)  
              · refine r_iload_n hC dX6_steps_108 rfl ?_
                refine r_istore hC dX6_steps_109 rfl ?_
                refine r_iincE hC ((w3 + 1)) dX6_steps_111 rfl rfl (by omega) (by unfold inR; omega) ?_
                refine r_goto (tgt := 12) hC dX6_steps_114 rfl ?_
                exact ih12 ((w1 + 1)) ((w1 + 1)) ((w3 + 1)) (w4) ((w5 + 1))  (by omega) (by omega) (by omega) (by omega) (by omega) (by first | rfl | (rw [stp_stepI (by omega)]; simp only []; rw [← i0_12]; split <;> omega)) (by first | rfl | (rw [stp_stepI (by omega)]; simp only []; rw [← i1_12]; split <;> omega)) (by first | rfl | (rw [stp_stepI (by omega)]; simp only []; rw [← i2_12]; split <;> omega)) (by first | rfl | (rw [stp_stepI (by omega)]; simp only []; rw [← i2_12, ← i3_12]; split <;> omega)) (by omega) (by omega) (by omega) (by omega) (by omega) (by omega)  
            · refine r_iconst hC dX6_steps_94 rfl ?_
              refine r_goto (tgt := 101) hC dX6_steps_95 rfl ?_
              refine r_istore_n hC dX6_steps_101 rfl ?_
              refine r_iload_n hC dX6_steps_102 rfl ?_
              refine r_iload hC dX6_steps_103 rfl ?_
              refine r_icmp_le (tgt := 111) hC dX6_steps_105 rfl (fun h39 => ?_) (fun h39 => by omega)
              refine r_iincE hC ((w3 + 1)) dX6_steps_111 rfl rfl (by omega) (by unfold inR; omega) ?_
              refine r_goto (tgt := 12) hC dX6_steps_114 rfl ?_
              exact ih12 (1) (w2) ((w3 + 1)) (w4) ((w5 + 1))  (by omega) (by omega) (by omega) (by omega) (by omega) (by first | rfl | (rw [stp_stepI (by omega)]; simp only []; rw [← i0_12]; split <;> omega)) (by first | rfl | (rw [stp_stepI (by omega)]; simp only []; rw [← i1_12]; split <;> omega)) (by first | rfl | (rw [stp_stepI (by omega)]; simp only []; rw [← i2_12]; split <;> omega)) (by first | rfl | (rw [stp_stepI (by omega)]; simp only []; rw [← i2_12, ← i3_12]; split <;> omega)) (by omega) (by omega) (by omega) (by omega) (by omega) (by omega)  
          · refine r_iconst hC dX6_steps_68 rfl ?_
            refine r_goto (tgt := 73) hC dX6_steps_69 rfl ?_
            refine r_iaddE hC ((w4 + 1)) dX6_steps_73 (by omega) (by unfold inR; omega) ?_
            refine r_istore_n hC dX6_steps_74 rfl ?_
            refine r_aload_n hC dX6_steps_75 rfl ?_
            refine z_getR hM dX6_steps_76 fl_RX6_28 rfl rfl (vld_of (n := 1) rfl (by omega) (by omega)) ?_
            refine r_iload hC dX6_steps_79 rfl ?_
            refine z_iald hM dX6_steps_81 rfl (by omega) (by omega) (fun v40 h_v40 o_v40 t_v40 => ?_)
            have w_v40 := t_v40 (Or.inr (Or.inr (Or.inr ⟨rfl, by first | exact True.intro | exact (rfl : true = true)⟩)))
            clear t_v40
            subst w_v40
            refine r_aload_n hC dX6_steps_82 rfl ?_
            refine z_getR hM dX6_steps_83 fl_RX6_28 rfl rfl (vld_of (n := 1) rfl (by omega) (by omega)) ?_
            refine r_iload hC dX6_steps_86 rfl ?_
            refine r_iconst hC dX6_steps_88 rfl ?_
            refine r_isubE hC ((w3 - 1)) dX6_steps_89 (by omega) (by unfold inR; omega) ?_
            refine z_iald hM dX6_steps_90 rfl (by omega) (by omega) (fun v41 h_v41 o_v41 t_v41 => ?_)
            have w_v41 := t_v41 (Or.inr (Or.inr (Or.inr ⟨rfl, by first | exact True.intro | exact (rfl : true = true)⟩)))
            clear t_v41
            subst w_v41
            refine r_icmp_ge (tgt := 98) hC dX6_steps_91 rfl (fun h42 => ?_) (fun h42 => ?_)
            · refine r_iload_n hC dX6_steps_98 rfl ?_
              refine r_iconst hC dX6_steps_99 rfl ?_
              refine r_iaddE hC ((w1 + 1)) dX6_steps_100 (by omega) (by unfold inR; omega) ?_
              refine r_istore_n hC dX6_steps_101 rfl ?_
              refine r_iload_n hC dX6_steps_102 rfl ?_
              refine r_iload hC dX6_steps_103 rfl ?_
              refine r_icmp_le (tgt := 111) hC dX6_steps_105 rfl (fun h43 => ?_) (fun h43 => ?_)
              · refine r_iincE hC ((w3 + 1)) dX6_steps_111 rfl rfl (by omega) (by unfold inR; omega) ?_
                refine r_goto (tgt := 12) hC dX6_steps_114 rfl ?_
                exact ih12 ((w1 + 1)) (w2) ((w3 + 1)) ((w4 + 1)) ((w5 + 1))  (by omega) (by omega) (by omega) (by omega) (by omega) (by first | rfl | (rw [stp_stepI (by omega)]; simp only []; rw [← i0_12]; split <;> omega)) (by first | rfl | (rw [stp_stepI (by omega)]; simp only []; rw [← i1_12]; split <;> omega)) (by first | rfl | (rw [stp_stepI (by omega)]; simp only []; rw [← i2_12]; split <;> omega)) (by first | rfl | (rw [stp_stepI (by omega)]; simp only []; rw [← i2_12, ← i3_12]; split <;> omega)) (by omega) (by omega) (by omega) (by omega) (by omega) (by omega)  
              · refine r_iload_n hC dX6_steps_108 rfl ?_
                refine r_istore hC dX6_steps_109 rfl ?_
                refine r_iincE hC ((w3 + 1)) dX6_steps_111 rfl rfl (by omega) (by unfold inR; omega) ?_
                refine r_goto (tgt := 12) hC dX6_steps_114 rfl ?_
                exact ih12 ((w1 + 1)) ((w1 + 1)) ((w3 + 1)) ((w4 + 1)) ((w5 + 1))  (by omega) (by omega) (by omega) (by omega) (by omega) (by first | rfl | (rw [stp_stepI (by omega)]; simp only []; rw [← i0_12]; split <;> omega)) (by first | rfl | (rw [stp_stepI (by omega)]; simp only []; rw [← i1_12]; split <;> omega)) (by first | rfl | (rw [stp_stepI (by omega)]; simp only []; rw [← i2_12]; split <;> omega)) (by first | rfl | (rw [stp_stepI (by omega)]; simp only []; rw [← i2_12, ← i3_12]; split <;> omega)) (by omega) (by omega) (by omega) (by omega) (by omega) (by omega)  
            · refine r_iconst hC dX6_steps_94 rfl ?_
              refine r_goto (tgt := 101) hC dX6_steps_95 rfl ?_
              refine r_istore_n hC dX6_steps_101 rfl ?_
              refine r_iload_n hC dX6_steps_102 rfl ?_
              refine r_iload hC dX6_steps_103 rfl ?_
              refine r_icmp_le (tgt := 111) hC dX6_steps_105 rfl (fun h44 => ?_) (fun h44 => by omega)
              refine r_iincE hC ((w3 + 1)) dX6_steps_111 rfl rfl (by omega) (by unfold inR; omega) ?_
              refine r_goto (tgt := 12) hC dX6_steps_114 rfl ?_
              exact ih12 (1) (w2) ((w3 + 1)) ((w4 + 1)) ((w5 + 1))  (by omega) (by omega) (by omega) (by omega) (by omega) (by first | rfl | (rw [stp_stepI (by omega)]; simp only []; rw [← i0_12]; split <;> omega)) (by first | rfl | (rw [stp_stepI (by omega)]; simp only []; rw [← i1_12]; split <;> omega)) (by first | rfl | (rw [stp_stepI (by omega)]; simp only []; rw [← i2_12]; split <;> omega)) (by first | rfl | (rw [stp_stepI (by omega)]; simp only []; rw [← i2_12, ← i3_12]; split <;> omega)) (by omega) (by omega) (by omega) (by omega) (by omega) (by omega)  
  exact L12 244 (1) (1) (1) (0) (0)  (by omega) (by omega) (by omega) (by omega) (by omega) (by first | rfl | (rw [stp_stepI (by omega)]; simp only []; rw [← i0_12]; split <;> omega)) (by first | rfl | (rw [stp_stepI (by omega)]; simp only []; rw [← i1_12]; split <;> omega)) (by first | rfl | (rw [stp_stepI (by omega)]; simp only []; rw [← i2_12]; split <;> omega)) (by first | rfl | (rw [stp_stepI (by omega)]; simp only []; rw [← i2_12, ← i3_12]; split <;> omega)) (by omega) (by omega) (by omega) (by omega) (by omega) (by omega)  
theorem y_nest {eb : Bool} {n : Nat} {d : Nat} {P : Option Vl → Mm → Prop} {σ : Mm} {t0 t1 t2 t3 : Int} (qg0 : σ 30 0 8 = (n : Int)) (qg1 : σ 38 0 0 = t0) (qg2 : σ 38 0 1 = t1) (qg3 : σ 38 0 2 = t2) (qg4 : σ 38 0 3 = t3) (hn1 : 1 ≤ n) (hn : n ≤ 242)  (k : ∀ ρ : Mm, Gx (fun c x y => c = 38 ∧ x = 0) σ ρ → ρ 38 0 0 = ((nst (σ 37 0) n).1) → ρ 38 0 1 = ((nst (σ 37 0) n).2.1) → ρ 38 0 2 = ((nst (σ 37 0) n).2.2.1) → ρ 38 0 3 = ((nst (σ 37 0) n).2.2.2) → P none ρ) : WT (true, eb, true) (d + 1) 167 [vR 30 0] σ P := by
  refine WT_in fun K hK => ?_
  have hK : StpY (true, eb, true) cX6_nest RX6 (none) (WT (true, eb, true) (d + 0)) P K := hK
  have hM := hK.1
  have hC := hK.1.1
  show K 0 [some (vR 30 0), none, none, none, none, none, none] [] σ
  refine r_iconst hC dX6_nest_0 rfl ?_
  refine r_istore_n hC dX6_nest_1 rfl ?_
  refine r_iconst hC dX6_nest_2 rfl ?_
  refine r_istore_n hC dX6_nest_3 rfl ?_
  refine r_iconst hC dX6_nest_4 rfl ?_
  refine r_istore_n hC dX6_nest_5 rfl ?_
  show K _ [_, _, _, _, _, _, _] _ _
  refine r_iconst hC dX6_nest_6 rfl ?_
  refine r_istore hC dX6_nest_7 rfl ?_
  refine r_iconst hC dX6_nest_9 rfl ?_
  refine r_istore hC dX6_nest_10 rfl ?_
  refine r_iconst hC dX6_nest_12 rfl ?_
  refine r_istore hC dX6_nest_13 rfl ?_
  have L15 : ∀ (n15 : Nat) (w1 w2 w3 w4 w5 w6 : Int), 0 ≤ w1 ∧ w1 ≤ 242 → -242 ≤ w2 ∧ w2 ≤ 242 → 0 ≤ w3 ∧ w3 ≤ 242 → 0 ≤ w4 ∧ w4 ≤ 242 → 0 ≤ w5 ∧ w5 ≤ 242 → 0 ≤ w6 ∧ w6 ≤ 242 → ((w5) = (nst (σ 37 0) ((w4)).toNat).1) → ((w1) = (nst (σ 37 0) ((w4)).toNat).2.1) → ((w6) = (nst (σ 37 0) ((w4)).toNat).2.2.1) → ((w3) = (nst (σ 37 0) ((w4)).toNat).2.2.2) → ((w2) = (w1) - (w5)) → ((w5) + (w1) + (w6) ≤ (w4)) → ((w3) ≤ (w4)) → ((w4) ≤ (n : Int)) → 242 - w4 < (n15 : Int) → K 15 [some (vR 30 0), some (vI w5), some (vI w1), some (vI w6), some (vI w2), some (vI w3), some (vI w4)] [] σ := by
    intro n15
    induction n15 with
    | zero => intro w1 w2 w3 w4 w5 w6  f_w1 f_w2 f_w3 f_w4 f_w5 f_w6 i0_15 i1_15 i2_15 i3_15 i4_15 i5_15 i6_15 i7_15 hm  ; omega
    | succ n15 ih15 =>
      intro w1 w2 w3 w4 w5 w6  f_w1 f_w2 f_w3 f_w4 f_w5 f_w6 i0_15 i1_15 i2_15 i3_15 i4_15 i5_15 i6_15 i7_15 hm15  
      refine r_iload hC dX6_nest_15 rfl ?_
      refine r_aload_n hC dX6_nest_17 rfl ?_
      refine z_getI (jz := 8) hM dX6_nest_18 fl_RX6_105 rfl rfl rfl (fun v7 h_v7 o_v7 t_v7 => ?_)
      have e_v7 : (n : Int) = v7 := ((t_v7 ((by simp [Tk, Tb, DL, DR]))).trans qg0).symm
      clear t_v7
      subst e_v7
      refine r_icmp_ge (tgt := 93) hC dX6_nest_21 rfl (fun h8 => ?_) (fun h8 => ?_)
      · refine r_aload_n hC dX6_nest_93 rfl ?_
        refine z_getR hM dX6_nest_94 fl_RX6_31 rfl rfl (vld_of (n := 1) rfl (by omega) (by omega)) ?_
        refine r_iconst hC dX6_nest_97 rfl ?_
        refine r_iload_n hC dX6_nest_98 rfl ?_
        refine z_iastG hM dX6_nest_99 rfl (by omega) (by omega) (by simp [Tl, DL, DF]) (by first | trivial | (simp only [Okv]; omega) | (simp [Okv]; try omega)) (fun ρ9 a_ρ9 q_ρ9 => ?_)
        refine r_aload_n hC dX6_nest_100 rfl ?_
        refine z_getR hM dX6_nest_101 fl_RX6_31 rfl rfl (vld_of (n := 1) rfl (by omega) (by omega)) ?_
        refine r_iconst hC dX6_nest_104 rfl ?_
        refine r_iload_n hC dX6_nest_105 rfl ?_
        refine z_iastG hM dX6_nest_106 rfl (by omega) (by omega) (by simp [Tl, DL, DF]) (by first | trivial | (simp only [Okv]; omega) | (simp [Okv]; try omega)) (fun ρ10 a_ρ10 q_ρ10 => ?_)
        refine r_aload_n hC dX6_nest_107 rfl ?_
        refine z_getR hM dX6_nest_108 fl_RX6_31 rfl rfl (vld_of (n := 1) rfl (by omega) (by omega)) ?_
        refine r_iconst hC dX6_nest_111 rfl ?_
        refine r_iload_n hC dX6_nest_112 rfl ?_
        refine z_iastG hM dX6_nest_113 rfl (by omega) (by omega) (by simp [Tl, DL, DF]) (by first | trivial | (simp only [Okv]; omega) | (simp [Okv]; try omega)) (fun ρ11 a_ρ11 q_ρ11 => ?_)
        refine r_aload_n hC dX6_nest_114 rfl ?_
        refine z_getR hM dX6_nest_115 fl_RX6_31 rfl rfl (vld_of (n := 1) rfl (by omega) (by omega)) ?_
        refine r_iconst hC dX6_nest_118 rfl ?_
        refine r_iload hC dX6_nest_119 rfl ?_
        refine z_iastG hM dX6_nest_121 rfl (by omega) (by omega) (by simp [Tl, DL, DF]) (by first | trivial | (simp only [Okv]; omega) | (simp [Okv]; try omega)) (fun ρ12 a_ρ12 q_ρ12 => ?_)
        refine y_vret hK rfl dX6_nest_122 ?_
        have hs0 : w5 = (nst (σ 37 0) n).1 := at_nat (n := n) (f := fun m => (nst (σ 37 0) m).1) i0_15 (by omega)
        have hs1 : w1 = (nst (σ 37 0) n).2.1 := at_nat (n := n) (f := fun m => (nst (σ 37 0) m).2.1) i1_15 (by omega)
        have hs2 : w6 = (nst (σ 37 0) n).2.2.1 := at_nat (n := n) (f := fun m => (nst (σ 37 0) m).2.2.1) i2_15 (by omega)
        have hs3 : w3 = (nst (σ 37 0) n).2.2.2 := at_nat (n := n) (f := fun m => (nst (σ 37 0) m).2.2.2) i3_15 (by omega)
        exact k _ (((((Gx.rf).al a_ρ9 (by first | (simp; done) | omega | (simp; omega))).al a_ρ10 (by first | (simp; done) | omega | (simp; omega))).al a_ρ11 (by first | (simp; done) | omega | (simp; omega))).al a_ρ12 (by first | (simp; done) | omega | (simp; omega))) (by have hq := ((a_ρ12 _ _ _ (by first | exact xs_ (by decide) | exact xc_ (by decide) | omega)).trans ((a_ρ11 _ _ _ (by first | exact xs_ (by decide) | exact xc_ (by decide) | omega)).trans ((a_ρ10 _ _ _ (by first | exact xs_ (by decide) | exact xc_ (by decide) | omega)).trans q_ρ9))); exact hq.trans hs0) (by have hq := ((a_ρ12 _ _ _ (by first | exact xs_ (by decide) | exact xc_ (by decide) | omega)).trans ((a_ρ11 _ _ _ (by first | exact xs_ (by decide) | exact xc_ (by decide) | omega)).trans q_ρ10)); exact hq.trans hs1) (by have hq := ((a_ρ12 _ _ _ (by first | exact xs_ (by decide) | exact xc_ (by decide) | omega)).trans q_ρ11); exact hq.trans hs2) (by have hq := q_ρ12; exact hq.trans hs3)
      · refine r_iload hC dX6_nest_24 rfl ?_
        refine r_aload_n hC dX6_nest_26 rfl ?_
        refine z_getR hM dX6_nest_27 fl_RX6_28 rfl rfl (vld_of (n := 1) rfl (by omega) (by omega)) ?_
        refine r_iload hC dX6_nest_30 rfl ?_
        refine z_iald hM dX6_nest_32 rfl (by omega) (by omega) (fun v13 h_v13 o_v13 t_v13 => ?_)
        have w_v13 := t_v13 (Or.inr (Or.inr (Or.inr ⟨rfl, by first | exact True.intro | exact (rfl : true = true)⟩)))
        clear t_v13
        subst w_v13
        refine r_if_ge (tgt := 40) hC dX6_nest_33 rfl (fun h14 => ?_) (fun h14 => ?_)
        · refine r_iconst hC dX6_nest_40 rfl ?_
          refine r_iaddE hC ((w2 + 1)) dX6_nest_41 (by omega) (by unfold inR; omega) ?_
          refine r_istore hC dX6_nest_42 rfl ?_
          refine r_iload hC dX6_nest_44 rfl ?_
          refine r_iload hC dX6_nest_46 rfl ?_
          refine r_icmp_le (tgt := 55) hC dX6_nest_48 rfl (fun h15 => ?_) (fun h15 => ?_)
          · refine r_aload_n hC dX6_nest_55 rfl ?_
            refine z_getR hM dX6_nest_56 fl_RX6_28 rfl rfl (vld_of (n := 1) rfl (by omega) (by omega)) ?_
            refine r_iload hC dX6_nest_59 rfl ?_
            refine z_iald hM dX6_nest_61 rfl (by omega) (by omega) (fun v16 h_v16 o_v16 t_v16 => ?_)
            have w_v16 := t_v16 (Or.inr (Or.inr (Or.inr ⟨rfl, by first | exact True.intro | exact (rfl : true = true)⟩)))
            clear t_v16
            subst w_v16
            refine r_if_lt (tgt := 71) hC dX6_nest_62 rfl (fun h17 => by omega) (fun h17 => ?_)
            refine r_iincE hC ((w1 + 1)) dX6_nest_65 rfl rfl (by omega) (by unfold inR; omega) ?_
            refine r_goto (tgt := 87) hC dX6_nest_68 rfl ?_
            refine r_iincE hC ((w4 + 1)) dX6_nest_87 rfl rfl (by omega) (by unfold inR; omega) ?_
            refine r_goto (tgt := 15) hC dX6_nest_90 rfl ?_
            exact ih15 ((w1 + 1)) ((w2 + 1)) (w3) ((w4 + 1)) (w5) (w6)  (by omega) (by omega) (by omega) (by omega) (by omega) (by omega) (by first | rfl | (rw [nst_stepI (by omega)]; dsimp only; split <;> (try split) <;> (try dsimp only) <;> omega)) (by first | rfl | (rw [nst_stepI (by omega)]; dsimp only; split <;> (try split) <;> (try dsimp only) <;> omega)) (by first | rfl | (rw [nst_stepI (by omega)]; dsimp only; split <;> (try split) <;> (try dsimp only) <;> omega)) (by first | rfl | (rw [nst_stepI (by omega)]; dsimp only; split <;> (try split) <;> (try dsimp only) <;> omega)) (by omega) (by omega) (by omega) (by omega) (by omega)  
          · refine r_iload hC dX6_nest_51 rfl ?_
            refine r_istore hC dX6_nest_53 rfl ?_
            refine r_aload_n hC dX6_nest_55 rfl ?_
            refine z_getR hM dX6_nest_56 fl_RX6_28 rfl rfl (vld_of (n := 1) rfl (by omega) (by omega)) ?_
            refine r_iload hC dX6_nest_59 rfl ?_
            refine z_iald hM dX6_nest_61 rfl (by omega) (by omega) (fun v18 h_v18 o_v18 t_v18 => ?_)
            have w_v18 := t_v18 (Or.inr (Or.inr (Or.inr ⟨rfl, by first | exact True.intro | exact (rfl : true = true)⟩)))
            clear t_v18
            subst w_v18
            refine r_if_lt (tgt := 71) hC dX6_nest_62 rfl (fun h19 => by omega) (fun h19 => ?_)
            refine r_iincE hC ((w1 + 1)) dX6_nest_65 rfl rfl (by omega) (by unfold inR; omega) ?_
            refine r_goto (tgt := 87) hC dX6_nest_68 rfl ?_
            refine r_iincE hC ((w4 + 1)) dX6_nest_87 rfl rfl (by omega) (by unfold inR; omega) ?_
            show K _ [_, _, _, _, _, _, _] _ _
            refine r_goto (tgt := 15) hC dX6_nest_90 rfl ?_
            exact ih15 ((w1 + 1)) ((w2 + 1)) ((w2 + 1)) ((w4 + 1)) (w5) (w6)  (by omega) (by omega) (by omega) (by omega) (by omega) (by omega) (by first | rfl | (rw [nst_stepI (by omega)]; dsimp only; split <;> (try split) <;> (try dsimp only) <;> omega)) (by first | rfl | (rw [nst_stepI (by omega)]; dsimp only; split <;> (try split) <;> (try dsimp only) <;> omega)) (by first | rfl | (rw [nst_stepI (by omega)]; dsimp only; split <;> (try split) <;> (try dsimp only) <;> omega)) (by first | rfl | (rw [nst_stepI (by omega)]; dsimp only; split <;> (try split) <;> (try dsimp only) <;> omega)) (by omega) (by omega) (by omega) (by omega) (by omega)  
        · refine r_iconst hC dX6_nest_36 rfl ?_
          refine r_goto (tgt := 41) hC dX6_nest_37 rfl ?_
          refine r_iaddE hC ((w2 - 1)) dX6_nest_41 (by omega) (by unfold inR; omega) ?_
          refine r_istore hC dX6_nest_42 rfl ?_
          refine r_iload hC dX6_nest_44 rfl ?_
          refine r_iload hC dX6_nest_46 rfl ?_
          refine r_icmp_le (tgt := 55) hC dX6_nest_48 rfl (fun h20 => ?_) (fun h20 => ?_)
          · refine r_aload_n hC dX6_nest_55 rfl ?_
            refine z_getR hM dX6_nest_56 fl_RX6_28 rfl rfl (vld_of (n := 1) rfl (by omega) (by omega)) ?_
            refine r_iload hC dX6_nest_59 rfl ?_
            refine z_iald hM dX6_nest_61 rfl (by omega) (by omega) (fun v21 h_v21 o_v21 t_v21 => ?_)
            have w_v21 := t_v21 (Or.inr (Or.inr (Or.inr ⟨rfl, by first | exact True.intro | exact (rfl : true = true)⟩)))
            clear t_v21
            subst w_v21
            refine r_if_lt (tgt := 71) hC dX6_nest_62 rfl (fun h22 => ?_) (fun h22 => by omega)
            refine r_iload_n hC dX6_nest_71 rfl ?_
            refine r_if_ne (tgt := 81) hC dX6_nest_72 rfl (fun h23 => ?_) (fun h23 => ?_)
            · refine r_iincE hC ((w1 - 1)) dX6_nest_81 rfl rfl (by omega) (by unfold inR; omega) ?_
              refine r_iincE hC ((w6 + 1)) dX6_nest_84 rfl rfl (by omega) (by unfold inR; omega) ?_
              refine r_iincE hC ((w4 + 1)) dX6_nest_87 rfl rfl (by omega) (by unfold inR; omega) ?_
              show K _ [_, _, _, _, _, _, _] _ _
              refine r_goto (tgt := 15) hC dX6_nest_90 rfl ?_
              exact ih15 ((w1 - 1)) ((w2 - 1)) (w3) ((w4 + 1)) (w5) ((w6 + 1))  (by omega) (by omega) (by omega) (by omega) (by omega) (by omega) (by first | rfl | (rw [nst_stepI (by omega)]; dsimp only; split <;> (try split) <;> (try dsimp only) <;> omega)) (by first | rfl | (rw [nst_stepI (by omega)]; dsimp only; split <;> (try split) <;> (try dsimp only) <;> omega)) (by first | rfl | (rw [nst_stepI (by omega)]; dsimp only; split <;> (try split) <;> (try dsimp only) <;> omega)) (by first | rfl | (rw [nst_stepI (by omega)]; dsimp only; split <;> (try split) <;> (try dsimp only) <;> omega)) (by omega) (by omega) (by omega) (by omega) (by omega)  
            · refine r_iincE hC ((w5 + 1)) dX6_nest_75 rfl rfl (by omega) (by unfold inR; omega) ?_
              refine r_goto (tgt := 87) hC dX6_nest_78 rfl ?_
              refine r_iincE hC ((w4 + 1)) dX6_nest_87 rfl rfl (by omega) (by unfold inR; omega) ?_
              refine r_goto (tgt := 15) hC dX6_nest_90 rfl ?_
              exact ih15 (w1) ((w2 - 1)) (w3) ((w4 + 1)) ((w5 + 1)) (w6)  (by omega) (by omega) (by omega) (by omega) (by omega) (by omega) (by first | rfl | (rw [nst_stepI (by omega)]; dsimp only; split <;> (try split) <;> (try dsimp only) <;> omega)) (by first | rfl | (rw [nst_stepI (by omega)]; dsimp only; split <;> (try split) <;> (try dsimp only) <;> omega)) (by first | rfl | (rw [nst_stepI (by omega)]; dsimp only; split <;> (try split) <;> (try dsimp only) <;> omega)) (by first | rfl | (rw [nst_stepI (by omega)]; dsimp only; split <;> (try split) <;> (try dsimp only) <;> omega)) (by omega) (by omega) (by omega) (by omega) (by omega)  
          · refine r_iload hC dX6_nest_51 rfl ?_
            refine r_istore hC dX6_nest_53 rfl ?_
            refine r_aload_n hC dX6_nest_55 rfl ?_
            refine z_getR hM dX6_nest_56 fl_RX6_28 rfl rfl (vld_of (n := 1) rfl (by omega) (by omega)) ?_
            refine r_iload hC dX6_nest_59 rfl ?_
            refine z_iald hM dX6_nest_61 rfl (by omega) (by omega) (fun v24 h_v24 o_v24 t_v24 => ?_)
            have w_v24 := t_v24 (Or.inr (Or.inr (Or.inr ⟨rfl, by first | exact True.intro | exact (rfl : true = true)⟩)))
            clear t_v24
            subst w_v24
            refine r_if_lt (tgt := 71) hC dX6_nest_62 rfl (fun h25 => ?_) (fun h25 => by omega)
            refine r_iload_n hC dX6_nest_71 rfl ?_
            refine r_if_ne (tgt := 81) hC dX6_nest_72 rfl (fun h26 => ?_) (fun h26 => ?_)
            · refine r_iincE hC ((w1 - 1)) dX6_nest_81 rfl rfl (by omega) (by unfold inR; omega) ?_
              refine r_iincE hC ((w6 + 1)) dX6_nest_84 rfl rfl (by omega) (by unfold inR; omega) ?_
              refine r_iincE hC ((w4 + 1)) dX6_nest_87 rfl rfl (by omega) (by unfold inR; omega) ?_
              show K _ [_, _, _, _, _, _, _] _ _
              refine r_goto (tgt := 15) hC dX6_nest_90 rfl ?_
              exact ih15 ((w1 - 1)) ((w2 - 1)) ((w2 - 1)) ((w4 + 1)) (w5) ((w6 + 1))  (by omega) (by omega) (by omega) (by omega) (by omega) (by omega) (by first | rfl | (rw [nst_stepI (by omega)]; dsimp only; split <;> (try split) <;> (try dsimp only) <;> omega)) (by first | rfl | (rw [nst_stepI (by omega)]; dsimp only; split <;> (try split) <;> (try dsimp only) <;> omega)) (by first | rfl | (rw [nst_stepI (by omega)]; dsimp only; split <;> (try split) <;> (try dsimp only) <;> omega)) (by first | rfl | (rw [nst_stepI (by omega)]; dsimp only; split <;> (try split) <;> (try dsimp only) <;> omega)) (by omega) (by omega) (by omega) (by omega) (by omega)  
            · refine r_iincE hC ((w5 + 1)) dX6_nest_75 rfl rfl (by omega) (by unfold inR; omega) ?_
              refine r_goto (tgt := 87) hC dX6_nest_78 rfl ?_
              refine r_iincE hC ((w4 + 1)) dX6_nest_87 rfl rfl (by omega) (by unfold inR; omega) ?_
              refine r_goto (tgt := 15) hC dX6_nest_90 rfl ?_
              exact ih15 (w1) ((w2 - 1)) ((w2 - 1)) ((w4 + 1)) ((w5 + 1)) (w6)  (by omega) (by omega) (by omega) (by omega) (by omega) (by omega) (by first | rfl | (rw [nst_stepI (by omega)]; dsimp only; split <;> (try split) <;> (try dsimp only) <;> omega)) (by first | rfl | (rw [nst_stepI (by omega)]; dsimp only; split <;> (try split) <;> (try dsimp only) <;> omega)) (by first | rfl | (rw [nst_stepI (by omega)]; dsimp only; split <;> (try split) <;> (try dsimp only) <;> omega)) (by first | rfl | (rw [nst_stepI (by omega)]; dsimp only; split <;> (try split) <;> (try dsimp only) <;> omega)) (by omega) (by omega) (by omega) (by omega) (by omega)  
  exact L15 244 (0) (0) (0) (0) (0) (0)  (by omega) (by omega) (by omega) (by omega) (by omega) (by omega) (by first | rfl | (rw [nst_stepI (by omega)]; dsimp only; split <;> (try split) <;> (try dsimp only) <;> omega)) (by first | rfl | (rw [nst_stepI (by omega)]; dsimp only; split <;> (try split) <;> (try dsimp only) <;> omega)) (by first | rfl | (rw [nst_stepI (by omega)]; dsimp only; split <;> (try split) <;> (try dsimp only) <;> omega)) (by first | rfl | (rw [nst_stepI (by omega)]; dsimp only; split <;> (try split) <;> (try dsimp only) <;> omega)) (by omega) (by omega) (by omega) (by omega) (by omega)  
theorem lin_stepW {v : Int → Int} {i : Int} (h : 0 ≤ i) (hb : -1000 ≤ v i ∧ v i ≤ 1000) : (lin v (i + 1).toNat).2 = ((v i % 997) * (lin v i.toNat).2 + wr (wr (7 * v i) + 1) % 997) % 997 := by
  rw [lin_stepI h, wr_id (a := 7 * v i) (by first | exact ⟨by omega, by omega⟩ | (simp only [inR]; omega)), wr_id (a := 7 * v i + 1) (by first | exact ⟨by omega, by omega⟩ | (simp only [inR]; omega))]
theorem y_line {eb : Bool} {n : Nat} {d : Nat} {P : Option Vl → Mm → Prop} {σ : Mm} {t0 t1 : Int} (qg0 : σ 30 0 8 = (n : Int)) (qg1 : σ 38 0 0 = t0) (qg2 : σ 38 0 1 = t1) (hn1 : 1 ≤ n) (hn : n ≤ 242) (hb : Bd (σ 37 0) n)  (k : ∀ ρ : Mm, Gx (fun c x y => c = 38 ∧ x = 0) σ ρ → ρ 38 0 0 = ((lin (σ 37 0) n).1) → ρ 38 0 1 = ((lin (σ 37 0) n).2) → P none ρ) : WT (true, eb, true) (d + 2) 163 [vR 30 0] σ P := by
  refine WT_in fun K hK => ?_
  have hK : StpY (true, eb, true) cX6_line RX6 (none) (WT (true, eb, true) (d + 1)) P K := hK
  have hM := hK.1
  have hC := hK.1.1
  show K 0 [some (vR 30 0), none, none, none, none] [] σ
  refine r_iconst hC dX6_line_0 rfl ?_
  refine r_istore_n hC dX6_line_1 rfl ?_
  refine r_iconst hC dX6_line_2 rfl ?_
  refine r_istore_n hC dX6_line_3 rfl ?_
  refine r_iconst hC dX6_line_4 rfl ?_
  refine r_istore_n hC dX6_line_5 rfl ?_
  have L6 : ∀ (n6 : Nat) (w1 w2 w3 : Int), 0 ≤ w1 ∧ w1 ≤ 996 → 0 ≤ w2 ∧ w2 ≤ 996 → 0 ≤ w3 ∧ w3 ≤ 242 → ((w1) = (lin (σ 37 0) ((w3)).toNat).1) → ((w2) = (lin (σ 37 0) ((w3)).toNat).2) → ((w3) ≤ (n : Int)) → 242 - w3 < (n6 : Int) → K 6 [some (vR 30 0), some (vI w1), some (vI w2), some (vI w3), none] [] σ := by
    intro n6
    induction n6 with
    | zero => intro w1 w2 w3  f_w1 f_w2 f_w3 i0_6 i1_6 i2_6 hm  ; omega
    | succ n6 ih6 =>
      intro w1 w2 w3  f_w1 f_w2 f_w3 i0_6 i1_6 i2_6 hm6  
      refine r_iload_n hC dX6_line_6 rfl ?_
      refine r_aload_n hC dX6_line_7 rfl ?_
      refine z_getI (jz := 8) hM dX6_line_8 fl_RX6_105 rfl rfl rfl (fun v4 h_v4 o_v4 t_v4 => ?_)
      have e_v4 : (n : Int) = v4 := ((t_v4 ((by simp [Tk, Tb, DL, DR]))).trans qg0).symm
      clear t_v4
      subst e_v4
      refine r_icmp_ge (tgt := 70) hC dX6_line_11 rfl (fun h5 => ?_) (fun h5 => ?_)
      · refine r_aload_n hC dX6_line_70 rfl ?_
        refine z_getR hM dX6_line_71 fl_RX6_31 rfl rfl (vld_of (n := 1) rfl (by omega) (by omega)) ?_
        refine r_iconst hC dX6_line_74 rfl ?_
        refine r_iload_n hC dX6_line_75 rfl ?_
        refine z_iastG hM dX6_line_76 rfl (by omega) (by omega) (by simp [Tl, DL, DF]) (by first | trivial | (simp only [Okv]; omega) | (simp [Okv]; try omega)) (fun ρ6 a_ρ6 q_ρ6 => ?_)
        refine r_aload_n hC dX6_line_77 rfl ?_
        refine z_getR hM dX6_line_78 fl_RX6_31 rfl rfl (vld_of (n := 1) rfl (by omega) (by omega)) ?_
        refine r_iconst hC dX6_line_81 rfl ?_
        refine r_iload_n hC dX6_line_82 rfl ?_
        refine z_iastG hM dX6_line_83 rfl (by omega) (by omega) (by simp [Tl, DL, DF]) (by first | trivial | (simp only [Okv]; omega) | (simp [Okv]; try omega)) (fun ρ7 a_ρ7 q_ρ7 => ?_)
        refine y_vret hK rfl dX6_line_84 ?_
        have hs0 : w1 = (lin (σ 37 0) n).1 := at_nat (n := n) (f := fun m => (lin (σ 37 0) m).1) i0_6 (by omega)
        have hs1 : w2 = (lin (σ 37 0) n).2 := at_nat (n := n) (f := fun m => (lin (σ 37 0) m).2) i1_6 (by omega)
        exact k _ (((Gx.rf).al a_ρ6 (by first | (simp; done) | omega | (simp; omega))).al a_ρ7 (by first | (simp; done) | omega | (simp; omega))) (by have hq := ((a_ρ7 _ _ _ (by first | exact xs_ (by decide) | exact xc_ (by decide) | omega)).trans q_ρ6); exact hq.trans hs0) (by have hq := q_ρ7; exact hq.trans hs1)
      · refine r_aload_n hC dX6_line_14 rfl ?_
        refine z_getR hM dX6_line_15 fl_RX6_28 rfl rfl (vld_of (n := 1) rfl (by omega) (by omega)) ?_
        refine r_iload_n hC dX6_line_18 rfl ?_
        refine z_iald hM dX6_line_19 rfl (by omega) (by omega) (fun v8 h_v8 o_v8 t_v8 => ?_)
        have w_v8 := t_v8 (Or.inr (Or.inr (Or.inr ⟨rfl, by first | exact True.intro | exact (rfl : true = true)⟩)))
        clear t_v8
        subst w_v8
        refine r_sipush hC dX6_line_20 rfl ?_
        refine z_ins2 hM dX6_line_23 tl_RX6_164 rfl (Nat.le_of_ble_eq_true rfl) (Nat.le_of_ble_eq_true rfl) ?_
        refine y_rest (by omega) (fun h9 => ?_)
        refine r_istore hC dX6_line_26 rfl ?_
        refine r_iload hC dX6_line_28 rfl ?_
        refine r_iload_n hC dX6_line_30 rfl ?_
        have m10 := mul_nn (a := ((σ 37 0 w3) % 997)) (b := w1) (A := 996) (B := 996) (by omega) (by omega) (by omega) (by omega)
        refine r_imulE hC ((((σ 37 0 w3) % 997) * w1)) dX6_line_31 (by omega) (by unfold inR; omega) ?_
        refine r_sipush hC dX6_line_32 rfl ?_
        refine r_iremN hC dX6_line_35 (by omega) (by omega) ?_
        refine r_istore_n hC dX6_line_36 rfl ?_
        refine r_iload hC dX6_line_37 rfl ?_
        refine r_iload_n hC dX6_line_39 rfl ?_
        have m11 := mul_nn (a := ((σ 37 0 w3) % 997)) (b := w2) (A := 996) (B := 996) (by omega) (by omega) (by omega) (by omega)
        refine r_imulE hC ((((σ 37 0 w3) % 997) * w2)) dX6_line_40 (by omega) (by unfold inR; omega) ?_
        refine r_bipush hC dX6_line_41 rfl ?_
        refine r_aload_n hC dX6_line_43 rfl ?_
        refine z_getR hM dX6_line_44 fl_RX6_28 rfl rfl (vld_of (n := 1) rfl (by omega) (by omega)) ?_
        refine r_iload_n hC dX6_line_47 rfl ?_
        refine z_iald hM dX6_line_48 rfl (by omega) (by omega) (fun v12 h_v12 o_v12 t_v12 => ?_)
        have w_v12 := t_v12 (Or.inr (Or.inr (Or.inr ⟨rfl, by first | exact True.intro | exact (rfl : true = true)⟩)))
        clear t_v12
        subst w_v12
        refine r_imul hC dX6_line_49 ?_
        have f13 := inR_le (inR_wr (7 * (σ 37 0 w3)))
        refine r_iconst hC dX6_line_50 rfl ?_
        refine r_iadd hC dX6_line_51 ?_
        have f14 := inR_le (inR_wr ((wr (7 * (σ 37 0 w3))) + 1))
        refine r_sipush hC dX6_line_52 rfl ?_
        refine z_ins2 hM dX6_line_55 tl_RX6_164 rfl (Nat.le_of_ble_eq_true rfl) (Nat.le_of_ble_eq_true rfl) ?_
        refine y_rest (by omega) (fun h15 => ?_)
        refine r_iaddE hC (((((σ 37 0 w3) % 997) * w2) + ((wr ((wr (7 * (σ 37 0 w3))) + 1)) % 997))) dX6_line_58 (by omega) (by unfold inR; omega) ?_
        refine r_sipush hC dX6_line_59 rfl ?_
        refine r_iremN hC dX6_line_62 (by omega) (by omega) ?_
        refine r_istore_n hC dX6_line_63 rfl ?_
        show K _ [_, _, _, _, _] _ _
        refine r_iincE hC ((w3 + 1)) dX6_line_64 rfl rfl (by omega) (by unfold inR; omega) ?_
        refine r_goto (tgt := 6) hC dX6_line_67 rfl ?_
        refine r_forget hC (ls2 := [some (vR 30 0), some (vI ((((σ 37 0 w3) % 997) * w1) % 997)), some (vI (((((σ 37 0 w3) % 997) * w2) + ((wr ((wr (7 * (σ 37 0 w3))) + 1)) % 997)) % 997)), some (vI (w3 + 1)), none]) (lsub_some (lsub_some (lsub_some (lsub_some (lsub_none lsub_nil))))) ?_
        exact ih6 (((((σ 37 0 w3) % 997) * w1) % 997)) ((((((σ 37 0 w3) % 997) * w2) + ((wr ((wr (7 * (σ 37 0 w3))) + 1)) % 997)) % 997)) ((w3 + 1))  (by omega) (by omega) (by omega) (by first | rfl | (rw [lin_stepI (by omega)]; dsimp only; rw [← i0_6])) (by first | rfl | (rw [lin_stepW (v := σ 37 0) (by omega) (hb _ (by omega) (by omega)), ← i1_6])) (by omega) (by omega)  
  exact L6 244 (1) (0) (0)  (by omega) (by omega) (by omega) (by first | rfl | (rw [lin_stepI (by omega)]; dsimp only; rw [← i0_6])) (by first | rfl | (rw [lin_stepW (v := σ 37 0) (by omega) (hb _ (by omega) (by omega)), ← i1_6])) (by omega) (by omega)  
theorem y_product {eb : Bool} {d : Nat} {P : Option Vl → Mm → Prop} {σ : Mm} {x y : Int} (b_x : 0 ≤ x ∧ x ≤ 3) (b_y : 0 ≤ y ∧ y ≤ 3)  (k : 0 ≤ σ 35 0 (4 * x + y) ∧ σ 35 0 (4 * x + y) ≤ 3 → P (some (vI (σ 35 0 (4 * x + y)))) σ) : WT (true, eb, true) (d + 1) 145 [vR 30 0, vI x, vI y] σ P := by
  refine WT_in fun K hK => ?_
  have hK : StpY (true, eb, true) cX6_product RX6 (some .int) (WT (true, eb, true) (d + 0)) P K := hK
  have hM := hK.1
  have hC := hK.1.1
  show K 0 [some (vR 30 0), some (vI x), some (vI y)] [] σ
  refine r_aload_n hC dX6_product_0 rfl ?_
  refine z_getR hM dX6_product_1 fl_RX6_22 rfl rfl (vld_of (n := 1) rfl (by omega) (by omega)) ?_
  refine r_iconst hC dX6_product_4 rfl ?_
  refine r_iload_n hC dX6_product_5 rfl ?_
  refine r_imulE hC ((4 * x)) dX6_product_6 (by omega) (by unfold inR; omega) ?_
  refine r_iload_n hC dX6_product_7 rfl ?_
  refine r_iaddE hC (((4 * x) + y)) dX6_product_8 (by omega) (by unfold inR; omega) ?_
  refine z_iald hM dX6_product_9 rfl (by omega) (by omega) (fun v1 h_v1 o_v1 t_v1 => ?_)
  have w_v1 := t_v1 (Or.inl trivial)
  clear t_v1
  subst w_v1
  have q_v1 : 0 ≤ (σ 35 0 ((4 * x) + y)) ∧ (σ 35 0 ((4 * x) + y)) ≤ 3 := o_v1
  refine y_iret hK rfl dX6_product_10 ?_
  exact k (by omega)
theorem y_multiply {eb : Bool} {n : Nat} {d : Nat} {P : Option Vl → Mm → Prop} {σ : Mm} {t0 : Int} (qg0 : σ 30 0 8 = (n : Int)) (qg1 : σ 38 0 0 = t0) (hn1 : 1 ≤ n) (hn : n ≤ 242)  (k : ∀ ρ : Mm, Gx (fun c x y => c = 38 ∧ x = 0) σ ρ → ρ 38 0 0 = (tbl (σ 35 0) (σ 37 0) n) → P none ρ) : WT (true, eb, true) (d + 2) 172 [vR 30 0] σ P := by
  refine WT_in fun K hK => ?_
  have hK : StpY (true, eb, true) cX6_multiply RX6 (none) (WT (true, eb, true) (d + 1)) P K := hK
  have hM := hK.1
  have hC := hK.1.1
  show K 0 [some (vR 30 0), none, none] [] σ
  refine r_aload_n hC dX6_multiply_0 rfl ?_
  refine z_getR hM dX6_multiply_1 fl_RX6_28 rfl rfl (vld_of (n := 1) rfl (by omega) (by omega)) ?_
  refine r_iconst hC dX6_multiply_4 rfl ?_
  refine z_iald hM dX6_multiply_5 rfl (by omega) (by omega) (fun v1 h_v1 o_v1 t_v1 => ?_)
  have w_v1 := t_v1 (Or.inr (Or.inr (Or.inr ⟨rfl, by first | exact True.intro | exact (rfl : true = true)⟩)))
  clear t_v1
  subst w_v1
  refine r_iconst hC dX6_multiply_6 rfl ?_
  refine z_ins2 hM dX6_multiply_7 tl_RX6_164 rfl (Nat.le_of_ble_eq_true rfl) (Nat.le_of_ble_eq_true rfl) ?_
  refine y_rest (by omega) (fun h2 => ?_)
  refine r_istore_n hC dX6_multiply_10 rfl ?_
  refine r_iconst hC dX6_multiply_11 rfl ?_
  refine r_istore_n hC dX6_multiply_12 rfl ?_
  have L13 : ∀ (n13 : Nat) (w3 w4 : Int), 0 ≤ w3 ∧ w3 ≤ 3 → 1 ≤ w4 ∧ w4 ≤ 242 → ((w3) = tbl (σ 35 0) (σ 37 0) ((w4)).toNat) → ((w4) ≤ (n : Int)) → 242 - w4 < (n13 : Int) → K 13 [some (vR 30 0), some (vI w3), some (vI w4)] [] σ := by
    intro n13
    induction n13 with
    | zero => intro w3 w4  f_w3 f_w4 i0_13 i1_13 hm  ; omega
    | succ n13 ih13 =>
      intro w3 w4  f_w3 f_w4 i0_13 i1_13 hm13  
      refine r_iload_n hC dX6_multiply_13 rfl ?_
      refine r_aload_n hC dX6_multiply_14 rfl ?_
      refine z_getI (jz := 8) hM dX6_multiply_15 fl_RX6_105 rfl rfl rfl (fun v5 h_v5 o_v5 t_v5 => ?_)
      have e_v5 : (n : Int) = v5 := ((t_v5 ((by simp [Tk, Tb, DL, DR]))).trans qg0).symm
      clear t_v5
      subst e_v5
      refine r_icmp_ge (tgt := 43) hC dX6_multiply_18 rfl (fun h6 => ?_) (fun h6 => ?_)
      · refine r_aload_n hC dX6_multiply_43 rfl ?_
        refine z_getR hM dX6_multiply_44 fl_RX6_31 rfl rfl (vld_of (n := 1) rfl (by omega) (by omega)) ?_
        refine r_iconst hC dX6_multiply_47 rfl ?_
        refine r_iload_n hC dX6_multiply_48 rfl ?_
        refine z_iastG hM dX6_multiply_49 rfl (by omega) (by omega) (by simp [Tl, DL, DF]) (by first | trivial | (simp only [Okv]; omega) | (simp [Okv]; try omega)) (fun ρ7 a_ρ7 q_ρ7 => ?_)
        refine y_vret hK rfl dX6_multiply_50 ?_
        have hs0 : w3 = tbl (σ 35 0) (σ 37 0) n := at_nat (n := n) (f := fun m => tbl (σ 35 0) (σ 37 0) m) i0_13 (by omega)
        exact k _ ((Gx.rf).al a_ρ7 (by first | (simp; done) | omega | (simp; omega))) (by have hq := q_ρ7; exact hq.trans hs0)
      · refine r_aload_n hC dX6_multiply_21 rfl ?_
        refine r_iload_n hC dX6_multiply_22 rfl ?_
        refine r_aload_n hC dX6_multiply_23 rfl ?_
        refine z_getR hM dX6_multiply_24 fl_RX6_28 rfl rfl (vld_of (n := 1) rfl (by omega) (by omega)) ?_
        refine r_iload_n hC dX6_multiply_27 rfl ?_
        refine z_iald hM dX6_multiply_28 rfl (by omega) (by omega) (fun v8 h_v8 o_v8 t_v8 => ?_)
        have w_v8 := t_v8 (Or.inr (Or.inr (Or.inr ⟨rfl, by first | exact True.intro | exact (rfl : true = true)⟩)))
        clear t_v8
        subst w_v8
        refine r_iconst hC dX6_multiply_29 rfl ?_
        refine z_ins2 hM dX6_multiply_30 tl_RX6_164 rfl (Nat.le_of_ble_eq_true rfl) (Nat.le_of_ble_eq_true rfl) ?_
        refine y_rest (by omega) (fun h9 => ?_)
        refine z_inv2 hM dX6_multiply_33 vl_RX6_88 rfl rfl rfl (Nat.le_of_ble_eq_true rfl) (Nat.le_of_ble_eq_true rfl) ?_
        refine y_product (by omega) (by omega) (fun h10 => ?_)
        refine r_istore_n hC dX6_multiply_36 rfl ?_
        refine r_iincE hC ((w4 + 1)) dX6_multiply_37 rfl rfl (by omega) (by unfold inR; omega) ?_
        refine r_goto (tgt := 13) hC dX6_multiply_40 rfl ?_
        exact ih13 ((σ 35 0 (4 * w3 + ((σ 37 0 w4) % 4)))) ((w4 + 1))  (by omega) (by omega) (by first | rfl | (rw [tbl_stepI (by omega), ← i0_13])) (by omega) (by omega)  
  exact L13 244 (((σ 37 0 0) % 4)) (1)  (by omega) (by omega) (by first | rfl | (rw [tbl_stepI (by omega), ← i0_13])) (by omega) (by omega)  
