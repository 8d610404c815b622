-- the reference: questions
theorem m_placeOf {ea eb : Bool} {d : Nat} {P : Option Vl → Mm → Prop} {σ : Mm} {l t : Int} (b_l : 0 ≤ l ∧ l ≤ 7)  (k : ∀ r : Int, 0 ≤ r ∧ r ≤ 121 → P (some (vI r)) σ) : WT (ea, eb, false) (d + 3) 191 [vR 30 0, vI l, vI t] σ P := by
  refine WT_in fun K hK => ?_
  have hK : StpY (ea, eb, false) cX6_placeOf RX6 (some .int) (WT (ea, eb, false) (d + 2)) P K := hK
  have hM := hK.1
  have hC := hK.1.1
  show K 0 [some (vR 30 0), some (vI l), some (vI t), none] [] σ
  refine r_rngz hC (fun g0 => ?_)
  have r_t : -2147483648 ≤ t ∧ t ≤ 2147483647 := inR_le (g0 (vI t) (by simp))
  refine r_iconst hC dX6_placeOf_0 rfl ?_
  refine r_istore_n hC dX6_placeOf_1 rfl ?_
  have L2 : ∀ (n2 : Nat) (w1 : Int), 0 ≤ w1 ∧ w1 ≤ 121 → 121 - w1 < (n2 : Int) → K 2 [some (vR 30 0), some (vI l), some (vI t), some (vI w1)] [] σ := by
    intro n2
    induction n2 with
    | zero => intro w1  f_w1  hm ; omega
    | succ n2 ih2 =>
      intro w1  f_w1  hm2 
      refine r_iload_n hC dX6_placeOf_2 rfl ?_
      refine r_aload_n hC dX6_placeOf_3 rfl ?_
      refine r_iload_n hC dX6_placeOf_4 rfl ?_
      refine z_inv1 hM dX6_placeOf_5 vl_RX6_116 rfl rfl rfl (Nat.le_of_ble_eq_true rfl) (Nat.le_of_ble_eq_true rfl) ?_
      refine m_heldOf (by omega) (fun v2 h_v2 t_v2 => ?_)
      have J32_3 : K 32 [some (vR 30 0), some (vI l), some (vI t), some (vI w1)] [] σ := by
        refine r_iload_n hC dX6_placeOf_32 rfl ?_
        refine y_iret hK rfl dX6_placeOf_33 ?_
        exact k _ (by omega)
      refine r_icmp_ge (tgt := 32) hC dX6_placeOf_8 rfl (fun h3 => ?_) (fun h3 => ?_)
      · exact J32_3
      · refine r_aload_n hC dX6_placeOf_11 rfl ?_
        refine z_getR hM dX6_placeOf_12 fl_RX6_13 rfl rfl (vld_of (n := 1) rfl (by omega) (by omega)) ?_
        refine r_bipush hC dX6_placeOf_15 rfl ?_
        refine r_iload_n hC dX6_placeOf_17 rfl ?_
        refine r_imulE hC ((121 * l)) dX6_placeOf_18 (by omega) (by unfold inR; omega) ?_
        refine r_iload_n hC dX6_placeOf_19 rfl ?_
        refine r_iaddE hC (((121 * l) + w1)) dX6_placeOf_20 (by omega) (by unfold inR; omega) ?_
        refine z_iald hM dX6_placeOf_21 rfl (by omega) (by omega) (fun v5 h_v5 o_v5 t_v5 => ?_)
        refine r_iload_n hC dX6_placeOf_22 rfl ?_
        refine r_icmp_gt (tgt := 32) hC dX6_placeOf_23 rfl (fun h6 => ?_) (fun h6 => ?_)
        · exact J32_3
        · refine r_iincE hC ((w1 + 1)) dX6_placeOf_26 rfl rfl (by omega) (by unfold inR; omega) ?_
          refine r_goto (tgt := 2) hC dX6_placeOf_29 rfl ?_
          exact ih2 ((w1 + 1))  (by omega)  (by omega) 
  exact L2 123 (0)  (by omega)  (by omega) 
theorem m_aheadOf {ea eb : Bool} {d : Nat} {P : Option Vl → Mm → Prop} {σ : Mm} {l t : Int} (b_l : 0 ≤ l ∧ l ≤ 7)  (k : ∀ r : Int, 0 ≤ r ∧ r ≤ 121 → P (some (vI r)) σ) : WT (ea, eb, false) (d + 4) 216 [vR 30 0, vI l, vI t] σ P := by
  refine WT_in fun K hK => ?_
  have hK : StpY (ea, eb, false) cX6_aheadOf RX6 (some .int) (WT (ea, eb, false) (d + 3)) P K := hK
  have hM := hK.1
  have hC := hK.1.1
  show K 0 [some (vR 30 0), some (vI l), some (vI t)] [] σ
  refine r_rngz hC (fun g0 => ?_)
  have r_t : -2147483648 ≤ t ∧ t ≤ 2147483647 := inR_le (g0 (vI t) (by simp))
  refine r_iload_n hC dX6_aheadOf_0 rfl ?_
  refine r_ldc hC dX6_aheadOf_1 co_RX6_160 rfl ?_
  have J18_2 : ∀ (w2 : Int), 0 ≤ w2 ∧ w2 ≤ 121 → K 18 [some (vR 30 0), some (vI l), some (vI t)] [vI w2] σ := by
    intro w2  f_w2 
    refine y_iret hK rfl dX6_aheadOf_18 ?_
    exact k _ (by omega)
  refine r_icmp_ne (tgt := 10) hC dX6_aheadOf_3 rfl (fun h1 => ?_) (fun h1 => ?_)
  · refine r_aload_n hC dX6_aheadOf_10 rfl ?_
    refine r_iload_n hC dX6_aheadOf_11 rfl ?_
    refine r_iload_n hC dX6_aheadOf_12 rfl ?_
    refine r_iconst hC dX6_aheadOf_13 rfl ?_
    refine r_isubE hC ((t - 1)) dX6_aheadOf_14 (by omega) (by unfold inR; omega) ?_
    refine z_inv2 hM dX6_aheadOf_15 vl_RX6_224 rfl rfl rfl (Nat.le_of_ble_eq_true rfl) (Nat.le_of_ble_eq_true rfl) ?_
    refine m_placeOf (by omega) (fun v4 h_v4 => ?_)
    exact J18_2 (v4)  (by omega) 
  · refine r_iconst hC dX6_aheadOf_6 rfl ?_
    refine r_goto (tgt := 18) hC dX6_aheadOf_7 rfl ?_
    exact J18_2 (0)  (by omega) 
theorem m_total {ea eb : Bool} {d : Nat} {P : Option Vl → Mm → Prop} {σ : Mm} {l w : Int}   (k : ∀ r : Int, -2147483648 ≤ r ∧ r ≤ 2147483647 → P (some (vI r)) σ) : WT (ea, eb, false) (d + 6) 214 [vR 30 0, vI l, vI w] σ P := by
  refine WT_in fun K hK => ?_
  have hK : StpY (ea, eb, false) cX6_total RX6 (some .int) (WT (ea, eb, false) (d + 5)) P K := hK
  have hM := hK.1
  have hC := hK.1.1
  show K 0 [some (vR 30 0), some (vI l), some (vI w)] [] σ
  refine r_rngz hC (fun g0 => ?_)
  have r_l : -2147483648 ≤ l ∧ l ≤ 2147483647 := inR_le (g0 (vI l) (by simp))
  have r_w : -2147483648 ≤ w ∧ w ≤ 2147483647 := inR_le (g0 (vI w) (by simp))
  refine r_aload_n hC dX6_total_0 rfl ?_
  refine r_iload_n hC dX6_total_1 rfl ?_
  refine r_iload_n hC dX6_total_2 rfl ?_
  refine z_inv2 hM dX6_total_3 vl_RX6_207 rfl rfl rfl (Nat.le_of_ble_eq_true rfl) (Nat.le_of_ble_eq_true rfl) ?_
  refine m_isNumber (fun h1 => ?_) ?_
  · refine r_if_eq (tgt := 26) hC dX6_total_6 rfl (fun h2 => by omega) (fun h2 => ?_)
    refine r_aload_n hC dX6_total_9 rfl ?_
    refine r_iload_n hC dX6_total_10 rfl ?_
    refine r_iconst hC dX6_total_11 rfl ?_
    refine r_aload_n hC dX6_total_12 rfl ?_
    refine r_iload_n hC dX6_total_13 rfl ?_
    refine z_inv1 hM dX6_total_14 vl_RX6_116 rfl rfl rfl (Nat.le_of_ble_eq_true rfl) (Nat.le_of_ble_eq_true rfl) ?_
    refine m_heldOf (by omega) (fun v3 h_v3 t_v3 => ?_)
    refine r_iconst hC dX6_total_17 rfl ?_
    refine r_isubE hC ((v3 - 1)) dX6_total_18 (by omega) (by unfold inR; omega) ?_
    refine r_iload_n hC dX6_total_19 rfl ?_
    refine z_inv4 hM dX6_total_20 vl_RX6_243 rfl rfl rfl (Nat.le_of_ble_eq_true rfl) (Nat.le_of_ble_eq_true rfl) ?_
    refine m_comesFrom (by omega) (by omega) (by omega) (by omega) (fun v4 h_v4 => ?_)
    refine r_goto (tgt := 28) hC dX6_total_23 rfl ?_
    refine y_iret hK rfl dX6_total_28 ?_
    exact k _ (by omega)
  · refine r_if_eq (tgt := 26) hC dX6_total_6 rfl (fun h5 => ?_) (fun h5 => by omega)
    refine r_ldc hC dX6_total_26 co_RX6_160 rfl ?_
    refine y_iret hK rfl dX6_total_28 ?_
    exact k _ (by omega)
theorem m_part {ea eb : Bool} {d : Nat} {P : Option Vl → Mm → Prop} {σ : Mm} {l f z w : Int}   (k : ∀ r : Int, -2147483648 ≤ r ∧ r ≤ 2147483647 → P (some (vI r)) σ) : WT (ea, eb, false) (d + 6) 215 [vR 30 0, vI l, vI f, vI z, vI w] σ P := by
  refine WT_in fun K hK => ?_
  have hK : StpY (ea, eb, false) cX6_part RX6 (some .int) (WT (ea, eb, false) (d + 5)) P K := hK
  have hM := hK.1
  have hC := hK.1.1
  show K 0 [some (vR 30 0), some (vI l), some (vI f), some (vI z), some (vI w)] [] σ
  refine r_rngz hC (fun g0 => ?_)
  have r_l : -2147483648 ≤ l ∧ l ≤ 2147483647 := inR_le (g0 (vI l) (by simp))
  have r_f : -2147483648 ≤ f ∧ f ≤ 2147483647 := inR_le (g0 (vI f) (by simp))
  have r_z : -2147483648 ≤ z ∧ z ≤ 2147483647 := inR_le (g0 (vI z) (by simp))
  have r_w : -2147483648 ≤ w ∧ w ≤ 2147483647 := inR_le (g0 (vI w) (by simp))
  refine r_aload_n hC dX6_part_0 rfl ?_
  refine r_iload_n hC dX6_part_1 rfl ?_
  refine r_iload hC dX6_part_2 rfl ?_
  refine z_inv2 hM dX6_part_4 vl_RX6_207 rfl rfl rfl (Nat.le_of_ble_eq_true rfl) (Nat.le_of_ble_eq_true rfl) ?_
  refine m_isNumber (fun h1 => ?_) ?_
  · refine r_if_eq (tgt := 33) hC dX6_part_7 rfl (fun h2 => by omega) (fun h2 => ?_)
    refine r_aload_n hC dX6_part_10 rfl ?_
    refine r_iload_n hC dX6_part_11 rfl ?_
    refine r_iload_n hC dX6_part_12 rfl ?_
    refine z_inv2 hM dX6_part_13 vl_RX6_262 rfl rfl rfl (Nat.le_of_ble_eq_true rfl) (Nat.le_of_ble_eq_true rfl) ?_
    refine m_isEvent (fun h3 x_h3 => ?_) ?_
    · refine r_if_eq (tgt := 33) hC dX6_part_16 rfl (fun h4 => by omega) (fun h4 => ?_)
      refine r_aload_n hC dX6_part_19 rfl ?_
      refine r_iload_n hC dX6_part_20 rfl ?_
      refine r_iload_n hC dX6_part_21 rfl ?_
      refine z_inv2 hM dX6_part_22 vl_RX6_262 rfl rfl rfl (Nat.le_of_ble_eq_true rfl) (Nat.le_of_ble_eq_true rfl) ?_
      refine m_isEvent (fun h5 x_h5 => ?_) ?_
      · refine r_if_eq (tgt := 33) hC dX6_part_25 rfl (fun h6 => by omega) (fun h6 => ?_)
        refine r_iload_n hC dX6_part_28 rfl ?_
        refine r_iload_n hC dX6_part_29 rfl ?_
        refine r_icmp_le (tgt := 36) hC dX6_part_30 rfl (fun h7 => ?_) (fun h7 => ?_)
        · refine r_aload_n hC dX6_part_36 rfl ?_
          refine r_iload_n hC dX6_part_37 rfl ?_
          refine r_iload_n hC dX6_part_38 rfl ?_
          refine r_iload_n hC dX6_part_39 rfl ?_
          refine r_iload hC dX6_part_40 rfl ?_
          refine z_inv4 hM dX6_part_42 vl_RX6_243 rfl rfl rfl (Nat.le_of_ble_eq_true rfl) (Nat.le_of_ble_eq_true rfl) ?_
          refine m_comesFrom (by omega) (by omega) (by omega) (by omega) (fun v8 h_v8 => ?_)
          refine y_iret hK rfl dX6_part_45 ?_
          exact k _ (by omega)
        · refine r_ldc hC dX6_part_33 co_RX6_160 rfl ?_
          refine y_iret hK rfl dX6_part_35 ?_
          exact k _ (by omega)
      · refine r_if_eq (tgt := 33) hC dX6_part_25 rfl (fun h9 => ?_) (fun h9 => by omega)
        refine r_ldc hC dX6_part_33 co_RX6_160 rfl ?_
        refine y_iret hK rfl dX6_part_35 ?_
        exact k _ (by omega)
    · refine r_if_eq (tgt := 33) hC dX6_part_16 rfl (fun h10 => ?_) (fun h10 => by omega)
      refine r_ldc hC dX6_part_33 co_RX6_160 rfl ?_
      refine y_iret hK rfl dX6_part_35 ?_
      exact k _ (by omega)
  · refine r_if_eq (tgt := 33) hC dX6_part_7 rfl (fun h11 => ?_) (fun h11 => by omega)
    refine r_ldc hC dX6_part_33 co_RX6_160 rfl ?_
    refine y_iret hK rfl dX6_part_35 ?_
    exact k _ (by omega)
theorem m_during {ea eb : Bool} {d : Nat} {P : Option Vl → Mm → Prop} {σ : Mm} {l f z w : Int}   (k : ∀ r : Int, -2147483648 ≤ r ∧ r ≤ 2147483647 → P (some (vI r)) σ) : WT (ea, eb, false) (d + 6) 217 [vR 30 0, vI l, vI f, vI z, vI w] σ P := by
  refine WT_in fun K hK => ?_
  have hK : StpY (ea, eb, false) cX6_during RX6 (some .int) (WT (ea, eb, false) (d + 5)) P K := hK
  have hM := hK.1
  have hC := hK.1.1
  show K 0 [some (vR 30 0), some (vI l), some (vI f), some (vI z), some (vI w), none, none] [] σ
  refine r_rngz hC (fun g0 => ?_)
  have r_l : -2147483648 ≤ l ∧ l ≤ 2147483647 := inR_le (g0 (vI l) (by simp))
  have r_f : -2147483648 ≤ f ∧ f ≤ 2147483647 := inR_le (g0 (vI f) (by simp))
  have r_z : -2147483648 ≤ z ∧ z ≤ 2147483647 := inR_le (g0 (vI z) (by simp))
  have r_w : -2147483648 ≤ w ∧ w ≤ 2147483647 := inR_le (g0 (vI w) (by simp))
  refine r_aload_n hC dX6_during_0 rfl ?_
  refine r_iload_n hC dX6_during_1 rfl ?_
  refine r_iload hC dX6_during_2 rfl ?_
  refine z_inv2 hM dX6_during_4 vl_RX6_207 rfl rfl rfl (Nat.le_of_ble_eq_true rfl) (Nat.le_of_ble_eq_true rfl) ?_
  refine m_isNumber (fun h1 => ?_) ?_
  · refine r_if_ne (tgt := 13) hC dX6_during_7 rfl (fun h2 => ?_) (fun h2 => by omega)
    refine r_aload_n hC dX6_during_13 rfl ?_
    refine r_iload_n hC dX6_during_14 rfl ?_
    refine r_iload_n hC dX6_during_15 rfl ?_
    refine z_inv2 hM dX6_during_16 vl_RX6_265 rfl rfl rfl (Nat.le_of_ble_eq_true rfl) (Nat.le_of_ble_eq_true rfl) ?_
    refine m_aheadOf (by omega) (fun v3 h_v3 => ?_)
    refine r_istore hC dX6_during_19 rfl ?_
    refine r_aload_n hC dX6_during_21 rfl ?_
    refine r_iload_n hC dX6_during_22 rfl ?_
    refine r_iload_n hC dX6_during_23 rfl ?_
    refine z_inv2 hM dX6_during_24 vl_RX6_224 rfl rfl rfl (Nat.le_of_ble_eq_true rfl) (Nat.le_of_ble_eq_true rfl) ?_
    refine m_placeOf (by omega) (fun v4 h_v4 => ?_)
    refine r_iconst hC dX6_during_27 rfl ?_
    refine r_isubE hC ((v4 - 1)) dX6_during_28 (by omega) (by unfold inR; omega) ?_
    refine r_istore hC dX6_during_29 rfl ?_
    refine r_aload_n hC dX6_during_31 rfl ?_
    refine r_iload_n hC dX6_during_32 rfl ?_
    refine r_iload hC dX6_during_33 rfl ?_
    refine r_iload hC dX6_during_35 rfl ?_
    refine r_iload hC dX6_during_37 rfl ?_
    refine z_inv4 hM dX6_during_39 vl_RX6_243 rfl rfl rfl (Nat.le_of_ble_eq_true rfl) (Nat.le_of_ble_eq_true rfl) ?_
    refine m_comesFrom (by omega) (by omega) (by omega) (by omega) (fun v5 h_v5 => ?_)
    refine y_iret hK rfl dX6_during_42 ?_
    exact k _ (by omega)
  · refine r_if_ne (tgt := 13) hC dX6_during_7 rfl (fun h6 => by omega) (fun h6 => ?_)
    refine r_ldc hC dX6_during_10 co_RX6_160 rfl ?_
    refine y_iret hK rfl dX6_during_12 ?_
    exact k _ (by omega)
theorem m_many {ea eb : Bool} {d : Nat} {P : Option Vl → Mm → Prop} {σ : Mm} {l f z : Int}   (k : ∀ r : Int, -1 ≤ r ∧ r ≤ 121 → P (some (vI r)) σ) : WT (ea, eb, false) (d + 5) 218 [vR 30 0, vI l, vI f, vI z] σ P := by
  refine WT_in fun K hK => ?_
  have hK : StpY (ea, eb, false) cX6_many RX6 (some .int) (WT (ea, eb, false) (d + 4)) P K := hK
  have hM := hK.1
  have hC := hK.1.1
  show K 0 [some (vR 30 0), some (vI l), some (vI f), some (vI z), none] [] σ
  refine r_rngz hC (fun g0 => ?_)
  have r_l : -2147483648 ≤ l ∧ l ≤ 2147483647 := inR_le (g0 (vI l) (by simp))
  have r_f : -2147483648 ≤ f ∧ f ≤ 2147483647 := inR_le (g0 (vI f) (by simp))
  have r_z : -2147483648 ≤ z ∧ z ≤ 2147483647 := inR_le (g0 (vI z) (by simp))
  refine r_aload_n hC dX6_many_0 rfl ?_
  refine r_iload_n hC dX6_many_1 rfl ?_
  refine z_inv1 hM dX6_many_2 vl_RX6_124 rfl rfl rfl (Nat.le_of_ble_eq_true rfl) (Nat.le_of_ble_eq_true rfl) ?_
  refine m_isLane (fun h1 => ?_) ?_
  · refine r_if_ne (tgt := 10) hC dX6_many_5 rfl (fun h2 => ?_) (fun h2 => by omega)
    refine r_aload_n hC dX6_many_10 rfl ?_
    refine r_iload_n hC dX6_many_11 rfl ?_
    refine r_iload_n hC dX6_many_12 rfl ?_
    refine z_inv2 hM dX6_many_13 vl_RX6_224 rfl rfl rfl (Nat.le_of_ble_eq_true rfl) (Nat.le_of_ble_eq_true rfl) ?_
    refine m_placeOf (by omega) (fun v3 h_v3 => ?_)
    refine r_aload_n hC dX6_many_16 rfl ?_
    refine r_iload_n hC dX6_many_17 rfl ?_
    refine r_iload_n hC dX6_many_18 rfl ?_
    refine z_inv2 hM dX6_many_19 vl_RX6_265 rfl rfl rfl (Nat.le_of_ble_eq_true rfl) (Nat.le_of_ble_eq_true rfl) ?_
    refine m_aheadOf (by omega) (fun v4 h_v4 => ?_)
    refine r_isubE hC ((v3 - v4)) dX6_many_22 (by omega) (by unfold inR; omega) ?_
    refine r_istore hC dX6_many_23 rfl ?_
    refine r_iload hC dX6_many_25 rfl ?_
    have J36_6 : ∀ (w6 : Int), 0 ≤ w6 ∧ w6 ≤ 121 → K 36 [some (vR 30 0), some (vI l), some (vI f), some (vI z), some (vI (v3 - v4))] [vI w6] σ := by
      intro w6  f_w6 
      refine y_iret hK rfl dX6_many_36 ?_
      exact k _ (by omega)
    refine r_if_ge (tgt := 34) hC dX6_many_27 rfl (fun h5 => ?_) (fun h5 => ?_)
    · refine r_iload hC dX6_many_34 rfl ?_
      exact J36_6 ((v3 - v4))  (by omega) 
    · refine r_iconst hC dX6_many_30 rfl ?_
      refine r_goto (tgt := 36) hC dX6_many_31 rfl ?_
      exact J36_6 (0)  (by omega) 
  · refine r_if_ne (tgt := 10) hC dX6_many_5 rfl (fun h8 => by omega) (fun h8 => ?_)
    refine r_iconst hC dX6_many_8 rfl ?_
    refine y_iret hK rfl dX6_many_9 ?_
    exact k _ (by omega)
theorem m_reach {ea eb : Bool} {d : Nat} {P : Option Vl → Mm → Prop} {σ : Mm} {l w b : Int}   (k : ∀ r : Int, -1 ≤ r ∧ r ≤ 121 → P (some (vI r)) σ) : WT (ea, eb, false) (d + 6) 219 [vR 30 0, vI l, vI w, vI b] σ P := by
  refine WT_in fun K hK => ?_
  have hK : StpY (ea, eb, false) cX6_reach RX6 (some .int) (WT (ea, eb, false) (d + 5)) P K := hK
  have hM := hK.1
  have hC := hK.1.1
  show K 0 [some (vR 30 0), some (vI l), some (vI w), some (vI b), none] [] σ
  refine r_rngz hC (fun g0 => ?_)
  have r_l : -2147483648 ≤ l ∧ l ≤ 2147483647 := inR_le (g0 (vI l) (by simp))
  have r_w : -2147483648 ≤ w ∧ w ≤ 2147483647 := inR_le (g0 (vI w) (by simp))
  have r_b : -2147483648 ≤ b ∧ b ≤ 2147483647 := inR_le (g0 (vI b) (by simp))
  refine r_aload_n hC dX6_reach_0 rfl ?_
  refine r_iload_n hC dX6_reach_1 rfl ?_
  refine r_iload_n hC dX6_reach_2 rfl ?_
  refine z_inv2 hM dX6_reach_3 vl_RX6_207 rfl rfl rfl (Nat.le_of_ble_eq_true rfl) (Nat.le_of_ble_eq_true rfl) ?_
  refine m_isNumber (fun h1 => ?_) ?_
  · refine r_if_ne (tgt := 11) hC dX6_reach_6 rfl (fun h2 => ?_) (fun h2 => by omega)
    refine r_iconst hC dX6_reach_11 rfl ?_
    refine r_istore hC dX6_reach_12 rfl ?_
    have L14 : ∀ (n14 : Nat) (w3 : Int), 1 ≤ w3 ∧ w3 ≤ 122 → 122 - w3 < (n14 : Int) → K 14 [some (vR 30 0), some (vI l), some (vI w), some (vI b), some (vI w3)] [] σ := by
      intro n14
      induction n14 with
      | zero => intro w3  f_w3  hm ; omega
      | succ n14 ih14 =>
        intro w3  f_w3  hm14 
        refine r_iload hC dX6_reach_14 rfl ?_
        refine r_aload_n hC dX6_reach_16 rfl ?_
        refine r_iload_n hC dX6_reach_17 rfl ?_
        refine z_inv1 hM dX6_reach_18 vl_RX6_116 rfl rfl rfl (Nat.le_of_ble_eq_true rfl) (Nat.le_of_ble_eq_true rfl) ?_
        refine m_heldOf (by omega) (fun v4 h_v4 t_v4 => ?_)
        refine r_icmp_gt (tgt := 51) hC dX6_reach_21 rfl (fun h5 => ?_) (fun h5 => ?_)
        · refine r_iconst hC dX6_reach_51 rfl ?_
          refine y_iret hK rfl dX6_reach_52 ?_
          exact k _ (by omega)
        · refine r_aload_n hC dX6_reach_24 rfl ?_
          refine r_iload_n hC dX6_reach_25 rfl ?_
          refine r_iconst hC dX6_reach_26 rfl ?_
          refine r_iload hC dX6_reach_27 rfl ?_
          refine r_iconst hC dX6_reach_29 rfl ?_
          refine r_isubE hC ((w3 - 1)) dX6_reach_30 (by omega) (by unfold inR; omega) ?_
          refine r_iload_n hC dX6_reach_31 rfl ?_
          refine z_inv4 hM dX6_reach_32 vl_RX6_243 rfl rfl rfl (Nat.le_of_ble_eq_true rfl) (Nat.le_of_ble_eq_true rfl) ?_
          refine m_comesFrom (by omega) (by omega) (by omega) (by omega) (fun v6 h_v6 => ?_)
          refine r_iload_n hC dX6_reach_35 rfl ?_
          refine z_ins2 hM dX6_reach_36 tl_RX6_200 rfl (Nat.le_of_ble_eq_true rfl) (Nat.le_of_ble_eq_true rfl) ?_
          refine m_isReached (fun v7 h_v7 => ?_)
          refine r_if_eq (tgt := 45) hC dX6_reach_39 rfl (fun h8 => ?_) (fun h8 => ?_)
          · refine r_iincE hC ((w3 + 1)) dX6_reach_45 rfl rfl (by omega) (by unfold inR; omega) ?_
            refine r_goto (tgt := 14) hC dX6_reach_48 rfl ?_
            exact ih14 ((w3 + 1))  (by omega)  (by omega) 
          · refine r_iload hC dX6_reach_42 rfl ?_
            refine y_iret hK rfl dX6_reach_44 ?_
            exact k _ (by omega)
    exact L14 123 (1)  (by omega)  (by omega) 
  · refine r_if_ne (tgt := 11) hC dX6_reach_6 rfl (fun h9 => by omega) (fun h9 => ?_)
    refine r_iconst hC dX6_reach_9 rfl ?_
    refine y_iret hK rfl dX6_reach_10 ?_
    exact k _ (by omega)
theorem m_reachBack_S {eb : Bool} {d : Nat} {P : Option Vl → Mm → Prop} {σ : Mm} {l w b hl : Int} (qg0 : σ 31 0 ((22 * l) + 5) = hl) (hL : InL σ)  (k : ∀ r : Int, -1 ≤ r ∧ r ≤ 120 → P (some (vI r)) σ) : WT (true, eb, false) (d + 6) 220 [vR 30 0, vI l, vI w, vI b] σ P := by
  refine WT_in fun K hK => ?_
  have hK : StpY (true, eb, false) cX6_reachBack RX6 (some .int) (WT (true, eb, false) (d + 5)) P K := hK
  have hM := hK.1
  have hC := hK.1.1
  show K 0 [some (vR 30 0), some (vI l), some (vI w), some (vI b), none] [] σ
  refine r_rngz hC (fun g0 => ?_)
  have r_l : -2147483648 ≤ l ∧ l ≤ 2147483647 := inR_le (g0 (vI l) (by simp))
  have r_w : -2147483648 ≤ w ∧ w ≤ 2147483647 := inR_le (g0 (vI w) (by simp))
  have r_b : -2147483648 ≤ b ∧ b ≤ 2147483647 := inR_le (g0 (vI b) (by simp))
  refine r_aload_n hC dX6_reachBack_0 rfl ?_
  refine r_iload_n hC dX6_reachBack_1 rfl ?_
  refine r_iload_n hC dX6_reachBack_2 rfl ?_
  refine z_inv2 hM dX6_reachBack_3 vl_RX6_207 rfl rfl rfl (Nat.le_of_ble_eq_true rfl) (Nat.le_of_ble_eq_true rfl) ?_
  refine m_isNumber (fun h1 => ?_) ?_
  · have b0_h1 : 0 ≤ hl ∧ hl ≤ 120 := by have := InL.h31 hL (l := l) (by omega) (by omega); have := qg0; omega
    refine r_if_ne (tgt := 11) hC dX6_reachBack_6 rfl (fun h2 => ?_) (fun h2 => by omega)
    refine r_iconst hC dX6_reachBack_11 rfl ?_
    refine r_istore hC dX6_reachBack_12 rfl ?_
    have L14 : ∀ (n14 : Nat) (w3 : Int), 1 ≤ w3 ∧ w3 ≤ 121 → 121 - w3 < (n14 : Int) → K 14 [some (vR 30 0), some (vI l), some (vI w), some (vI b), some (vI w3)] [] σ := by
      intro n14
      induction n14 with
      | zero => intro w3  f_w3  hm ; omega
      | succ n14 ih14 =>
        intro w3  f_w3  hm14 
        refine r_iload hC dX6_reachBack_14 rfl ?_
        refine r_aload_n hC dX6_reachBack_16 rfl ?_
        refine r_iload_n hC dX6_reachBack_17 rfl ?_
        refine z_inv1 hM dX6_reachBack_18 vl_RX6_116 rfl rfl rfl (Nat.le_of_ble_eq_true rfl) (Nat.le_of_ble_eq_true rfl) ?_
        refine m_heldOf (by omega) (fun v4 h_v4 t_v4 => ?_)
        have e_v4 : hl = v4 := ((t_v4 rfl).trans qg0).symm
        subst e_v4
        refine r_icmp_gt (tgt := 61) hC dX6_reachBack_21 rfl (fun h5 => ?_) (fun h5 => ?_)
        · refine r_iconst hC dX6_reachBack_61 rfl ?_
          refine y_iret hK rfl dX6_reachBack_62 ?_
          exact k _ (by omega)
        · refine r_aload_n hC dX6_reachBack_24 rfl ?_
          refine r_iload_n hC dX6_reachBack_25 rfl ?_
          refine r_aload_n hC dX6_reachBack_26 rfl ?_
          refine r_iload_n hC dX6_reachBack_27 rfl ?_
          refine z_inv1 hM dX6_reachBack_28 vl_RX6_116 rfl rfl rfl (Nat.le_of_ble_eq_true rfl) (Nat.le_of_ble_eq_true rfl) ?_
          refine m_heldOf (by omega) (fun v6 h_v6 t_v6 => ?_)
          have e_v6 : hl = v6 := ((t_v6 rfl).trans qg0).symm
          subst e_v6
          refine r_iload hC dX6_reachBack_31 rfl ?_
          refine r_isubE hC ((hl - w3)) dX6_reachBack_33 (by omega) (by unfold inR; omega) ?_
          refine r_aload_n hC dX6_reachBack_34 rfl ?_
          refine r_iload_n hC dX6_reachBack_35 rfl ?_
          refine z_inv1 hM dX6_reachBack_36 vl_RX6_116 rfl rfl rfl (Nat.le_of_ble_eq_true rfl) (Nat.le_of_ble_eq_true rfl) ?_
          refine m_heldOf (by omega) (fun v7 h_v7 t_v7 => ?_)
          have e_v7 : hl = v7 := ((t_v7 rfl).trans qg0).symm
          subst e_v7
          refine r_iconst hC dX6_reachBack_39 rfl ?_
          refine r_isubE hC ((hl - 1)) dX6_reachBack_40 (by omega) (by unfold inR; omega) ?_
          refine r_iload_n hC dX6_reachBack_41 rfl ?_
          refine z_inv4 hM dX6_reachBack_42 vl_RX6_243 rfl rfl rfl (Nat.le_of_ble_eq_true rfl) (Nat.le_of_ble_eq_true rfl) ?_
          refine m_comesFrom (by omega) (by omega) (by omega) (by omega) (fun v8 h_v8 => ?_)
          refine r_iload_n hC dX6_reachBack_45 rfl ?_
          refine z_ins2 hM dX6_reachBack_46 tl_RX6_200 rfl (Nat.le_of_ble_eq_true rfl) (Nat.le_of_ble_eq_true rfl) ?_
          refine m_isReached (fun v9 h_v9 => ?_)
          refine r_if_eq (tgt := 55) hC dX6_reachBack_49 rfl (fun h10 => ?_) (fun h10 => ?_)
          · refine r_iincE hC ((w3 + 1)) dX6_reachBack_55 rfl rfl (by omega) (by unfold inR; omega) ?_
            refine r_goto (tgt := 14) hC dX6_reachBack_58 rfl ?_
            exact ih14 ((w3 + 1))  (by omega)  (by omega) 
          · refine r_iload hC dX6_reachBack_52 rfl ?_
            refine y_iret hK rfl dX6_reachBack_54 ?_
            exact k _ (by omega)
    exact L14 122 (1)  (by omega)  (by omega) 
  · refine r_if_ne (tgt := 11) hC dX6_reachBack_6 rfl (fun h11 => by omega) (fun h11 => ?_)
    refine r_iconst hC dX6_reachBack_9 rfl ?_
    refine y_iret hK rfl dX6_reachBack_10 ?_
    exact k _ (by omega)
theorem m_reachBack {eb : Bool} {d : Nat} {P : Option Vl → Mm → Prop} {σ : Mm} {l w b : Int} (k : ∀ r : Int, -1 ≤ r ∧ r ≤ 120 → P (some (vI r)) σ) : WT (false, eb, false) (d + 6) 220 [vR 30 0, vI l, vI w, vI b] σ P := by
  refine WT_loose (true, eb, false) (fun h => by cases h) (fun h => h) (fun c j q => ?_) (fun ρ hL hF hT hO => ?_)
  · rcases q with q | q | q | q
    · exact Or.inl q
    · cases q.1
    · exact Or.inr (Or.inr (Or.inl q))
    · cases q.1
  · exact m_reachBack_S (qg0 := rfl) (hL rfl) (fun r hr => ⟨σ, k r hr, fun _ => Or.inr (hL rfl), fun h => Or.inl h, fun c i j q => hT c i j q⟩)
theorem m_bestOf {ea eb : Bool} {d : Nat} {P : Option Vl → Mm → Prop} {σ : Mm} {l m w : Int}   (k0 : P (some (vI (-1))) σ) (k1 : ∀ r : Int, 0 ≤ l ∧ l ≤ 3 ∧ 1 ≤ m ∧ 0 ≤ r ∧ r + m ≤ 121 ∧ 0 ≤ w ∧ w ≤ 6 → P (some (vI r)) σ) : WT (ea, eb, false) (d + 6) 221 [vR 30 0, vI l, vI m, vI w] σ P := by
  refine WT_in fun K hK => ?_
  have hK : StpY (ea, eb, false) cX6_bestOf RX6 (some .int) (WT (ea, eb, false) (d + 5)) P K := hK
  have hM := hK.1
  have hC := hK.1.1
  show K 0 [some (vR 30 0), some (vI l), some (vI m), some (vI w), none, none, none, none] [] σ
  refine r_rngz hC (fun g0 => ?_)
  have r_l : -2147483648 ≤ l ∧ l ≤ 2147483647 := inR_le (g0 (vI l) (by simp))
  have r_m : -2147483648 ≤ m ∧ m ≤ 2147483647 := inR_le (g0 (vI m) (by simp))
  have r_w : -2147483648 ≤ w ∧ w ≤ 2147483647 := inR_le (g0 (vI w) (by simp))
  refine r_aload_n hC dX6_bestOf_0 rfl ?_
  refine r_iload_n hC dX6_bestOf_1 rfl ?_
  refine r_iload_n hC dX6_bestOf_2 rfl ?_
  refine z_inv2 hM dX6_bestOf_3 vl_RX6_207 rfl rfl rfl (Nat.le_of_ble_eq_true rfl) (Nat.le_of_ble_eq_true rfl) ?_
  refine m_isNumber (fun h1 => ?_) ?_
  · refine r_if_eq (tgt := 22) hC dX6_bestOf_6 rfl (fun h2 => by omega) (fun h2 => ?_)
    refine r_iload_n hC dX6_bestOf_9 rfl ?_
    refine r_iconst hC dX6_bestOf_10 rfl ?_
    refine r_aload_n hC dX6_bestOf_11 rfl ?_
    refine r_iload_n hC dX6_bestOf_12 rfl ?_
    refine z_inv1 hM dX6_bestOf_13 vl_RX6_116 rfl rfl rfl (Nat.le_of_ble_eq_true rfl) (Nat.le_of_ble_eq_true rfl) ?_
    refine m_heldOf (by omega) (fun v3 h_v3 t_v3 => ?_)
    refine z_ins3 hM dX6_bestOf_16 tl_RX6_76 rfl (Nat.le_of_ble_eq_true rfl) (Nat.le_of_ble_eq_true rfl) ?_
    refine m_isIn (fun h5 => ?_) (fun h5 => ?_)
    · refine r_if_ne (tgt := 24) hC dX6_bestOf_19 rfl (fun h6 => ?_) (fun h6 => by omega)
      refine r_iconst hC dX6_bestOf_24 rfl ?_
      refine r_istore hC dX6_bestOf_25 rfl ?_
      refine r_aload_n hC dX6_bestOf_27 rfl ?_
      refine r_iload_n hC dX6_bestOf_28 rfl ?_
      refine r_iconst hC dX6_bestOf_29 rfl ?_
      refine r_iload_n hC dX6_bestOf_30 rfl ?_
      refine r_iconst hC dX6_bestOf_31 rfl ?_
      refine r_isubE hC ((m - 1)) dX6_bestOf_32 (by omega) (by unfold inR; omega) ?_
      refine r_iload_n hC dX6_bestOf_33 rfl ?_
      refine z_inv4 hM dX6_bestOf_34 vl_RX6_243 rfl rfl rfl (Nat.le_of_ble_eq_true rfl) (Nat.le_of_ble_eq_true rfl) ?_
      refine m_comesFrom (by omega) (by omega) (by omega) (by omega) (fun v7 h_v7 => ?_)
      refine r_istore hC dX6_bestOf_37 rfl ?_
      refine r_iconst hC dX6_bestOf_39 rfl ?_
      refine r_istore hC dX6_bestOf_40 rfl ?_
      have L42 : ∀ (n42 : Nat) (w8 w9 w10 : Int), 0 ≤ w8 ∧ w8 ≤ 120 → -2147483648 ≤ w9 ∧ w9 ≤ 2147483647 → 1 ≤ w10 ∧ w10 ≤ 121 → ((w8) + m ≤ 121) → 121 - w10 < (n42 : Int) → K 42 [some (vR 30 0), some (vI l), some (vI m), some (vI w), some (vI w8), some (vI w9), some (vI w10), none] [] σ := by
        intro n42
        induction n42 with
        | zero => intro w8 w9 w10  f_w8 f_w9 f_w10 i0_42 hm ; omega
        | succ n42 ih42 =>
          intro w8 w9 w10  f_w8 f_w9 f_w10 i0_42 hm42 
          refine r_iload hC dX6_bestOf_42 rfl ?_
          refine r_iload_n hC dX6_bestOf_44 rfl ?_
          refine r_iaddE hC ((w10 + m)) dX6_bestOf_45 (by omega) (by unfold inR; omega) ?_
          refine r_aload_n hC dX6_bestOf_46 rfl ?_
          refine r_iload_n hC dX6_bestOf_47 rfl ?_
          refine z_inv1 hM dX6_bestOf_48 vl_RX6_116 rfl rfl rfl (Nat.le_of_ble_eq_true rfl) (Nat.le_of_ble_eq_true rfl) ?_
          refine m_heldOf (by omega) (fun v11 h_v11 t_v11 => ?_)
          refine r_icmp_gt (tgt := 94) hC dX6_bestOf_51 rfl (fun h12 => ?_) (fun h12 => ?_)
          · refine r_iload hC dX6_bestOf_94 rfl ?_
            refine y_iret hK rfl dX6_bestOf_96 ?_
            exact k1 _ (by omega)
          · refine r_aload_n hC dX6_bestOf_54 rfl ?_
            refine r_iload_n hC dX6_bestOf_55 rfl ?_
            refine r_iload hC dX6_bestOf_56 rfl ?_
            refine r_iload hC dX6_bestOf_58 rfl ?_
            refine r_iload_n hC dX6_bestOf_60 rfl ?_
            refine r_iaddE hC ((w10 + m)) dX6_bestOf_61 (by omega) (by unfold inR; omega) ?_
            refine r_iconst hC dX6_bestOf_62 rfl ?_
            refine r_isubE hC (((w10 + m) - 1)) dX6_bestOf_63 (by omega) (by unfold inR; omega) ?_
            refine r_iload_n hC dX6_bestOf_64 rfl ?_
            refine z_inv4 hM dX6_bestOf_65 vl_RX6_243 rfl rfl rfl (Nat.le_of_ble_eq_true rfl) (Nat.le_of_ble_eq_true rfl) ?_
            refine m_comesFrom (by omega) (by omega) (by omega) (by omega) (fun v13 h_v13 => ?_)
            refine r_istore hC dX6_bestOf_68 rfl ?_
            refine r_iload hC dX6_bestOf_70 rfl ?_
            refine r_iload hC dX6_bestOf_72 rfl ?_
            refine r_icmp_gt (tgt := 80) hC dX6_bestOf_74 rfl (fun h14 => ?_) (fun h14 => ?_)
            · refine r_iload hC dX6_bestOf_80 rfl ?_
              refine r_istore hC dX6_bestOf_82 rfl ?_
              refine r_iload hC dX6_bestOf_84 rfl ?_
              refine r_istore hC dX6_bestOf_86 rfl ?_
              refine r_iincE hC ((w10 + 1)) dX6_bestOf_88 rfl rfl (by omega) (by unfold inR; omega) ?_
              show K _ [_, _, _, _, _, _, _, _] _ _
              refine r_goto (tgt := 42) hC dX6_bestOf_91 rfl ?_
              refine r_forget hC (ls2 := [some (vR 30 0), some (vI l), some (vI m), some (vI w), some (vI w10), some (vI v13), some (vI (w10 + 1)), none]) (lsub_some (lsub_some (lsub_some (lsub_some (lsub_some (lsub_some (lsub_some (lsub_none lsub_nil)))))))) ?_
              exact ih42 (w10) (v13) ((w10 + 1))  (by omega) (by omega) (by omega) (by omega) (by omega) 
            · refine r_goto (tgt := 88) hC dX6_bestOf_77 rfl ?_
              refine r_iincE hC ((w10 + 1)) dX6_bestOf_88 rfl rfl (by omega) (by unfold inR; omega) ?_
              refine r_goto (tgt := 42) hC dX6_bestOf_91 rfl ?_
              refine r_forget hC (ls2 := [some (vR 30 0), some (vI l), some (vI m), some (vI w), some (vI w8), some (vI w9), some (vI (w10 + 1)), none]) (lsub_some (lsub_some (lsub_some (lsub_some (lsub_some (lsub_some (lsub_some (lsub_none lsub_nil)))))))) ?_
              exact ih42 (w8) (w9) ((w10 + 1))  (by omega) (by omega) (by omega) (by omega) (by omega) 
      exact L42 123 (0) (v7) (1)  (by omega) (by omega) (by omega) (by omega) (by omega) 
    · refine r_if_ne (tgt := 24) hC dX6_bestOf_19 rfl (fun h15 => by omega) (fun h15 => ?_)
      refine r_iconst hC dX6_bestOf_22 rfl ?_
      refine y_iret hK rfl dX6_bestOf_23 ?_
      exact k0
  · refine r_if_eq (tgt := 22) hC dX6_bestOf_6 rfl (fun h16 => ?_) (fun h16 => by omega)
    refine r_iconst hC dX6_bestOf_22 rfl ?_
    refine y_iret hK rfl dX6_bestOf_23 ?_
    exact k0
theorem m_peakAt {ea eb : Bool} {d : Nat} {P : Option Vl → Mm → Prop} {σ : Mm} {l m w : Int}   (k : ∀ r : Int, -1 ≤ r ∧ r ≤ 120 → P (some (vI r)) σ) : WT (ea, eb, false) (d + 7) 222 [vR 30 0, vI l, vI m, vI w] σ P := by
  refine WT_in fun K hK => ?_
  have hK : StpY (ea, eb, false) cX6_peakAt RX6 (some .int) (WT (ea, eb, false) (d + 6)) P K := hK
  have hM := hK.1
  have hC := hK.1.1
  show K 0 [some (vR 30 0), some (vI l), some (vI m), some (vI w)] [] σ
  refine r_rngz hC (fun g0 => ?_)
  have r_l : -2147483648 ≤ l ∧ l ≤ 2147483647 := inR_le (g0 (vI l) (by simp))
  have r_m : -2147483648 ≤ m ∧ m ≤ 2147483647 := inR_le (g0 (vI m) (by simp))
  have r_w : -2147483648 ≤ w ∧ w ≤ 2147483647 := inR_le (g0 (vI w) (by simp))
  refine r_aload_n hC dX6_peakAt_0 rfl ?_
  refine r_iload_n hC dX6_peakAt_1 rfl ?_
  refine r_iload_n hC dX6_peakAt_2 rfl ?_
  refine r_iload_n hC dX6_peakAt_3 rfl ?_
  refine z_inv3 hM dX6_peakAt_4 vl_RX6_268 rfl rfl rfl (Nat.le_of_ble_eq_true rfl) (Nat.le_of_ble_eq_true rfl) ?_
  refine m_bestOf ?_ (fun v1 h_v1 => ?_)
  · refine y_iret hK rfl dX6_peakAt_7 ?_
    exact k _ (by omega)
  · refine y_iret hK rfl dX6_peakAt_7 ?_
    exact k _ (by omega)
theorem m_peak {ea eb : Bool} {d : Nat} {P : Option Vl → Mm → Prop} {σ : Mm} {l m w : Int}   (k : ∀ r : Int, -2147483648 ≤ r ∧ r ≤ 2147483647 → P (some (vI r)) σ) : WT (ea, eb, false) (d + 7) 223 [vR 30 0, vI l, vI m, vI w] σ P := by
  refine WT_in fun K hK => ?_
  have hK : StpY (ea, eb, false) cX6_peak RX6 (some .int) (WT (ea, eb, false) (d + 6)) P K := hK
  have hM := hK.1
  have hC := hK.1.1
  show K 0 [some (vR 30 0), some (vI l), some (vI m), some (vI w), none] [] σ
  refine r_rngz hC (fun g0 => ?_)
  have r_l : -2147483648 ≤ l ∧ l ≤ 2147483647 := inR_le (g0 (vI l) (by simp))
  have r_m : -2147483648 ≤ m ∧ m ≤ 2147483647 := inR_le (g0 (vI m) (by simp))
  have r_w : -2147483648 ≤ w ∧ w ≤ 2147483647 := inR_le (g0 (vI w) (by simp))
  refine r_aload_n hC dX6_peak_0 rfl ?_
  refine r_iload_n hC dX6_peak_1 rfl ?_
  refine r_iload_n hC dX6_peak_2 rfl ?_
  refine r_iload_n hC dX6_peak_3 rfl ?_
  refine z_inv3 hM dX6_peak_4 vl_RX6_268 rfl rfl rfl (Nat.le_of_ble_eq_true rfl) (Nat.le_of_ble_eq_true rfl) ?_
  refine m_bestOf ?_ (fun v1 h_v1 => ?_)
  · refine r_istore hC dX6_peak_7 rfl ?_
    refine r_iload hC dX6_peak_9 rfl ?_
    refine r_if_ge (tgt := 19) hC dX6_peak_11 rfl (fun h2 => by omega) (fun h2 => ?_)
    refine r_ldc hC dX6_peak_14 co_RX6_160 rfl ?_
    refine r_goto (tgt := 33) hC dX6_peak_16 rfl ?_
    refine y_iret hK rfl dX6_peak_33 ?_
    exact k _ (by omega)
  · refine r_istore hC dX6_peak_7 rfl ?_
    refine r_iload hC dX6_peak_9 rfl ?_
    refine r_if_ge (tgt := 19) hC dX6_peak_11 rfl (fun h3 => ?_) (fun h3 => by omega)
    refine r_aload_n hC dX6_peak_19 rfl ?_
    refine r_iload_n hC dX6_peak_20 rfl ?_
    refine r_iload hC dX6_peak_21 rfl ?_
    refine r_iload hC dX6_peak_23 rfl ?_
    refine r_iload_n hC dX6_peak_25 rfl ?_
    refine r_iaddE hC ((v1 + m)) dX6_peak_26 (by omega) (by unfold inR; omega) ?_
    refine r_iconst hC dX6_peak_27 rfl ?_
    refine r_isubE hC (((v1 + m) - 1)) dX6_peak_28 (by omega) (by unfold inR; omega) ?_
    refine r_iload_n hC dX6_peak_29 rfl ?_
    refine z_inv4 hM dX6_peak_30 vl_RX6_243 rfl rfl rfl (Nat.le_of_ble_eq_true rfl) (Nat.le_of_ble_eq_true rfl) ?_
    refine m_comesFrom (by omega) (by omega) (by omega) (by omega) (fun v4 h_v4 => ?_)
    refine y_iret hK rfl dX6_peak_33 ?_
    exact k _ (by omega)
theorem m_without {ea eb : Bool} {d : Nat} {P : Option Vl → Mm → Prop} {σ : Mm} {l x w : Int}   (k : ∀ r : Int, -2147483648 ≤ r ∧ r ≤ 2147483647 → P (some (vI r)) σ) : WT (ea, eb, false) (d + 6) 225 [vR 30 0, vI l, vI x, vI w] σ P := by
  refine WT_in fun K hK => ?_
  have hK : StpY (ea, eb, false) cX6_without RX6 (some .int) (WT (ea, eb, false) (d + 5)) P K := hK
  have hM := hK.1
  have hC := hK.1.1
  show K 0 [some (vR 30 0), some (vI l), some (vI x), some (vI w)] [] σ
  refine r_rngz hC (fun g0 => ?_)
  have r_l : -2147483648 ≤ l ∧ l ≤ 2147483647 := inR_le (g0 (vI l) (by simp))
  have r_x : -2147483648 ≤ x ∧ x ≤ 2147483647 := inR_le (g0 (vI x) (by simp))
  have r_w : -2147483648 ≤ w ∧ w ≤ 2147483647 := inR_le (g0 (vI w) (by simp))
  refine r_aload_n hC dX6_without_0 rfl ?_
  refine r_iload_n hC dX6_without_1 rfl ?_
  refine r_iload_n hC dX6_without_2 rfl ?_
  refine z_inv2 hM dX6_without_3 vl_RX6_207 rfl rfl rfl (Nat.le_of_ble_eq_true rfl) (Nat.le_of_ble_eq_true rfl) ?_
  refine m_isNumber (fun h1 => ?_) ?_
  · refine r_if_eq (tgt := 28) hC dX6_without_6 rfl (fun h2 => by omega) (fun h2 => ?_)
    refine r_aload_n hC dX6_without_9 rfl ?_
    refine r_iload_n hC dX6_without_10 rfl ?_
    refine r_iload_n hC dX6_without_11 rfl ?_
    refine z_inv2 hM dX6_without_12 vl_RX6_262 rfl rfl rfl (Nat.le_of_ble_eq_true rfl) (Nat.le_of_ble_eq_true rfl) ?_
    refine m_isEvent (fun h3 x_h3 => ?_) ?_
    · refine r_if_eq (tgt := 28) hC dX6_without_15 rfl (fun h4 => by omega) (fun h4 => ?_)
      refine r_aload_n hC dX6_without_18 rfl ?_
      refine r_iload_n hC dX6_without_19 rfl ?_
      refine r_iload_n hC dX6_without_20 rfl ?_
      refine r_iload_n hC dX6_without_21 rfl ?_
      refine z_inv3 hM dX6_without_22 vl_RX6_271 rfl rfl rfl (Nat.le_of_ble_eq_true rfl) (Nat.le_of_ble_eq_true rfl) ?_
      refine m_comesWithout (by omega) (by omega) (by omega) (fun v5 h_v5 => ?_)
      refine r_goto (tgt := 30) hC dX6_without_25 rfl ?_
      refine y_iret hK rfl dX6_without_30 ?_
      exact k _ (by omega)
    · refine r_if_eq (tgt := 28) hC dX6_without_15 rfl (fun h6 => ?_) (fun h6 => by omega)
      refine r_ldc hC dX6_without_28 co_RX6_160 rfl ?_
      refine y_iret hK rfl dX6_without_30 ?_
      exact k _ (by omega)
  · refine r_if_eq (tgt := 28) hC dX6_without_6 rfl (fun h7 => ?_) (fun h7 => by omega)
    refine r_ldc hC dX6_without_28 co_RX6_160 rfl ?_
    refine y_iret hK rfl dX6_without_30 ?_
    exact k _ (by omega)
theorem m_spare {ea eb : Bool} {d : Nat} {P : Option Vl → Mm → Prop} {σ : Mm} {l w : Int}   (k : ∀ r : Int, -1 ≤ r ∧ r ≤ 120 → P (some (vI r)) σ) : WT (ea, eb, false) (d + 6) 226 [vR 30 0, vI l, vI w] σ P := by
  refine WT_in fun K hK => ?_
  have hK : StpY (ea, eb, false) cX6_spare RX6 (some .int) (WT (ea, eb, false) (d + 5)) P K := hK
  have hM := hK.1
  have hC := hK.1.1
  show K 0 [some (vR 30 0), some (vI l), some (vI w), none, none, none, none] [] σ
  refine r_rngz hC (fun g0 => ?_)
  have r_l : -2147483648 ≤ l ∧ l ≤ 2147483647 := inR_le (g0 (vI l) (by simp))
  have r_w : -2147483648 ≤ w ∧ w ≤ 2147483647 := inR_le (g0 (vI w) (by simp))
  refine r_aload_n hC dX6_spare_0 rfl ?_
  refine r_iload_n hC dX6_spare_1 rfl ?_
  refine r_iload_n hC dX6_spare_2 rfl ?_
  refine z_inv2 hM dX6_spare_3 vl_RX6_207 rfl rfl rfl (Nat.le_of_ble_eq_true rfl) (Nat.le_of_ble_eq_true rfl) ?_
  refine m_isNumber (fun h1 => ?_) ?_
  · refine r_if_eq (tgt := 18) hC dX6_spare_6 rfl (fun h2 => by omega) (fun h2 => ?_)
    refine r_aload_n hC dX6_spare_9 rfl ?_
    refine r_iload_n hC dX6_spare_10 rfl ?_
    refine z_inv1 hM dX6_spare_11 vl_RX6_116 rfl rfl rfl (Nat.le_of_ble_eq_true rfl) (Nat.le_of_ble_eq_true rfl) ?_
    refine m_heldOf (by omega) (fun v3 h_v3 t_v3 => ?_)
    refine r_iconst hC dX6_spare_14 rfl ?_
    refine r_icmp_ge (tgt := 20) hC dX6_spare_15 rfl (fun h4 => ?_) (fun h4 => ?_)
    · refine r_iconst hC dX6_spare_20 rfl ?_
      refine r_istore_n hC dX6_spare_21 rfl ?_
      refine r_aload_n hC dX6_spare_22 rfl ?_
      refine r_iload_n hC dX6_spare_23 rfl ?_
      refine r_iconst hC dX6_spare_24 rfl ?_
      refine r_iload_n hC dX6_spare_25 rfl ?_
      refine z_inv3 hM dX6_spare_26 vl_RX6_271 rfl rfl rfl (Nat.le_of_ble_eq_true rfl) (Nat.le_of_ble_eq_true rfl) ?_
      refine m_comesWithout (by omega) (by omega) (by omega) (fun v5 h_v5 => ?_)
      refine r_istore hC dX6_spare_29 rfl ?_
      refine r_iconst hC dX6_spare_31 rfl ?_
      refine r_istore hC dX6_spare_32 rfl ?_
      have L34 : ∀ (n34 : Nat) (w6 w7 w8 : Int), 0 ≤ w6 ∧ w6 ≤ 120 → -2147483648 ≤ w7 ∧ w7 ≤ 2147483647 → 1 ≤ w8 ∧ w8 ≤ 121 → 121 - w8 < (n34 : Int) → K 34 [some (vR 30 0), some (vI l), some (vI w), some (vI w6), some (vI w7), some (vI w8), none] [] σ := by
        intro n34
        induction n34 with
        | zero => intro w6 w7 w8  f_w6 f_w7 f_w8  hm ; omega
        | succ n34 ih34 =>
          intro w6 w7 w8  f_w6 f_w7 f_w8  hm34 
          refine r_iload hC dX6_spare_34 rfl ?_
          refine r_aload_n hC dX6_spare_36 rfl ?_
          refine r_iload_n hC dX6_spare_37 rfl ?_
          refine z_inv1 hM dX6_spare_38 vl_RX6_116 rfl rfl rfl (Nat.le_of_ble_eq_true rfl) (Nat.le_of_ble_eq_true rfl) ?_
          refine m_heldOf (by omega) (fun v9 h_v9 t_v9 => ?_)
          refine r_icmp_ge (tgt := 77) hC dX6_spare_41 rfl (fun h10 => ?_) (fun h10 => ?_)
          · refine r_iload_n hC dX6_spare_77 rfl ?_
            refine y_iret hK rfl dX6_spare_78 ?_
            exact k _ (by omega)
          · refine r_aload_n hC dX6_spare_44 rfl ?_
            refine r_iload_n hC dX6_spare_45 rfl ?_
            refine r_iload hC dX6_spare_46 rfl ?_
            refine r_iload_n hC dX6_spare_48 rfl ?_
            refine z_inv3 hM dX6_spare_49 vl_RX6_271 rfl rfl rfl (Nat.le_of_ble_eq_true rfl) (Nat.le_of_ble_eq_true rfl) ?_
            refine m_comesWithout (by omega) (by omega) (by omega) (fun v11 h_v11 => ?_)
            refine r_istore hC dX6_spare_52 rfl ?_
            refine r_iload hC dX6_spare_54 rfl ?_
            refine r_iload hC dX6_spare_56 rfl ?_
            have J71_14 : ∀ (w13 w14 : Int), 0 ≤ w13 ∧ w13 ≤ 120 → -2147483648 ≤ w14 ∧ w14 ≤ 2147483647 → K 71 [some (vR 30 0), some (vI l), some (vI w), some (vI w13), some (vI w14), some (vI w8), some (vI v11)] [] σ := by
              intro w13 w14  f_w13 f_w14 
              refine r_iincE hC ((w8 + 1)) dX6_spare_71 rfl rfl (by omega) (by unfold inR; omega) ?_
              refine r_goto (tgt := 34) hC dX6_spare_74 rfl ?_
              refine r_forget hC (ls2 := [some (vR 30 0), some (vI l), some (vI w), some (vI w13), some (vI w14), some (vI (w8 + 1)), none]) (lsub_some (lsub_some (lsub_some (lsub_some (lsub_some (lsub_some (lsub_none lsub_nil))))))) ?_
              exact ih34 (w13) (w14) ((w8 + 1))  (by omega) (by omega) (by omega)  (by omega) 
            refine r_icmp_gt (tgt := 64) hC dX6_spare_58 rfl (fun h12 => ?_) (fun h12 => ?_)
            · refine r_iload hC dX6_spare_64 rfl ?_
              refine r_istore_n hC dX6_spare_66 rfl ?_
              refine r_iload hC dX6_spare_67 rfl ?_
              refine r_istore hC dX6_spare_69 rfl ?_
              exact J71_14 (w8) (v11)  (by omega) (by omega) 
            · refine r_goto (tgt := 71) hC dX6_spare_61 rfl ?_
              exact J71_14 (w6) (w7)  (by omega) (by omega) 
      exact L34 122 (0) (v5) (1)  (by omega) (by omega) (by omega)  (by omega) 
    · refine r_iconst hC dX6_spare_18 rfl ?_
      refine y_iret hK rfl dX6_spare_19 ?_
      exact k _ (by omega)
  · refine r_if_eq (tgt := 18) hC dX6_spare_6 rfl (fun h16 => ?_) (fun h16 => by omega)
    refine r_iconst hC dX6_spare_18 rfl ?_
    refine y_iret hK rfl dX6_spare_19 ?_
    exact k _ (by omega)
theorem m_turned_S {ea eb : Bool} {d : Nat} {P : Option Vl → Mm → Prop} {σ : Mm} {l w n : Int} (qg0 : σ 30 0 8 = n)  (k : ∀ (r : Int) (ρ : Mm), Gx (fun c x y => c = 37 ∨ c = 30 ∧ y = 8) σ ρ → (-2147483648 ≤ r ∧ r ≤ 2147483647) → P (some (vI r)) ρ) : WT (ea, eb, true) (d + 5) 227 [vR 30 0, vI l, vI w] σ P := by
  refine WT_in fun K hK => ?_
  have hK : StpY (ea, eb, true) cX6_turned RX6 (some .int) (WT (ea, eb, true) (d + 4)) P K := hK
  have hM := hK.1
  have hC := hK.1.1
  show K 0 [some (vR 30 0), some (vI l), some (vI w), none] [] σ
  refine r_rngz hC (fun g0 => ?_)
  have r_l : -2147483648 ≤ l ∧ l ≤ 2147483647 := inR_le (g0 (vI l) (by simp))
  have r_w : -2147483648 ≤ w ∧ w ≤ 2147483647 := inR_le (g0 (vI w) (by simp))
  refine r_aload_n hC dX6_turned_0 rfl ?_
  refine r_iload_n hC dX6_turned_1 rfl ?_
  refine r_iload_n hC dX6_turned_2 rfl ?_
  refine z_inv2 hM dX6_turned_3 vl_RX6_207 rfl rfl rfl (Nat.le_of_ble_eq_true rfl) (Nat.le_of_ble_eq_true rfl) ?_
  refine m_isNumber (fun h1 => ?_) ?_
  · refine r_if_ne (tgt := 12) hC dX6_turned_6 rfl (fun h2 => ?_) (fun h2 => by omega)
    refine r_aload_n hC dX6_turned_12 rfl ?_
    refine z_inv0 hM dX6_turned_13 vl_RX6_113 rfl rfl rfl (Nat.le_of_ble_eq_true rfl) (Nat.le_of_ble_eq_true rfl) ?_
    refine m_clearRow (n := n) (by have hq := qg0; omega) (fun ρ3 g_ρ3 q_ρ3 => ?_)
    refine r_aload_n hC dX6_turned_16 rfl ?_
    refine r_iload_n hC dX6_turned_17 rfl ?_
    refine z_inv1 hM dX6_turned_18 vl_RX6_116 rfl rfl rfl (Nat.le_of_ble_eq_true rfl) (Nat.le_of_ble_eq_true rfl) ?_
    refine m_heldOf (by omega) (fun v4 h_v4 t_v4 => ?_)
    refine r_iconst hC dX6_turned_21 rfl ?_
    refine r_isubE hC ((v4 - 1)) dX6_turned_22 (by omega) (by unfold inR; omega) ?_
    refine r_istore_n hC dX6_turned_23 rfl ?_
    have L24 : ∀ (n24 : Nat) (w5 w6 : Int) (ρ7 : Mm), -1 ≤ w5 ∧ w5 ≤ 120 → 0 ≤ w6 ∧ w6 ≤ 121 → ((w6) + (w5) ≤ 120) → w5 + 1 < (n24 : Int) → Gx (fun c x y => c = 37 ∨ c = 30 ∧ y = 8) σ ρ7 → ρ7 30 0 8 = w6 → K 24 [some (vR 30 0), some (vI l), some (vI w), some (vI w5)] [] ρ7 := by
      intro n24
      induction n24 with
      | zero => intro w5 w6 ρ7 f_w5 f_w6 i0_24 hm g_ρ7 q0_ρ7; omega
      | succ n24 ih24 =>
        intro w5 w6 ρ7 f_w5 f_w6 i0_24 hm24 g_ρ7 q0_ρ7
        refine r_iload_n hC dX6_turned_24 rfl ?_
        refine r_if_lt (tgt := 49) hC dX6_turned_25 rfl (fun h8 => ?_) (fun h8 => ?_)
        · refine r_aload_n hC dX6_turned_49 rfl ?_
          refine r_aload_n hC dX6_turned_50 rfl ?_
          refine r_iload_n hC dX6_turned_51 rfl ?_
          refine r_iconst hC dX6_turned_52 rfl ?_
          refine z_inv2 hM dX6_turned_53 vl_RX6_80 rfl rfl rfl (Nat.le_of_ble_eq_true rfl) (Nat.le_of_ble_eq_true rfl) ?_
          refine m_of (by omega) (by omega) (fun v9 h_v9 h5_v9 h0_v9 t_v9 => ?_)
          refine r_iload_n hC dX6_turned_56 rfl ?_
          refine z_inv2 hM dX6_turned_57 vl_RX6_197 rfl rfl rfl (Nat.le_of_ble_eq_true rfl) (Nat.le_of_ble_eq_true rfl) ?_
          refine m_comes (n := w6) (by omega) (by omega) (by have hq := q0_ρ7; omega) (fun v10 h_v10 => ?_)
          refine y_iret hK rfl dX6_turned_60 ?_
          exact k _ _ (g_ρ7) (by omega)
        · refine r_aload_n hC dX6_turned_28 rfl ?_
          refine r_aload_n hC dX6_turned_29 rfl ?_
          refine z_getR hM dX6_turned_30 fl_RX6_16 rfl rfl (vld_of (n := 1) rfl (by omega) (by omega)) ?_
          refine r_bipush hC dX6_turned_33 rfl ?_
          refine r_iload_n hC dX6_turned_35 rfl ?_
          refine r_imulE hC ((121 * l)) dX6_turned_36 (by omega) (by unfold inR; omega) ?_
          refine r_iload_n hC dX6_turned_37 rfl ?_
          refine r_iaddE hC (((121 * l) + w5)) dX6_turned_38 (by omega) (by unfold inR; omega) ?_
          refine z_iald hM dX6_turned_39 rfl (by omega) (by omega) (fun v11 h_v11 o_v11 t_v11 => ?_)
          refine z_inv1 hM dX6_turned_40 vl_RX6_109 rfl rfl rfl (Nat.le_of_ble_eq_true rfl) (Nat.le_of_ble_eq_true rfl) ?_
          refine m_put (n := w6) (by omega) (by have hq := q0_ρ7; omega) (fun ρ12 g_ρ12 q_ρ12 => ?_)
          refine r_iincE hC ((w5 - 1)) dX6_turned_43 rfl rfl (by omega) (by unfold inR; omega) ?_
          refine r_goto (tgt := 24) hC dX6_turned_46 rfl ?_
          exact ih24 ((w5 - 1)) ((w6 + 1)) ρ12 (by omega) (by omega) (by omega) (by omega) (Gx.gx (g_ρ7) g_ρ12 (fun _ _ _ h => h)) (by have hq := q_ρ12; omega)
    exact L24 123 ((v4 - 1)) (0) ρ3 (by omega) (by omega) (by omega) (by omega) (Gx.gx (Gx.rf) g_ρ3 (fun _ _ _ h => h)) (by have hq := q_ρ3; omega)
  · refine r_if_ne (tgt := 12) hC dX6_turned_6 rfl (fun h13 => by omega) (fun h13 => ?_)
    refine r_ldc hC dX6_turned_9 co_RX6_160 rfl ?_
    refine y_iret hK rfl dX6_turned_11 ?_
    exact k _ _ (Gx.rf) (by omega)
theorem m_turned {ea eb : Bool} {d : Nat} {P : Option Vl → Mm → Prop} {σ : Mm} {l w : Int}  (k : ∀ r : Int, -2147483648 ≤ r ∧ r ≤ 2147483647 → P (some (vI r)) σ) : WT (ea, eb, false) (d + 5) 227 [vR 30 0, vI l, vI w] σ P := by
  refine WT_loose (ea, eb, true) (fun h => h) (fun h => h) (fun c j q => ?_) (fun ρ hL hF hT hO => ?_)
  · rcases q with q | q | q | q
    · exact Or.inl q
    · exact Or.inr (Or.inl q)
    · exact Or.inr (Or.inr (Or.inl q))
    · cases q.1
  · refine m_turned_S  (qg0 := rfl) (fun r ρ2 g hr => ⟨σ, k r hr, fun h => Or.inl h, fun h => Or.inl h, fun c i j q => ?_⟩)
    refine (g c i j ?_).trans (hT c i j q)
    rintro (rfl | ⟨rfl, rfl⟩)
    all_goals
      rcases q with q | q | q | q
      · exact q
      · exact q.2
      · exact q.2
      · cases q.1
theorem m_joined_S {ea eb : Bool} {d : Nat} {P : Option Vl → Mm → Prop} {σ : Mm} {l o w n : Int} (qg0 : σ 30 0 8 = n)  (k : ∀ (r : Int) (ρ : Mm), Gx (fun c x y => c = 37 ∨ c = 30 ∧ y = 8) σ ρ → (-2147483648 ≤ r ∧ r ≤ 2147483647) → P (some (vI r)) ρ) : WT (ea, eb, true) (d + 5) 232 [vR 30 0, vI l, vI o, vI w] σ P := by
  refine WT_in fun K hK => ?_
  have hK : StpY (ea, eb, true) cX6_joined RX6 (some .int) (WT (ea, eb, true) (d + 4)) P K := hK
  have hM := hK.1
  have hC := hK.1.1
  show K 0 [some (vR 30 0), some (vI l), some (vI o), some (vI w)] [] σ
  refine r_rngz hC (fun g0 => ?_)
  have r_l : -2147483648 ≤ l ∧ l ≤ 2147483647 := inR_le (g0 (vI l) (by simp))
  have r_o : -2147483648 ≤ o ∧ o ≤ 2147483647 := inR_le (g0 (vI o) (by simp))
  have r_w : -2147483648 ≤ w ∧ w ≤ 2147483647 := inR_le (g0 (vI w) (by simp))
  refine r_aload_n hC dX6_joined_0 rfl ?_
  refine r_iload_n hC dX6_joined_1 rfl ?_
  refine r_iload_n hC dX6_joined_2 rfl ?_
  refine z_inv2 hM dX6_joined_3 vl_RX6_280 rfl rfl rfl (Nat.le_of_ble_eq_true rfl) (Nat.le_of_ble_eq_true rfl) ?_
  refine m_areAlike (fun h1 => ?_) ?_
  · refine r_if_eq (tgt := 18) hC dX6_joined_6 rfl (fun h2 => by omega) (fun h2 => ?_)
    refine r_aload_n hC dX6_joined_9 rfl ?_
    refine r_iload_n hC dX6_joined_10 rfl ?_
    refine r_iload_n hC dX6_joined_11 rfl ?_
    refine z_inv2 hM dX6_joined_12 vl_RX6_207 rfl rfl rfl (Nat.le_of_ble_eq_true rfl) (Nat.le_of_ble_eq_true rfl) ?_
    refine m_isNumber (fun h3 => ?_) ?_
    · refine r_if_ne (tgt := 21) hC dX6_joined_15 rfl (fun h4 => ?_) (fun h4 => by omega)
      refine r_aload_n hC dX6_joined_21 rfl ?_
      refine r_iload_n hC dX6_joined_22 rfl ?_
      refine z_inv1 hM dX6_joined_23 vl_RX6_194 rfl rfl rfl (Nat.le_of_ble_eq_true rfl) (Nat.le_of_ble_eq_true rfl) ?_
      refine m_layAll (by omega) rfl (fun ρ5 g_ρ5 b_ρ5 t_ρ5 => ?_)
      obtain ⟨n6, q_ρ5⟩ : ∃ v, ρ5 30 0 8 = v := ⟨_, rfl⟩
      have b_n6 : 0 ≤ n6 ∧ n6 ≤ 121 := by omega
      refine r_aload_n hC dX6_joined_26 rfl ?_
      refine r_iload_n hC dX6_joined_27 rfl ?_
      refine r_iconst hC dX6_joined_28 rfl ?_
      refine r_aload_n hC dX6_joined_29 rfl ?_
      refine r_iload_n hC dX6_joined_30 rfl ?_
      refine z_inv1 hM dX6_joined_31 vl_RX6_116 rfl rfl rfl (Nat.le_of_ble_eq_true rfl) (Nat.le_of_ble_eq_true rfl) ?_
      refine m_heldOf (by omega) (fun v7 h_v7 t_v7 => ?_)
      refine r_iconst hC dX6_joined_34 rfl ?_
      refine r_isubE hC ((v7 - 1)) dX6_joined_35 (by omega) (by unfold inR; omega) ?_
      refine z_inv3 hM dX6_joined_36 vl_RX6_120 rfl rfl rfl (Nat.le_of_ble_eq_true rfl) (Nat.le_of_ble_eq_true rfl) ?_
      refine m_putFrom (n := n6) (by omega) (by omega) (by omega) (by omega) (by have hq := q_ρ5; omega) (by omega) (fun ρ8 g_ρ8 q_ρ8 => ?_)
      obtain ⟨n9, e_n9⟩ : ∃ v, ρ8 30 0 8 = v := ⟨_, rfl⟩
      have b_n9 : (0 ≤ (v7 - 1) → n9 = n6 + ((v7 - 1) - 0 + 1)) ∧ ((v7 - 1) < 0 → n9 = n6) ∧ 0 ≤ n9 ∧ n9 ≤ 242 := by have hq := q_ρ8; omega
      replace q_ρ8 := e_n9
      refine r_aload_n hC dX6_joined_39 rfl ?_
      refine r_aload_n hC dX6_joined_40 rfl ?_
      refine r_iload_n hC dX6_joined_41 rfl ?_
      refine r_iconst hC dX6_joined_42 rfl ?_
      refine z_inv2 hM dX6_joined_43 vl_RX6_80 rfl rfl rfl (Nat.le_of_ble_eq_true rfl) (Nat.le_of_ble_eq_true rfl) ?_
      refine m_of (by omega) (by omega) (fun v10 h_v10 h5_v10 h0_v10 t_v10 => ?_)
      refine r_iload_n hC dX6_joined_46 rfl ?_
      refine z_inv2 hM dX6_joined_47 vl_RX6_197 rfl rfl rfl (Nat.le_of_ble_eq_true rfl) (Nat.le_of_ble_eq_true rfl) ?_
      refine m_comes (n := n9) (by omega) (by omega) (by have hq := q_ρ8; omega) (fun v11 h_v11 => ?_)
      refine y_iret hK rfl dX6_joined_50 ?_
      exact k _ _ (Gx.gx (Gx.gx (Gx.rf) g_ρ5 (fun _ _ _ h => h)) g_ρ8 (fun _ _ _ h => h)) (by omega)
    · refine r_if_ne (tgt := 21) hC dX6_joined_15 rfl (fun h12 => by omega) (fun h12 => ?_)
      refine r_ldc hC dX6_joined_18 co_RX6_160 rfl ?_
      refine y_iret hK rfl dX6_joined_20 ?_
      exact k _ _ (Gx.rf) (by omega)
  · refine r_if_eq (tgt := 18) hC dX6_joined_6 rfl (fun h13 => ?_) (fun h13 => by omega)
    refine r_ldc hC dX6_joined_18 co_RX6_160 rfl ?_
    refine y_iret hK rfl dX6_joined_20 ?_
    exact k _ _ (Gx.rf) (by omega)
theorem m_joined {ea eb : Bool} {d : Nat} {P : Option Vl → Mm → Prop} {σ : Mm} {l o w : Int}  (k : ∀ r : Int, -2147483648 ≤ r ∧ r ≤ 2147483647 → P (some (vI r)) σ) : WT (ea, eb, false) (d + 5) 232 [vR 30 0, vI l, vI o, vI w] σ P := by
  refine WT_loose (ea, eb, true) (fun h => h) (fun h => h) (fun c j q => ?_) (fun ρ hL hF hT hO => ?_)
  · rcases q with q | q | q | q
    · exact Or.inl q
    · exact Or.inr (Or.inl q)
    · exact Or.inr (Or.inr (Or.inl q))
    · cases q.1
  · refine m_joined_S  (qg0 := rfl) (fun r ρ2 g hr => ⟨σ, k r hr, fun h => Or.inl h, fun h => Or.inl h, fun c i j q => ?_⟩)
    refine (g c i j ?_).trans (hT c i j q)
    rintro (rfl | ⟨rfl, rfl⟩)
    all_goals
      rcases q with q | q | q | q
      · exact q
      · exact q.2
      · exact q.2
      · cases q.1
theorem m_woven_S {ea eb : Bool} {d : Nat} {P : Option Vl → Mm → Prop} {σ : Mm} {l o w n : Int} (qg0 : σ 30 0 8 = n)  (k : ∀ (r : Int) (ρ : Mm), Gx (fun c x y => c = 37 ∨ c = 30 ∧ y = 8) σ ρ → (-2147483648 ≤ r ∧ r ≤ 2147483647) → P (some (vI r)) ρ) : WT (ea, eb, true) (d + 5) 233 [vR 30 0, vI l, vI o, vI w] σ P := by
  refine WT_in fun K hK => ?_
  have hK : StpY (ea, eb, true) cX6_woven RX6 (some .int) (WT (ea, eb, true) (d + 4)) P K := hK
  have hM := hK.1
  have hC := hK.1.1
  show K 0 [some (vR 30 0), some (vI l), some (vI o), some (vI w), none, none] [] σ
  refine r_rngz hC (fun g0 => ?_)
  have r_l : -2147483648 ≤ l ∧ l ≤ 2147483647 := inR_le (g0 (vI l) (by simp))
  have r_o : -2147483648 ≤ o ∧ o ≤ 2147483647 := inR_le (g0 (vI o) (by simp))
  have r_w : -2147483648 ≤ w ∧ w ≤ 2147483647 := inR_le (g0 (vI w) (by simp))
  refine r_aload_n hC dX6_woven_0 rfl ?_
  refine r_iload_n hC dX6_woven_1 rfl ?_
  refine r_iload_n hC dX6_woven_2 rfl ?_
  refine z_inv2 hM dX6_woven_3 vl_RX6_280 rfl rfl rfl (Nat.le_of_ble_eq_true rfl) (Nat.le_of_ble_eq_true rfl) ?_
  refine m_areAlike (fun h1 => ?_) ?_
  · refine r_if_eq (tgt := 18) hC dX6_woven_6 rfl (fun h2 => by omega) (fun h2 => ?_)
    refine r_aload_n hC dX6_woven_9 rfl ?_
    refine r_iload_n hC dX6_woven_10 rfl ?_
    refine r_iload_n hC dX6_woven_11 rfl ?_
    refine z_inv2 hM dX6_woven_12 vl_RX6_207 rfl rfl rfl (Nat.le_of_ble_eq_true rfl) (Nat.le_of_ble_eq_true rfl) ?_
    refine m_isNumber (fun h3 => ?_) ?_
    · refine r_if_ne (tgt := 21) hC dX6_woven_15 rfl (fun h4 => ?_) (fun h4 => by omega)
      refine r_aload_n hC dX6_woven_21 rfl ?_
      refine z_inv0 hM dX6_woven_22 vl_RX6_113 rfl rfl rfl (Nat.le_of_ble_eq_true rfl) (Nat.le_of_ble_eq_true rfl) ?_
      refine m_clearRow (n := n) (by have hq := qg0; omega) (fun ρ5 g_ρ5 q_ρ5 => ?_)
      refine r_iconst hC dX6_woven_25 rfl ?_
      refine r_istore hC dX6_woven_26 rfl ?_
      refine r_iconst hC dX6_woven_28 rfl ?_
      refine r_istore hC dX6_woven_29 rfl ?_
      have L31 : ∀ (n31 : Nat) (w6 w7 w8 : Int) (ρ9 : Mm), 0 ≤ w6 ∧ w6 ≤ 121 → 0 ≤ w7 ∧ w7 ≤ 121 → 0 ≤ w8 ∧ w8 ≤ 242 → ((w8) = (w6) + (w7)) → 121 - w7 < (n31 : Int) → Gx (fun c x y => c = 37 ∨ c = 30 ∧ y = 8) σ ρ9 → ρ9 30 0 8 = w8 → K 31 [some (vR 30 0), some (vI l), some (vI o), some (vI w), some (vI w6), some (vI w7)] [] ρ9 := by
        intro n31
        induction n31 with
        | zero => intro w6 w7 w8 ρ9 f_w6 f_w7 f_w8 i0_31 hm g_ρ9 q0_ρ9; omega
        | succ n31 ih31 =>
          intro w6 w7 w8 ρ9 f_w6 f_w7 f_w8 i0_31 hm31 g_ρ9 q0_ρ9
          refine r_iload hC dX6_woven_31 rfl ?_
          refine r_aload_n hC dX6_woven_33 rfl ?_
          refine r_iload_n hC dX6_woven_34 rfl ?_
          refine z_inv1 hM dX6_woven_35 vl_RX6_116 rfl rfl rfl (Nat.le_of_ble_eq_true rfl) (Nat.le_of_ble_eq_true rfl) ?_
          refine m_heldOf (by omega) (fun v10 h_v10 t_v10 => ?_)
          refine r_icmp_ge (tgt := 122) hC dX6_woven_38 rfl (fun h11 => ?_) (fun h11 => ?_)
          · refine r_aload_n hC dX6_woven_122 rfl ?_
            refine r_iload_n hC dX6_woven_123 rfl ?_
            refine r_iload hC dX6_woven_124 rfl ?_
            refine r_aload_n hC dX6_woven_126 rfl ?_
            refine r_iload_n hC dX6_woven_127 rfl ?_
            refine z_inv1 hM dX6_woven_128 vl_RX6_116 rfl rfl rfl (Nat.le_of_ble_eq_true rfl) (Nat.le_of_ble_eq_true rfl) ?_
            refine m_heldOf (by omega) (fun v12 h_v12 t_v12 => ?_)
            refine r_iconst hC dX6_woven_131 rfl ?_
            refine r_isubE hC ((v12 - 1)) dX6_woven_132 (by omega) (by unfold inR; omega) ?_
            refine z_inv3 hM dX6_woven_133 vl_RX6_120 rfl rfl rfl (Nat.le_of_ble_eq_true rfl) (Nat.le_of_ble_eq_true rfl) ?_
            refine m_putFrom (n := w8) (by omega) (by omega) (by omega) (by omega) (by have hq := q0_ρ9; omega) (by omega) (fun ρ13 g_ρ13 q_ρ13 => ?_)
            obtain ⟨n14, e_n14⟩ : ∃ v, ρ13 30 0 8 = v := ⟨_, rfl⟩
            have b_n14 : (w6 ≤ (v12 - 1) → n14 = w8 + ((v12 - 1) - w6 + 1)) ∧ ((v12 - 1) < w6 → n14 = w8) ∧ 0 ≤ n14 ∧ n14 ≤ 242 := by have hq := q_ρ13; omega
            replace q_ρ13 := e_n14
            refine r_aload_n hC dX6_woven_136 rfl ?_
            refine r_aload_n hC dX6_woven_137 rfl ?_
            refine r_iload_n hC dX6_woven_138 rfl ?_
            refine r_iconst hC dX6_woven_139 rfl ?_
            refine z_inv2 hM dX6_woven_140 vl_RX6_80 rfl rfl rfl (Nat.le_of_ble_eq_true rfl) (Nat.le_of_ble_eq_true rfl) ?_
            refine m_of (by omega) (by omega) (fun v15 h_v15 h5_v15 h0_v15 t_v15 => ?_)
            refine r_iload_n hC dX6_woven_143 rfl ?_
            refine z_inv2 hM dX6_woven_144 vl_RX6_197 rfl rfl rfl (Nat.le_of_ble_eq_true rfl) (Nat.le_of_ble_eq_true rfl) ?_
            refine m_comes (n := n14) (by omega) (by omega) (by have hq := q_ρ13; omega) (fun v16 h_v16 => ?_)
            refine y_iret hK rfl dX6_woven_147 ?_
            exact k _ _ (Gx.gx (g_ρ9) g_ρ13 (fun _ _ _ h => h)) (by omega)
          · have L41 : ∀ (n41 : Nat) (w17 w18 : Int) (ρ19 : Mm), 0 ≤ w17 ∧ w17 ≤ 121 → 0 ≤ w18 ∧ w18 ≤ 242 → ((w18) = (w17) + (w7)) → 121 - w17 < (n41 : Int) → Gx (fun c x y => c = 37 ∨ c = 30 ∧ y = 8) σ ρ19 → ρ19 30 0 8 = w18 → K 41 [some (vR 30 0), some (vI l), some (vI o), some (vI w), some (vI w17), some (vI w7)] [] ρ19 := by
              intro n41
              induction n41 with
              | zero => intro w17 w18 ρ19 f_w17 f_w18 i0_41 hm g_ρ19 q0_ρ19; omega
              | succ n41 ih41 =>
                intro w17 w18 ρ19 f_w17 f_w18 i0_41 hm41 g_ρ19 q0_ρ19
                refine r_iload hC dX6_woven_41 rfl ?_
                refine r_aload_n hC dX6_woven_43 rfl ?_
                refine r_iload_n hC dX6_woven_44 rfl ?_
                refine z_inv1 hM dX6_woven_45 vl_RX6_116 rfl rfl rfl (Nat.le_of_ble_eq_true rfl) (Nat.le_of_ble_eq_true rfl) ?_
                refine m_heldOf (by omega) (fun v20 h_v20 t_v20 => ?_)
                refine r_icmp_ge (tgt := 100) hC dX6_woven_48 rfl (fun h21 => ?_) (fun h21 => ?_)
                · refine r_aload_n hC dX6_woven_100 rfl ?_
                  refine r_aload_n hC dX6_woven_101 rfl ?_
                  refine z_getR hM dX6_woven_102 fl_RX6_16 rfl rfl (vld_of (n := 1) rfl (by omega) (by omega)) ?_
                  refine r_bipush hC dX6_woven_105 rfl ?_
                  refine r_iload_n hC dX6_woven_107 rfl ?_
                  refine r_imulE hC ((121 * l)) dX6_woven_108 (by omega) (by unfold inR; omega) ?_
                  refine r_iload hC dX6_woven_109 rfl ?_
                  refine r_iaddE hC (((121 * l) + w7)) dX6_woven_111 (by omega) (by unfold inR; omega) ?_
                  refine z_iald hM dX6_woven_112 rfl (by omega) (by omega) (fun v22 h_v22 o_v22 t_v22 => ?_)
                  refine z_inv1 hM dX6_woven_113 vl_RX6_109 rfl rfl rfl (Nat.le_of_ble_eq_true rfl) (Nat.le_of_ble_eq_true rfl) ?_
                  refine m_put (n := w18) (by omega) (by have hq := q0_ρ19; omega) (fun ρ23 g_ρ23 q_ρ23 => ?_)
                  refine r_iincE hC ((w7 + 1)) dX6_woven_116 rfl rfl (by omega) (by unfold inR; omega) ?_
                  refine r_goto (tgt := 31) hC dX6_woven_119 rfl ?_
                  exact ih31 (w17) ((w7 + 1)) ((w18 + 1)) ρ23 (by omega) (by omega) (by omega) (by omega) (by omega) (Gx.gx (g_ρ19) g_ρ23 (fun _ _ _ h => h)) (by have hq := q_ρ23; omega)
                · refine r_aload_n hC dX6_woven_51 rfl ?_
                  refine z_getR hM dX6_woven_52 fl_RX6_13 rfl rfl (vld_of (n := 1) rfl (by omega) (by omega)) ?_
                  refine r_bipush hC dX6_woven_55 rfl ?_
                  refine r_iload_n hC dX6_woven_57 rfl ?_
                  refine r_imulE hC ((121 * o)) dX6_woven_58 (by omega) (by unfold inR; omega) ?_
                  refine r_iload hC dX6_woven_59 rfl ?_
                  refine r_iaddE hC (((121 * o) + w17)) dX6_woven_61 (by omega) (by unfold inR; omega) ?_
                  refine z_iald hM dX6_woven_62 rfl (by omega) (by omega) (fun v24 h_v24 o_v24 t_v24 => ?_)
                  refine r_aload_n hC dX6_woven_63 rfl ?_
                  refine z_getR hM dX6_woven_64 fl_RX6_13 rfl rfl (vld_of (n := 1) rfl (by omega) (by omega)) ?_
                  refine r_bipush hC dX6_woven_67 rfl ?_
                  refine r_iload_n hC dX6_woven_69 rfl ?_
                  refine r_imulE hC ((121 * l)) dX6_woven_70 (by omega) (by unfold inR; omega) ?_
                  refine r_iload hC dX6_woven_71 rfl ?_
                  refine r_iaddE hC (((121 * l) + w7)) dX6_woven_73 (by omega) (by unfold inR; omega) ?_
                  refine z_iald hM dX6_woven_74 rfl (by omega) (by omega) (fun v25 h_v25 o_v25 t_v25 => ?_)
                  refine r_icmp_ge (tgt := 100) hC dX6_woven_75 rfl (fun h26 => ?_) (fun h26 => ?_)
                  · refine r_aload_n hC dX6_woven_100 rfl ?_
                    refine r_aload_n hC dX6_woven_101 rfl ?_
                    refine z_getR hM dX6_woven_102 fl_RX6_16 rfl rfl (vld_of (n := 1) rfl (by omega) (by omega)) ?_
                    refine r_bipush hC dX6_woven_105 rfl ?_
                    refine r_iload_n hC dX6_woven_107 rfl ?_
                    refine r_imulE hC ((121 * l)) dX6_woven_108 (by omega) (by unfold inR; omega) ?_
                    refine r_iload hC dX6_woven_109 rfl ?_
                    refine r_iaddE hC (((121 * l) + w7)) dX6_woven_111 (by omega) (by unfold inR; omega) ?_
                    refine z_iald hM dX6_woven_112 rfl (by omega) (by omega) (fun v27 h_v27 o_v27 t_v27 => ?_)
                    refine z_inv1 hM dX6_woven_113 vl_RX6_109 rfl rfl rfl (Nat.le_of_ble_eq_true rfl) (Nat.le_of_ble_eq_true rfl) ?_
                    refine m_put (n := w18) (by omega) (by have hq := q0_ρ19; omega) (fun ρ28 g_ρ28 q_ρ28 => ?_)
                    refine r_iincE hC ((w7 + 1)) dX6_woven_116 rfl rfl (by omega) (by unfold inR; omega) ?_
                    refine r_goto (tgt := 31) hC dX6_woven_119 rfl ?_
                    exact ih31 (w17) ((w7 + 1)) ((w18 + 1)) ρ28 (by omega) (by omega) (by omega) (by omega) (by omega) (Gx.gx (g_ρ19) g_ρ28 (fun _ _ _ h => h)) (by have hq := q_ρ28; omega)
                  · refine r_aload_n hC dX6_woven_78 rfl ?_
                    refine r_aload_n hC dX6_woven_79 rfl ?_
                    refine z_getR hM dX6_woven_80 fl_RX6_16 rfl rfl (vld_of (n := 1) rfl (by omega) (by omega)) ?_
                    refine r_bipush hC dX6_woven_83 rfl ?_
                    refine r_iload_n hC dX6_woven_85 rfl ?_
                    refine r_imulE hC ((121 * o)) dX6_woven_86 (by omega) (by unfold inR; omega) ?_
                    refine r_iload hC dX6_woven_87 rfl ?_
                    refine r_iaddE hC (((121 * o) + w17)) dX6_woven_89 (by omega) (by unfold inR; omega) ?_
                    refine z_iald hM dX6_woven_90 rfl (by omega) (by omega) (fun v29 h_v29 o_v29 t_v29 => ?_)
                    refine z_inv1 hM dX6_woven_91 vl_RX6_109 rfl rfl rfl (Nat.le_of_ble_eq_true rfl) (Nat.le_of_ble_eq_true rfl) ?_
                    refine m_put (n := w18) (by omega) (by have hq := q0_ρ19; omega) (fun ρ30 g_ρ30 q_ρ30 => ?_)
                    refine r_iincE hC ((w17 + 1)) dX6_woven_94 rfl rfl (by omega) (by unfold inR; omega) ?_
                    refine r_goto (tgt := 41) hC dX6_woven_97 rfl ?_
                    exact ih41 ((w17 + 1)) ((w18 + 1)) ρ30 (by omega) (by omega) (by omega) (by omega) (Gx.gx (g_ρ19) g_ρ30 (fun _ _ _ h => h)) (by have hq := q_ρ30; omega)
            exact L41 123 (w6) (w8) ρ9 (by omega) (by omega) (by omega) (by omega) (g_ρ9) (by have hq := q0_ρ9; omega)
      exact L31 123 (0) (0) (0) ρ5 (by omega) (by omega) (by omega) (by omega) (by omega) (Gx.gx (Gx.rf) g_ρ5 (fun _ _ _ h => h)) (by have hq := q_ρ5; omega)
    · refine r_if_ne (tgt := 21) hC dX6_woven_15 rfl (fun h31 => by omega) (fun h31 => ?_)
      refine r_ldc hC dX6_woven_18 co_RX6_160 rfl ?_
      refine y_iret hK rfl dX6_woven_20 ?_
      exact k _ _ (Gx.rf) (by omega)
  · refine r_if_eq (tgt := 18) hC dX6_woven_6 rfl (fun h32 => ?_) (fun h32 => by omega)
    refine r_ldc hC dX6_woven_18 co_RX6_160 rfl ?_
    refine y_iret hK rfl dX6_woven_20 ?_
    exact k _ _ (Gx.rf) (by omega)
theorem m_woven {ea eb : Bool} {d : Nat} {P : Option Vl → Mm → Prop} {σ : Mm} {l o w : Int}  (k : ∀ r : Int, -2147483648 ≤ r ∧ r ≤ 2147483647 → P (some (vI r)) σ) : WT (ea, eb, false) (d + 5) 233 [vR 30 0, vI l, vI o, vI w] σ P := by
  refine WT_loose (ea, eb, true) (fun h => h) (fun h => h) (fun c j q => ?_) (fun ρ hL hF hT hO => ?_)
  · rcases q with q | q | q | q
    · exact Or.inl q
    · exact Or.inr (Or.inl q)
    · exact Or.inr (Or.inr (Or.inl q))
    · cases q.1
  · refine m_woven_S  (qg0 := rfl) (fun r ρ2 g hr => ⟨σ, k r hr, fun h => Or.inl h, fun h => Or.inl h, fun c i j q => ?_⟩)
    refine (g c i j ?_).trans (hT c i j q)
    rintro (rfl | ⟨rfl, rfl⟩)
    all_goals
      rcases q with q | q | q | q
      · exact q
      · exact q.2
      · exact q.2
      · cases q.1
theorem m_keepNumbers {e : Ev} {d : Nat} {P : Option Vl → Mm → Prop} {σ : Mm} {o : Int}   (k : P none σ) : WT e (d + 2) 228 [vR 30 0, vI o] σ P := by
  refine WT_in fun K hK => ?_
  have hK : StpY e cX6_keepNumbers RX6 (none) (WT e (d + 1)) P K := hK
  have hM := hK.1
  have hC := hK.1.1
  show K 0 [some (vR 30 0), some (vI o), none] [] σ
  refine r_rngz hC (fun g0 => ?_)
  have r_o : -2147483648 ≤ o ∧ o ≤ 2147483647 := inR_le (g0 (vI o) (by simp))
  refine r_iconst hC dX6_keepNumbers_0 rfl ?_
  refine r_istore_n hC dX6_keepNumbers_1 rfl ?_
  have L2 : ∀ (n2 : Nat) (w1 : Int), 0 ≤ w1 ∧ w1 ≤ 7 → 7 - w1 < (n2 : Int) → K 2 [some (vR 30 0), some (vI o), some (vI w1)] [] σ := by
    intro n2
    induction n2 with
    | zero => intro w1  f_w1  hm ; omega
    | succ n2 ih2 =>
      intro w1  f_w1  hm2 
      refine r_iload_n hC dX6_keepNumbers_2 rfl ?_
      refine r_iload_n hC dX6_keepNumbers_3 rfl ?_
      refine z_ins1 hM dX6_keepNumbers_4 tl_RX6_127 rfl (Nat.le_of_ble_eq_true rfl) (Nat.le_of_ble_eq_true rfl) ?_
      refine m_howMany (fun v2 h_v2 => ?_)
      refine r_icmp_ge (tgt := 28) hC dX6_keepNumbers_7 rfl (fun h3 => ?_) (fun h3 => ?_)
      · refine y_vret hK rfl dX6_keepNumbers_28 ?_
        exact k
      · refine r_aload_n hC dX6_keepNumbers_10 rfl ?_
        refine z_getR hM dX6_keepNumbers_11 fl_RX6_64 rfl rfl (vld_of (n := 1) rfl (by omega) (by omega)) ?_
        refine r_iload_n hC dX6_keepNumbers_14 rfl ?_
        refine r_aload_n hC dX6_keepNumbers_15 rfl ?_
        refine z_getR hM dX6_keepNumbers_16 fl_RX6_31 rfl rfl (vld_of (n := 1) rfl (by omega) (by omega)) ?_
        refine r_iload_n hC dX6_keepNumbers_19 rfl ?_
        refine z_iald hM dX6_keepNumbers_20 rfl (by omega) (by omega) (fun v4 h_v4 o_v4 t_v4 => ?_)
        refine z_iastU hM dX6_keepNumbers_21 rfl (by omega) (by omega) (by simp [Un, Tb, DL, DF, DR]) (by simp [Okv]) ?_
        refine r_iincE hC ((w1 + 1)) dX6_keepNumbers_22 rfl rfl (by omega) (by unfold inR; omega) ?_
        refine r_goto (tgt := 2) hC dX6_keepNumbers_25 rfl ?_
        exact ih2 ((w1 + 1))  (by omega)  (by omega) 
  exact L2 9 (0)  (by omega)  (by omega) 
theorem m_areKept {e : Ev} {d : Nat} {P : Option Vl → Mm → Prop} {σ : Mm} {o : Int}   (k : ∀ r : Int, 0 ≤ r ∧ r ≤ 1 → P (some (vI r)) σ) : WT e (d + 2) 229 [vR 30 0, vI o] σ P := by
  refine WT_in fun K hK => ?_
  have hK : StpY e cX6_areKept RX6 (some .boolean) (WT e (d + 1)) P K := hK
  have hM := hK.1
  have hC := hK.1.1
  show K 0 [some (vR 30 0), some (vI o), none] [] σ
  refine r_rngz hC (fun g0 => ?_)
  have r_o : -2147483648 ≤ o ∧ o ≤ 2147483647 := inR_le (g0 (vI o) (by simp))
  refine r_iconst hC dX6_areKept_0 rfl ?_
  refine r_istore_n hC dX6_areKept_1 rfl ?_
  have L2 : ∀ (n2 : Nat) (w1 : Int), 0 ≤ w1 ∧ w1 ≤ 7 → 7 - w1 < (n2 : Int) → K 2 [some (vR 30 0), some (vI o), some (vI w1)] [] σ := by
    intro n2
    induction n2 with
    | zero => intro w1  f_w1  hm ; omega
    | succ n2 ih2 =>
      intro w1  f_w1  hm2 
      refine r_iload_n hC dX6_areKept_2 rfl ?_
      refine r_iload_n hC dX6_areKept_3 rfl ?_
      refine z_ins1 hM dX6_areKept_4 tl_RX6_127 rfl (Nat.le_of_ble_eq_true rfl) (Nat.le_of_ble_eq_true rfl) ?_
      refine m_howMany (fun v2 h_v2 => ?_)
      refine r_icmp_ge (tgt := 33) hC dX6_areKept_7 rfl (fun h3 => ?_) (fun h3 => ?_)
      · refine r_iconst hC dX6_areKept_33 rfl ?_
        refine y_zret hK rfl dX6_areKept_34 (by omega) ?_
        exact k _ (by omega)
      · refine r_aload_n hC dX6_areKept_10 rfl ?_
        refine z_getR hM dX6_areKept_11 fl_RX6_64 rfl rfl (vld_of (n := 1) rfl (by omega) (by omega)) ?_
        refine r_iload_n hC dX6_areKept_14 rfl ?_
        refine z_iald hM dX6_areKept_15 rfl (by omega) (by omega) (fun v4 h_v4 o_v4 t_v4 => ?_)
        refine r_aload_n hC dX6_areKept_16 rfl ?_
        refine z_getR hM dX6_areKept_17 fl_RX6_31 rfl rfl (vld_of (n := 1) rfl (by omega) (by omega)) ?_
        refine r_iload_n hC dX6_areKept_20 rfl ?_
        refine z_iald hM dX6_areKept_21 rfl (by omega) (by omega) (fun v5 h_v5 o_v5 t_v5 => ?_)
        refine r_icmp_eq (tgt := 27) hC dX6_areKept_22 rfl (fun h6 => ?_) (fun h6 => ?_)
        · refine r_iincE hC ((w1 + 1)) dX6_areKept_27 rfl rfl (by omega) (by unfold inR; omega) ?_
          refine r_goto (tgt := 2) hC dX6_areKept_30 rfl ?_
          exact ih2 ((w1 + 1))  (by omega)  (by omega) 
        · refine r_iconst hC dX6_areKept_25 rfl ?_
          refine y_zret hK rfl dX6_areKept_26 (by omega) ?_
          exact k _ (by omega)
  exact L2 9 (0)  (by omega)  (by omega) 
theorem m_commutes_S {eb : Bool} {d : Nat} {P : Option Vl → Mm → Prop} {σ : Mm} {l x n hl : Int} (qg0 : σ 30 0 8 = n) (qg1 : σ 31 0 ((22 * l) + 5) = hl) (hL : InL σ)  (k : ∀ (r : Int) (ρ : Mm), Gx (fun c x y => c = 37 ∨ c = 30 ∧ y = 8) σ ρ → (-2147483648 ≤ r ∧ r ≤ 2147483647) → P (some (vI r)) ρ) : WT (true, eb, true) (d + 4) 230 [vR 30 0, vI l, vI x] σ P := by
  refine WT_in fun K hK => ?_
  have hK : StpY (true, eb, true) cX6_commutes RX6 (some .int) (WT (true, eb, true) (d + 3)) P K := hK
  have hM := hK.1
  have hC := hK.1.1
  show K 0 [some (vR 30 0), some (vI l), some (vI x), none] [] σ
  refine r_rngz hC (fun g0 => ?_)
  have r_l : -2147483648 ≤ l ∧ l ≤ 2147483647 := inR_le (g0 (vI l) (by simp))
  have r_x : -2147483648 ≤ x ∧ x ≤ 2147483647 := inR_le (g0 (vI x) (by simp))
  refine r_aload_n hC dX6_commutes_0 rfl ?_
  refine r_iload_n hC dX6_commutes_1 rfl ?_
  refine z_inv1 hM dX6_commutes_2 vl_RX6_124 rfl rfl rfl (Nat.le_of_ble_eq_true rfl) (Nat.le_of_ble_eq_true rfl) ?_
  refine m_isLane (fun h1 => ?_) ?_
  · have b0_h1 : 0 ≤ hl ∧ hl ≤ 120 := by have := InL.h31 hL (l := l) (by omega) (by omega); have := qg1; omega
    refine r_if_eq (tgt := 23) hC dX6_commutes_5 rfl (fun h2 => by omega) (fun h2 => ?_)
    refine r_iload_n hC dX6_commutes_8 rfl ?_
    refine r_iconst hC dX6_commutes_9 rfl ?_
    refine r_aload_n hC dX6_commutes_10 rfl ?_
    refine r_iload_n hC dX6_commutes_11 rfl ?_
    refine z_inv1 hM dX6_commutes_12 vl_RX6_116 rfl rfl rfl (Nat.le_of_ble_eq_true rfl) (Nat.le_of_ble_eq_true rfl) ?_
    refine m_heldOf (by omega) (fun v3 h_v3 t_v3 => ?_)
    have e_v3 : hl = v3 := ((t_v3 rfl).trans qg1).symm
    subst e_v3
    refine r_iconst hC dX6_commutes_15 rfl ?_
    refine r_isubE hC ((hl - 2)) dX6_commutes_16 (by omega) (by unfold inR; omega) ?_
    refine z_ins3 hM dX6_commutes_17 tl_RX6_76 rfl (Nat.le_of_ble_eq_true rfl) (Nat.le_of_ble_eq_true rfl) ?_
    refine m_isIn (fun h5 => ?_) (fun h5 => ?_)
    · refine r_if_ne (tgt := 25) hC dX6_commutes_20 rfl (fun h6 => ?_) (fun h6 => by omega)
      refine r_aload_n hC dX6_commutes_25 rfl ?_
      refine r_iload_n hC dX6_commutes_26 rfl ?_
      refine z_inv1 hM dX6_commutes_27 vl_RX6_194 rfl rfl rfl (Nat.le_of_ble_eq_true rfl) (Nat.le_of_ble_eq_true rfl) ?_
      refine m_layAll (by omega) rfl (fun ρ7 g_ρ7 b_ρ7 t_ρ7 => ?_)
      have q_ρ7 : ρ7 30 0 8 = hl := by have hq := t_ρ7 rfl; have hr := qg1; omega
      refine r_aload_n hC dX6_commutes_30 rfl ?_
      refine r_aload_n hC dX6_commutes_31 rfl ?_
      refine r_iload_n hC dX6_commutes_32 rfl ?_
      refine r_iconst hC dX6_commutes_33 rfl ?_
      refine z_inv2 hM dX6_commutes_34 vl_RX6_80 rfl rfl rfl (Nat.le_of_ble_eq_true rfl) (Nat.le_of_ble_eq_true rfl) ?_
      refine m_of (by omega) (by omega) (fun v9 h_v9 h5_v9 h0_v9 t_v9 => ?_)
      refine z_inv1 hM dX6_commutes_37 vl_RX6_161 rfl rfl rfl (Nat.le_of_ble_eq_true rfl) (Nat.le_of_ble_eq_true rfl) ?_
      refine m_goThrough (n := hl) (by omega) (by have hq := q_ρ7; omega) ?_
      refine r_aload_n hC dX6_commutes_40 rfl ?_
      refine r_aload_n hC dX6_commutes_41 rfl ?_
      refine r_iload_n hC dX6_commutes_42 rfl ?_
      refine r_iconst hC dX6_commutes_43 rfl ?_
      refine z_inv2 hM dX6_commutes_44 vl_RX6_80 rfl rfl rfl (Nat.le_of_ble_eq_true rfl) (Nat.le_of_ble_eq_true rfl) ?_
      refine m_of (by omega) (by omega) (fun v10 h_v10 h5_v10 h0_v10 t_v10 => ?_)
      refine z_inv1 hM dX6_commutes_47 vl_RX6_274 rfl rfl rfl (Nat.le_of_ble_eq_true rfl) (Nat.le_of_ble_eq_true rfl) ?_
      refine m_keepNumbers ?_
      refine r_aload_n hC dX6_commutes_50 rfl ?_
      refine z_getR hM dX6_commutes_51 fl_RX6_28 rfl rfl (vld_of (n := 1) rfl (by omega) (by omega)) ?_
      refine r_iload_n hC dX6_commutes_54 rfl ?_
      refine z_iald hM dX6_commutes_55 rfl (by omega) (by omega) (fun v11 h_v11 o_v11 t_v11 => ?_)
      refine r_istore_n hC dX6_commutes_56 rfl ?_
      refine r_aload_n hC dX6_commutes_57 rfl ?_
      refine z_getR hM dX6_commutes_58 fl_RX6_28 rfl rfl (vld_of (n := 1) rfl (by omega) (by omega)) ?_
      refine r_iload_n hC dX6_commutes_61 rfl ?_
      refine r_aload_n hC dX6_commutes_62 rfl ?_
      refine z_getR hM dX6_commutes_63 fl_RX6_28 rfl rfl (vld_of (n := 1) rfl (by omega) (by omega)) ?_
      refine r_iload_n hC dX6_commutes_66 rfl ?_
      refine r_iconst hC dX6_commutes_67 rfl ?_
      refine r_iaddE hC ((x + 1)) dX6_commutes_68 (by omega) (by unfold inR; omega) ?_
      refine z_iald hM dX6_commutes_69 rfl (by omega) (by omega) (fun v12 h_v12 o_v12 t_v12 => ?_)
      refine z_iastG hM dX6_commutes_70 rfl (by omega) (by omega) ⟨Or.inr (by simp [DL]), Or.inr (by simp [DF])⟩ trivial (fun ρ13 a_ρ13 q_ρ13 => ?_)
      refine r_aload_n hC dX6_commutes_71 rfl ?_
      refine z_getR hM dX6_commutes_72 fl_RX6_28 rfl rfl (vld_of (n := 1) rfl (by omega) (by omega)) ?_
      refine r_iload_n hC dX6_commutes_75 rfl ?_
      refine r_iconst hC dX6_commutes_76 rfl ?_
      refine r_iaddE hC ((x + 1)) dX6_commutes_77 (by omega) (by unfold inR; omega) ?_
      refine r_iload_n hC dX6_commutes_78 rfl ?_
      refine z_iastG hM dX6_commutes_79 rfl (by omega) (by omega) ⟨Or.inr (by simp [DL]), Or.inr (by simp [DF])⟩ trivial (fun ρ14 a_ρ14 q_ρ14 => ?_)
      refine r_aload_n hC dX6_commutes_80 rfl ?_
      refine r_aload_n hC dX6_commutes_81 rfl ?_
      refine r_iload_n hC dX6_commutes_82 rfl ?_
      refine r_iconst hC dX6_commutes_83 rfl ?_
      refine z_inv2 hM dX6_commutes_84 vl_RX6_80 rfl rfl rfl (Nat.le_of_ble_eq_true rfl) (Nat.le_of_ble_eq_true rfl) ?_
      refine m_of (by omega) (by omega) (fun v15 h_v15 h5_v15 h0_v15 t_v15 => ?_)
      refine z_inv1 hM dX6_commutes_87 vl_RX6_161 rfl rfl rfl (Nat.le_of_ble_eq_true rfl) (Nat.le_of_ble_eq_true rfl) ?_
      refine m_goThrough (n := hl) (by omega) (by have hq := ((a_ρ14 _ _ _ (by omega)).trans ((a_ρ13 _ _ _ (by omega)).trans q_ρ7)); omega) ?_
      refine r_aload_n hC dX6_commutes_90 rfl ?_
      refine r_aload_n hC dX6_commutes_91 rfl ?_
      refine r_iload_n hC dX6_commutes_92 rfl ?_
      refine r_iconst hC dX6_commutes_93 rfl ?_
      refine z_inv2 hM dX6_commutes_94 vl_RX6_80 rfl rfl rfl (Nat.le_of_ble_eq_true rfl) (Nat.le_of_ble_eq_true rfl) ?_
      refine m_of (by omega) (by omega) (fun v16 h_v16 h5_v16 h0_v16 t_v16 => ?_)
      refine z_inv1 hM dX6_commutes_97 vl_RX6_277 rfl rfl rfl (Nat.le_of_ble_eq_true rfl) (Nat.le_of_ble_eq_true rfl) ?_
      refine m_areKept (fun v17 h_v17 => ?_)
      refine r_if_eq (tgt := 107) hC dX6_commutes_100 rfl (fun h18 => ?_) (fun h18 => ?_)
      · refine r_iconst hC dX6_commutes_107 rfl ?_
        refine y_iret hK rfl dX6_commutes_108 ?_
        exact k _ _ (((Gx.gx (Gx.rf) g_ρ7 (fun _ _ _ h => h)).al a_ρ13 (by first | simp | omega)).al a_ρ14 (by first | simp | omega)) (by omega)
      · refine r_iconst hC dX6_commutes_103 rfl ?_
        refine r_goto (tgt := 108) hC dX6_commutes_104 rfl ?_
        refine y_iret hK rfl dX6_commutes_108 ?_
        exact k _ _ (((Gx.gx (Gx.rf) g_ρ7 (fun _ _ _ h => h)).al a_ρ13 (by first | simp | omega)).al a_ρ14 (by first | simp | omega)) (by omega)
    · refine r_if_ne (tgt := 25) hC dX6_commutes_20 rfl (fun h19 => by omega) (fun h19 => ?_)
      refine r_iconst hC dX6_commutes_23 rfl ?_
      refine y_iret hK rfl dX6_commutes_24 ?_
      exact k _ _ (Gx.rf) (by omega)
  · refine r_if_eq (tgt := 23) hC dX6_commutes_5 rfl (fun h20 => ?_) (fun h20 => by omega)
    refine r_iconst hC dX6_commutes_23 rfl ?_
    refine y_iret hK rfl dX6_commutes_24 ?_
    exact k _ _ (Gx.rf) (by omega)
theorem m_commutes {eb : Bool} {d : Nat} {P : Option Vl → Mm → Prop} {σ : Mm} {l x : Int}  (k : ∀ r : Int, -2147483648 ≤ r ∧ r ≤ 2147483647 → P (some (vI r)) σ) : WT (false, eb, false) (d + 4) 230 [vR 30 0, vI l, vI x] σ P := by
  refine WT_loose (true, eb, true) (fun h => by cases h) (fun h => h) (fun c j q => ?_) (fun ρ hL hF hT hO => ?_)
  · rcases q with q | q | q | q
    · exact Or.inl q
    · cases q.1
    · exact Or.inr (Or.inr (Or.inl q))
    · cases q.1
  · refine m_commutes_S  (qg0 := rfl) (qg1 := rfl) (hL rfl) (fun r ρ2 g hr => ⟨σ, k r hr, fun h => Or.inr (InL.to (hL rfl) (fun c i j hD => g c i j (by rintro (rfl | ⟨rfl, rfl⟩) <;> exact hD))), fun h => Or.inl h, fun c i j q => ?_⟩)
    refine (g c i j ?_).trans (hT c i j q)
    rintro (rfl | ⟨rfl, rfl⟩)
    all_goals
      rcases q with q | q | q | q
      · exact q
      · cases q.1
      · exact q.2
      · cases q.1
theorem m_same_S {eb : Bool} {d : Nat} {P : Option Vl → Mm → Prop} {σ : Mm} {l o n hl ho : Int} (qg0 : σ 30 0 8 = n) (qg1 : σ 31 0 ((22 * l) + 5) = hl) (qg2 : σ 31 0 ((22 * o) + 5) = ho) (hL : InL σ)  (k : ∀ (r : Int) (ρ : Mm), Gx (fun c x y => c = 37 ∨ c = 30 ∧ y = 8) σ ρ → (-2147483648 ≤ r ∧ r ≤ 2147483647) → P (some (vI r)) ρ) : WT (true, eb, true) (d + 4) 234 [vR 30 0, vI l, vI o] σ P := by
  refine WT_in fun K hK => ?_
  have hK : StpY (true, eb, true) cX6_same RX6 (some .int) (WT (true, eb, true) (d + 3)) P K := hK
  have hM := hK.1
  have hC := hK.1.1
  show K 0 [some (vR 30 0), some (vI l), some (vI o)] [] σ
  refine r_rngz hC (fun g0 => ?_)
  have r_l : -2147483648 ≤ l ∧ l ≤ 2147483647 := inR_le (g0 (vI l) (by simp))
  have r_o : -2147483648 ≤ o ∧ o ≤ 2147483647 := inR_le (g0 (vI o) (by simp))
  refine r_aload_n hC dX6_same_0 rfl ?_
  refine r_iload_n hC dX6_same_1 rfl ?_
  refine r_iload_n hC dX6_same_2 rfl ?_
  refine z_inv2 hM dX6_same_3 vl_RX6_280 rfl rfl rfl (Nat.le_of_ble_eq_true rfl) (Nat.le_of_ble_eq_true rfl) ?_
  refine m_areAlike (fun h1 => ?_) ?_
  · have b0_h1 : 0 ≤ hl ∧ hl ≤ 120 := by have := InL.h31 hL (l := l) (by omega) (by omega); have := qg1; omega
    have b1_h1 : 0 ≤ ho ∧ ho ≤ 120 := by have := InL.h31 hL (l := o) (by omega) (by omega); have := qg2; omega
    refine r_if_ne (tgt := 11) hC dX6_same_6 rfl (fun h2 => ?_) (fun h2 => by omega)
    refine r_aload_n hC dX6_same_11 rfl ?_
    refine r_iload_n hC dX6_same_12 rfl ?_
    refine z_inv1 hM dX6_same_13 vl_RX6_116 rfl rfl rfl (Nat.le_of_ble_eq_true rfl) (Nat.le_of_ble_eq_true rfl) ?_
    refine m_heldOf (by omega) (fun v3 h_v3 t_v3 => ?_)
    have e_v3 : hl = v3 := ((t_v3 rfl).trans qg1).symm
    subst e_v3
    refine r_if_eq (tgt := 27) hC dX6_same_16 rfl (fun h4 => ?_) (fun h4 => ?_)
    · refine r_aload_n hC dX6_same_27 rfl ?_
      refine r_iload_n hC dX6_same_28 rfl ?_
      refine z_inv1 hM dX6_same_29 vl_RX6_116 rfl rfl rfl (Nat.le_of_ble_eq_true rfl) (Nat.le_of_ble_eq_true rfl) ?_
      refine m_heldOf (by omega) (fun v5 h_v5 t_v5 => ?_)
      have e_v5 : hl = v5 := ((t_v5 rfl).trans qg1).symm
      subst e_v5
      refine r_aload_n hC dX6_same_32 rfl ?_
      refine r_iload_n hC dX6_same_33 rfl ?_
      refine z_inv1 hM dX6_same_34 vl_RX6_116 rfl rfl rfl (Nat.le_of_ble_eq_true rfl) (Nat.le_of_ble_eq_true rfl) ?_
      refine m_heldOf (by omega) (fun v6 h_v6 t_v6 => ?_)
      have e_v6 : ho = v6 := ((t_v6 rfl).trans qg2).symm
      subst e_v6
      refine r_icmp_ne (tgt := 44) hC dX6_same_37 rfl (fun h7 => ?_) (fun h7 => ?_)
      · refine r_iconst hC dX6_same_44 rfl ?_
        refine y_iret hK rfl dX6_same_45 ?_
        exact k _ _ (Gx.rf) (by omega)
      · refine r_iconst hC dX6_same_40 rfl ?_
        refine r_goto (tgt := 45) hC dX6_same_41 rfl ?_
        refine y_iret hK rfl dX6_same_45 ?_
        exact k _ _ (Gx.rf) (by omega)
    · refine r_aload_n hC dX6_same_19 rfl ?_
      refine r_iload_n hC dX6_same_20 rfl ?_
      refine z_inv1 hM dX6_same_21 vl_RX6_116 rfl rfl rfl (Nat.le_of_ble_eq_true rfl) (Nat.le_of_ble_eq_true rfl) ?_
      refine m_heldOf (by omega) (fun v8 h_v8 t_v8 => ?_)
      have e_v8 : ho = v8 := ((t_v8 rfl).trans qg2).symm
      subst e_v8
      refine r_if_ne (tgt := 46) hC dX6_same_24 rfl (fun h9 => ?_) (fun h9 => ?_)
      · refine r_aload_n hC dX6_same_46 rfl ?_
        refine r_iload_n hC dX6_same_47 rfl ?_
        refine z_inv1 hM dX6_same_48 vl_RX6_194 rfl rfl rfl (Nat.le_of_ble_eq_true rfl) (Nat.le_of_ble_eq_true rfl) ?_
        refine m_layAll (by omega) rfl (fun ρ10 g_ρ10 b_ρ10 t_ρ10 => ?_)
        have q_ρ10 : ρ10 30 0 8 = hl := by have hq := t_ρ10 rfl; have hr := qg1; omega
        refine r_aload_n hC dX6_same_51 rfl ?_
        refine r_aload_n hC dX6_same_52 rfl ?_
        refine r_iload_n hC dX6_same_53 rfl ?_
        refine r_iconst hC dX6_same_54 rfl ?_
        refine z_inv2 hM dX6_same_55 vl_RX6_80 rfl rfl rfl (Nat.le_of_ble_eq_true rfl) (Nat.le_of_ble_eq_true rfl) ?_
        refine m_of (by omega) (by omega) (fun v12 h_v12 h5_v12 h0_v12 t_v12 => ?_)
        refine z_inv1 hM dX6_same_58 vl_RX6_161 rfl rfl rfl (Nat.le_of_ble_eq_true rfl) (Nat.le_of_ble_eq_true rfl) ?_
        refine m_goThrough (n := hl) (by omega) (by have hq := q_ρ10; omega) ?_
        refine r_aload_n hC dX6_same_61 rfl ?_
        refine r_aload_n hC dX6_same_62 rfl ?_
        refine r_iload_n hC dX6_same_63 rfl ?_
        refine r_iconst hC dX6_same_64 rfl ?_
        refine z_inv2 hM dX6_same_65 vl_RX6_80 rfl rfl rfl (Nat.le_of_ble_eq_true rfl) (Nat.le_of_ble_eq_true rfl) ?_
        refine m_of (by omega) (by omega) (fun v13 h_v13 h5_v13 h0_v13 t_v13 => ?_)
        refine z_inv1 hM dX6_same_68 vl_RX6_274 rfl rfl rfl (Nat.le_of_ble_eq_true rfl) (Nat.le_of_ble_eq_true rfl) ?_
        refine m_keepNumbers ?_
        refine r_aload_n hC dX6_same_71 rfl ?_
        refine r_iload_n hC dX6_same_72 rfl ?_
        refine z_inv1 hM dX6_same_73 vl_RX6_194 rfl rfl rfl (Nat.le_of_ble_eq_true rfl) (Nat.le_of_ble_eq_true rfl) ?_
        refine m_layAll (by omega) rfl (fun ρ14 g_ρ14 b_ρ14 t_ρ14 => ?_)
        have q_ρ14 : ρ14 30 0 8 = ho := by have hq := t_ρ14 rfl; have hr := ((g_ρ10 _ _ _ (by omega)).trans qg2); omega
        refine r_aload_n hC dX6_same_76 rfl ?_
        refine r_aload_n hC dX6_same_77 rfl ?_
        refine r_iload_n hC dX6_same_78 rfl ?_
        refine r_iconst hC dX6_same_79 rfl ?_
        refine z_inv2 hM dX6_same_80 vl_RX6_80 rfl rfl rfl (Nat.le_of_ble_eq_true rfl) (Nat.le_of_ble_eq_true rfl) ?_
        refine m_of (by omega) (by omega) (fun v16 h_v16 h5_v16 h0_v16 t_v16 => ?_)
        refine z_inv1 hM dX6_same_83 vl_RX6_161 rfl rfl rfl (Nat.le_of_ble_eq_true rfl) (Nat.le_of_ble_eq_true rfl) ?_
        refine m_goThrough (n := ho) (by omega) (by have hq := q_ρ14; omega) ?_
        refine r_aload_n hC dX6_same_86 rfl ?_
        refine r_aload_n hC dX6_same_87 rfl ?_
        refine r_iload_n hC dX6_same_88 rfl ?_
        refine r_iconst hC dX6_same_89 rfl ?_
        refine z_inv2 hM dX6_same_90 vl_RX6_80 rfl rfl rfl (Nat.le_of_ble_eq_true rfl) (Nat.le_of_ble_eq_true rfl) ?_
        refine m_of (by omega) (by omega) (fun v17 h_v17 h5_v17 h0_v17 t_v17 => ?_)
        refine z_inv1 hM dX6_same_93 vl_RX6_277 rfl rfl rfl (Nat.le_of_ble_eq_true rfl) (Nat.le_of_ble_eq_true rfl) ?_
        refine m_areKept (fun v18 h_v18 => ?_)
        refine r_if_eq (tgt := 103) hC dX6_same_96 rfl (fun h19 => ?_) (fun h19 => ?_)
        · refine r_iconst hC dX6_same_103 rfl ?_
          refine y_iret hK rfl dX6_same_104 ?_
          exact k _ _ (Gx.gx (Gx.gx (Gx.rf) g_ρ10 (fun _ _ _ h => h)) g_ρ14 (fun _ _ _ h => h)) (by omega)
        · refine r_iconst hC dX6_same_99 rfl ?_
          refine r_goto (tgt := 104) hC dX6_same_100 rfl ?_
          refine y_iret hK rfl dX6_same_104 ?_
          exact k _ _ (Gx.gx (Gx.gx (Gx.rf) g_ρ10 (fun _ _ _ h => h)) g_ρ14 (fun _ _ _ h => h)) (by omega)
      · refine r_aload_n hC dX6_same_27 rfl ?_
        refine r_iload_n hC dX6_same_28 rfl ?_
        refine z_inv1 hM dX6_same_29 vl_RX6_116 rfl rfl rfl (Nat.le_of_ble_eq_true rfl) (Nat.le_of_ble_eq_true rfl) ?_
        refine m_heldOf (by omega) (fun v20 h_v20 t_v20 => ?_)
        have e_v20 : hl = v20 := ((t_v20 rfl).trans qg1).symm
        subst e_v20
        refine r_aload_n hC dX6_same_32 rfl ?_
        refine r_iload_n hC dX6_same_33 rfl ?_
        refine z_inv1 hM dX6_same_34 vl_RX6_116 rfl rfl rfl (Nat.le_of_ble_eq_true rfl) (Nat.le_of_ble_eq_true rfl) ?_
        refine m_heldOf (by omega) (fun v21 h_v21 t_v21 => ?_)
        have e_v21 : ho = v21 := ((t_v21 rfl).trans qg2).symm
        subst e_v21
        refine r_icmp_ne (tgt := 44) hC dX6_same_37 rfl (fun h22 => ?_) (fun h22 => by omega)
        refine r_iconst hC dX6_same_44 rfl ?_
        refine y_iret hK rfl dX6_same_45 ?_
        exact k _ _ (Gx.rf) (by omega)
  · refine r_if_ne (tgt := 11) hC dX6_same_6 rfl (fun h23 => by omega) (fun h23 => ?_)
    refine r_iconst hC dX6_same_9 rfl ?_
    refine y_iret hK rfl dX6_same_10 ?_
    exact k _ _ (Gx.rf) (by omega)
theorem m_same {eb : Bool} {d : Nat} {P : Option Vl → Mm → Prop} {σ : Mm} {l o : Int}  (k : ∀ r : Int, -2147483648 ≤ r ∧ r ≤ 2147483647 → P (some (vI r)) σ) : WT (false, eb, false) (d + 4) 234 [vR 30 0, vI l, vI o] σ P := by
  refine WT_loose (true, eb, true) (fun h => by cases h) (fun h => h) (fun c j q => ?_) (fun ρ hL hF hT hO => ?_)
  · rcases q with q | q | q | q
    · exact Or.inl q
    · cases q.1
    · exact Or.inr (Or.inr (Or.inl q))
    · cases q.1
  · refine m_same_S  (qg0 := rfl) (qg1 := rfl) (qg2 := rfl) (hL rfl) (fun r ρ2 g hr => ⟨σ, k r hr, fun h => Or.inr (InL.to (hL rfl) (fun c i j hD => g c i j (by rintro (rfl | ⟨rfl, rfl⟩) <;> exact hD))), fun h => Or.inl h, fun c i j q => ?_⟩)
    refine (g c i j ?_).trans (hT c i j q)
    rintro (rfl | ⟨rfl, rfl⟩)
    all_goals
      rcases q with q | q | q | q
      · exact q
      · cases q.1
      · exact q.2
      · cases q.1
theorem m_law {ea eb : Bool} {d : Nat} {P : Option Vl → Mm → Prop} {σ : Mm} {l h w : Int}   (k : ∀ r : Int, -2147483648 ≤ r ∧ r ≤ 2147483647 → P (some (vI r)) σ) : WT (ea, eb, false) (d + 7) 235 [vR 30 0, vI l, vI h, vI w] σ P := by
  refine WT_in fun K hK => ?_
  have hK : StpY (ea, eb, false) cX6_law RX6 (some .int) (WT (ea, eb, false) (d + 6)) P K := hK
  have hM := hK.1
  have hC := hK.1.1
  show K 0 [some (vR 30 0), some (vI l), some (vI h), some (vI w)] [] σ
  refine r_rngz hC (fun g0 => ?_)
  have r_l : -2147483648 ≤ l ∧ l ≤ 2147483647 := inR_le (g0 (vI l) (by simp))
  have r_h : -2147483648 ≤ h ∧ h ≤ 2147483647 := inR_le (g0 (vI h) (by simp))
  have r_w : -2147483648 ≤ w ∧ w ≤ 2147483647 := inR_le (g0 (vI w) (by simp))
  refine r_iload_n hC dX6_law_0 rfl ?_
  refine r_iconst hC dX6_law_1 rfl ?_
  refine r_iconst hC dX6_law_2 rfl ?_
  refine z_ins3 hM dX6_law_3 tl_RX6_76 rfl (Nat.le_of_ble_eq_true rfl) (Nat.le_of_ble_eq_true rfl) ?_
  refine m_isIn (fun h2 => ?_) (fun h2 => ?_)
  · refine r_if_eq (tgt := 18) hC dX6_law_6 rfl (fun h3 => by omega) (fun h3 => ?_)
    refine r_aload_n hC dX6_law_9 rfl ?_
    refine r_iload_n hC dX6_law_10 rfl ?_
    refine r_iload_n hC dX6_law_11 rfl ?_
    refine z_inv2 hM dX6_law_12 vl_RX6_283 rfl rfl rfl (Nat.le_of_ble_eq_true rfl) (Nat.le_of_ble_eq_true rfl) ?_
    refine m_total (fun v4 h_v4 => ?_)
    refine r_goto (tgt := 20) hC dX6_law_15 rfl ?_
    refine y_iret hK rfl dX6_law_20 ?_
    exact k _ (by omega)
  · refine r_if_eq (tgt := 18) hC dX6_law_6 rfl (fun h5 => ?_) (fun h5 => by omega)
    refine r_ldc hC dX6_law_18 co_RX6_160 rfl ?_
    refine y_iret hK rfl dX6_law_20 ?_
    exact k _ (by omega)
theorem m_layParts {eb : Bool} {d : Nat} {P : Option Vl → Mm → Prop} {σ : Mm} {l w hl : Int} (b_l : 0 ≤ l ∧ l ≤ 7) (b_w : 0 ≤ w ∧ w ≤ 6) (b_hl : 0 ≤ hl ∧ hl ≤ 120) (qg0 : σ 31 0 ((22 * l) + 5) = hl)  (k : P none σ) : WT (true, eb, false) (d + 6) 236 [vR 30 0, vI l, vI w] σ P := by
  refine WT_in fun K hK => ?_
  have hK : StpY (true, eb, false) cX6_layParts RX6 (none) (WT (true, eb, false) (d + 5)) P K := hK
  have hM := hK.1
  have hC := hK.1.1
  show K 0 [some (vR 30 0), some (vI l), some (vI w), none, none] [] σ
  refine r_iconst hC dX6_layParts_0 rfl ?_
  refine r_istore_n hC dX6_layParts_1 rfl ?_
  have L2 : ∀ (n2 : Nat) (w1 : Int), 0 ≤ w1 ∧ w1 ≤ 120 → 120 - w1 < (n2 : Int) → K 2 [some (vR 30 0), some (vI l), some (vI w), some (vI w1), none] [] σ := by
    intro n2
    induction n2 with
    | zero => intro w1  f_w1  hm ; omega
    | succ n2 ih2 =>
      intro w1  f_w1  hm2 
      refine r_iload_n hC dX6_layParts_2 rfl ?_
      refine r_aload_n hC dX6_layParts_3 rfl ?_
      refine r_iload_n hC dX6_layParts_4 rfl ?_
      refine z_inv1 hM dX6_layParts_5 vl_RX6_116 rfl rfl rfl (Nat.le_of_ble_eq_true rfl) (Nat.le_of_ble_eq_true rfl) ?_
      refine m_heldOf (by omega) (fun v2 h_v2 t_v2 => ?_)
      have e_v2 : hl = v2 := ((t_v2 rfl).trans qg0).symm
      subst e_v2
      refine r_icmp_ge (tgt := 57) hC dX6_layParts_8 rfl (fun h3 => ?_) (fun h3 => ?_)
      · refine y_vret hK rfl dX6_layParts_57 ?_
        exact k
      · refine r_iload_n hC dX6_layParts_11 rfl ?_
        refine r_istore hC dX6_layParts_12 rfl ?_
        have L14 : ∀ (n14 : Nat) (w4 : Int), 0 ≤ w4 ∧ w4 ≤ 120 → 120 - w4 < (n14 : Int) → K 14 [some (vR 30 0), some (vI l), some (vI w), some (vI w1), some (vI w4)] [] σ := by
          intro n14
          induction n14 with
          | zero => intro w4  f_w4  hm ; omega
          | succ n14 ih14 =>
            intro w4  f_w4  hm14 
            refine r_iload hC dX6_layParts_14 rfl ?_
            refine r_aload_n hC dX6_layParts_16 rfl ?_
            refine r_iload_n hC dX6_layParts_17 rfl ?_
            refine z_inv1 hM dX6_layParts_18 vl_RX6_116 rfl rfl rfl (Nat.le_of_ble_eq_true rfl) (Nat.le_of_ble_eq_true rfl) ?_
            refine m_heldOf (by omega) (fun v5 h_v5 t_v5 => ?_)
            have e_v5 : hl = v5 := ((t_v5 rfl).trans qg0).symm
            subst e_v5
            refine r_icmp_ge (tgt := 51) hC dX6_layParts_21 rfl (fun h6 => ?_) (fun h6 => ?_)
            · refine r_iincE hC ((w1 + 1)) dX6_layParts_51 rfl rfl (by omega) (by unfold inR; omega) ?_
              refine r_goto (tgt := 2) hC dX6_layParts_54 rfl ?_
              refine r_forget hC (ls2 := [some (vR 30 0), some (vI l), some (vI w), some (vI (w1 + 1)), none]) (lsub_some (lsub_some (lsub_some (lsub_some (lsub_none lsub_nil))))) ?_
              exact ih2 ((w1 + 1))  (by omega)  (by omega) 
            · refine r_aload_n hC dX6_layParts_24 rfl ?_
              refine z_getR hM dX6_layParts_25 fl_RX6_67 rfl rfl (vld_of (n := 1) rfl (by omega) (by omega)) ?_
              refine r_bipush hC dX6_layParts_28 rfl ?_
              refine r_iload_n hC dX6_layParts_30 rfl ?_
              refine r_imulE hC ((120 * w1)) dX6_layParts_31 (by omega) (by unfold inR; omega) ?_
              refine r_iload hC dX6_layParts_32 rfl ?_
              refine r_iaddE hC (((120 * w1) + w4)) dX6_layParts_34 (by omega) (by unfold inR; omega) ?_
              refine r_aload_n hC dX6_layParts_35 rfl ?_
              refine r_iload_n hC dX6_layParts_36 rfl ?_
              refine r_iload_n hC dX6_layParts_37 rfl ?_
              refine r_iload hC dX6_layParts_38 rfl ?_
              refine r_iload_n hC dX6_layParts_40 rfl ?_
              refine z_inv4 hM dX6_layParts_41 vl_RX6_243 rfl rfl rfl (Nat.le_of_ble_eq_true rfl) (Nat.le_of_ble_eq_true rfl) ?_
              refine m_comesFrom (by omega) (by omega) (by omega) (by omega) (fun v7 h_v7 => ?_)
              refine z_iastU hM dX6_layParts_44 rfl (by omega) (by omega) (by simp [Un, Tb, DL, DF, DR]) (by simp [Okv]) ?_
              refine r_iincE hC ((w4 + 1)) dX6_layParts_45 rfl rfl (by omega) (by unfold inR; omega) ?_
              refine r_goto (tgt := 14) hC dX6_layParts_48 rfl ?_
              exact ih14 ((w4 + 1))  (by omega)  (by omega) 
        exact L14 122 (w1)  (by omega)  (by omega) 
  exact L2 122 (0)  (by omega)  (by omega) 
theorem m_shortest_S {eb : Bool} {d : Nat} {P : Option Vl → Mm → Prop} {σ : Mm} {l w b z hl : Int} (qg0 : σ 31 0 ((22 * l) + 5) = hl) (hL : InL σ)  (k : ∀ r : Int, -1 ≤ r ∧ r ≤ 120 → P (some (vI r)) σ) : WT (true, eb, false) (d + 7) 237 [vR 30 0, vI l, vI w, vI b, vI z] σ P := by
  refine WT_in fun K hK => ?_
  have hK : StpY (true, eb, false) cX6_shortest RX6 (some .int) (WT (true, eb, false) (d + 6)) P K := hK
  have hM := hK.1
  have hC := hK.1.1
  show K 0 [some (vR 30 0), some (vI l), some (vI w), some (vI b), some (vI z), none, none] [] σ
  refine r_rngz hC (fun g0 => ?_)
  have r_l : -2147483648 ≤ l ∧ l ≤ 2147483647 := inR_le (g0 (vI l) (by simp))
  have r_w : -2147483648 ≤ w ∧ w ≤ 2147483647 := inR_le (g0 (vI w) (by simp))
  have r_b : -2147483648 ≤ b ∧ b ≤ 2147483647 := inR_le (g0 (vI b) (by simp))
  have r_z : -2147483648 ≤ z ∧ z ≤ 2147483647 := inR_le (g0 (vI z) (by simp))
  refine r_aload_n hC dX6_shortest_0 rfl ?_
  refine r_iload_n hC dX6_shortest_1 rfl ?_
  refine r_iload_n hC dX6_shortest_2 rfl ?_
  refine z_inv2 hM dX6_shortest_3 vl_RX6_207 rfl rfl rfl (Nat.le_of_ble_eq_true rfl) (Nat.le_of_ble_eq_true rfl) ?_
  refine m_isNumber (fun h1 => ?_) ?_
  · have b0_h1 : 0 ≤ hl ∧ hl ≤ 120 := by have := InL.h31 hL (l := l) (by omega) (by omega); have := qg0; omega
    refine r_if_eq (tgt := 19) hC dX6_shortest_6 rfl (fun h2 => by omega) (fun h2 => ?_)
    refine r_iload hC dX6_shortest_9 rfl ?_
    refine r_iconst hC dX6_shortest_11 rfl ?_
    refine r_iconst hC dX6_shortest_12 rfl ?_
    refine z_ins3 hM dX6_shortest_13 tl_RX6_76 rfl (Nat.le_of_ble_eq_true rfl) (Nat.le_of_ble_eq_true rfl) ?_
    refine m_isIn (fun h4 => ?_) (fun h4 => ?_)
    · refine r_if_ne (tgt := 21) hC dX6_shortest_16 rfl (fun h5 => ?_) (fun h5 => by omega)
      refine r_aload_n hC dX6_shortest_21 rfl ?_
      refine r_iload_n hC dX6_shortest_22 rfl ?_
      refine r_iload_n hC dX6_shortest_23 rfl ?_
      refine z_inv2 hM dX6_shortest_24 vl_RX6_286 rfl rfl rfl (Nat.le_of_ble_eq_true rfl) (Nat.le_of_ble_eq_true rfl) ?_
      refine m_layParts (hl := hl) (by omega) (by omega) (by omega) (by have hq := qg0; omega) ?_
      refine r_iconst hC dX6_shortest_27 rfl ?_
      refine r_istore hC dX6_shortest_28 rfl ?_
      have L30 : ∀ (n30 : Nat) (w6 : Int), 1 ≤ w6 ∧ w6 ≤ 121 → 121 - w6 < (n30 : Int) → K 30 [some (vR 30 0), some (vI l), some (vI w), some (vI b), some (vI z), some (vI w6), none] [] σ := by
        intro n30
        induction n30 with
        | zero => intro w6  f_w6  hm ; omega
        | succ n30 ih30 =>
          intro w6  f_w6  hm30 
          refine r_iload hC dX6_shortest_30 rfl ?_
          refine r_aload_n hC dX6_shortest_32 rfl ?_
          refine r_iload_n hC dX6_shortest_33 rfl ?_
          refine z_inv1 hM dX6_shortest_34 vl_RX6_116 rfl rfl rfl (Nat.le_of_ble_eq_true rfl) (Nat.le_of_ble_eq_true rfl) ?_
          refine m_heldOf (by omega) (fun v7 h_v7 t_v7 => ?_)
          have e_v7 : hl = v7 := ((t_v7 rfl).trans qg0).symm
          subst e_v7
          refine r_icmp_gt (tgt := 106) hC dX6_shortest_37 rfl (fun h8 => ?_) (fun h8 => ?_)
          · refine r_iconst hC dX6_shortest_106 rfl ?_
            refine y_iret hK rfl dX6_shortest_107 ?_
            exact k _ (by omega)
          · refine r_iconst hC dX6_shortest_40 rfl ?_
            refine r_istore hC dX6_shortest_41 rfl ?_
            have L43 : ∀ (n43 : Nat) (w9 : Int), 0 ≤ w9 ∧ w9 ≤ 120 → 121 - w9 < (n43 : Int) → K 43 [some (vR 30 0), some (vI l), some (vI w), some (vI b), some (vI z), some (vI w6), some (vI w9)] [] σ := by
              intro n43
              induction n43 with
              | zero => intro w9  f_w9  hm ; omega
              | succ n43 ih43 =>
                intro w9  f_w9  hm43 
                refine r_iload hC dX6_shortest_43 rfl ?_
                refine r_iload hC dX6_shortest_45 rfl ?_
                refine r_iaddE hC ((w9 + w6)) dX6_shortest_47 (by omega) (by unfold inR; omega) ?_
                refine r_aload_n hC dX6_shortest_48 rfl ?_
                refine r_iload_n hC dX6_shortest_49 rfl ?_
                refine z_inv1 hM dX6_shortest_50 vl_RX6_116 rfl rfl rfl (Nat.le_of_ble_eq_true rfl) (Nat.le_of_ble_eq_true rfl) ?_
                refine m_heldOf (by omega) (fun v10 h_v10 t_v10 => ?_)
                have e_v10 : hl = v10 := ((t_v10 rfl).trans qg0).symm
                subst e_v10
                refine r_icmp_gt (tgt := 100) hC dX6_shortest_53 rfl (fun h11 => ?_) (fun h11 => ?_)
                · refine r_iincE hC ((w6 + 1)) dX6_shortest_100 rfl rfl (by omega) (by unfold inR; omega) ?_
                  refine r_goto (tgt := 30) hC dX6_shortest_103 rfl ?_
                  refine r_forget hC (ls2 := [some (vR 30 0), some (vI l), some (vI w), some (vI b), some (vI z), some (vI (w6 + 1)), none]) (lsub_some (lsub_some (lsub_some (lsub_some (lsub_some (lsub_some (lsub_none lsub_nil))))))) ?_
                  exact ih30 ((w6 + 1))  (by omega)  (by omega) 
                · refine r_aload_n hC dX6_shortest_56 rfl ?_
                  refine z_getR hM dX6_shortest_57 fl_RX6_67 rfl rfl (vld_of (n := 1) rfl (by omega) (by omega)) ?_
                  refine r_bipush hC dX6_shortest_60 rfl ?_
                  refine r_iload hC dX6_shortest_62 rfl ?_
                  refine r_imulE hC ((120 * w9)) dX6_shortest_64 (by omega) (by unfold inR; omega) ?_
                  refine r_iload hC dX6_shortest_65 rfl ?_
                  refine r_iaddE hC (((120 * w9) + w9)) dX6_shortest_67 (by omega) (by unfold inR; omega) ?_
                  refine r_iload hC dX6_shortest_68 rfl ?_
                  refine r_iaddE hC ((((120 * w9) + w9) + w6)) dX6_shortest_70 (by omega) (by unfold inR; omega) ?_
                  refine r_iconst hC dX6_shortest_71 rfl ?_
                  refine r_isubE hC (((((120 * w9) + w9) + w6) - 1)) dX6_shortest_72 (by omega) (by unfold inR; omega) ?_
                  refine z_iald hM dX6_shortest_73 rfl (by omega) (by omega) (fun v12 h_v12 o_v12 t_v12 => ?_)
                  refine r_iload_n hC dX6_shortest_74 rfl ?_
                  refine z_ins2 hM dX6_shortest_75 tl_RX6_200 rfl (Nat.le_of_ble_eq_true rfl) (Nat.le_of_ble_eq_true rfl) ?_
                  refine m_isReached (fun v13 h_v13 => ?_)
                  refine r_if_eq (tgt := 94) hC dX6_shortest_78 rfl (fun h14 => ?_) (fun h14 => ?_)
                  · refine r_iincE hC ((w9 + 1)) dX6_shortest_94 rfl rfl (by omega) (by unfold inR; omega) ?_
                    refine r_goto (tgt := 43) hC dX6_shortest_97 rfl ?_
                    exact ih43 ((w9 + 1))  (by omega)  (by omega) 
                  · refine r_iload hC dX6_shortest_81 rfl ?_
                    refine r_if_ne (tgt := 91) hC dX6_shortest_83 rfl (fun h15 => ?_) (fun h15 => ?_)
                    · refine r_iload hC dX6_shortest_91 rfl ?_
                      refine y_iret hK rfl dX6_shortest_93 ?_
                      exact k _ (by omega)
                    · refine r_iload hC dX6_shortest_86 rfl ?_
                      refine r_goto (tgt := 93) hC dX6_shortest_88 rfl ?_
                      refine y_iret hK rfl dX6_shortest_93 ?_
                      exact k _ (by omega)
            exact L43 123 (0)  (by omega)  (by omega) 
      exact L30 122 (1)  (by omega)  (by omega) 
    · refine r_if_ne (tgt := 21) hC dX6_shortest_16 rfl (fun h16 => by omega) (fun h16 => ?_)
      refine r_iconst hC dX6_shortest_19 rfl ?_
      refine y_iret hK rfl dX6_shortest_20 ?_
      exact k _ (by omega)
  · refine r_if_eq (tgt := 19) hC dX6_shortest_6 rfl (fun h17 => ?_) (fun h17 => by omega)
    refine r_iconst hC dX6_shortest_19 rfl ?_
    refine y_iret hK rfl dX6_shortest_20 ?_
    exact k _ (by omega)
theorem m_shortest {eb : Bool} {d : Nat} {P : Option Vl → Mm → Prop} {σ : Mm} {l w b z : Int} (k : ∀ r : Int, -1 ≤ r ∧ r ≤ 120 → P (some (vI r)) σ) : WT (false, eb, false) (d + 7) 237 [vR 30 0, vI l, vI w, vI b, vI z] σ P := by
  refine WT_loose (true, eb, false) (fun h => by cases h) (fun h => h) (fun c j q => ?_) (fun ρ hL hF hT hO => ?_)
  · rcases q with q | q | q | q
    · exact Or.inl q
    · cases q.1
    · exact Or.inr (Or.inr (Or.inl q))
    · cases q.1
  · exact m_shortest_S (qg0 := rfl) (hL rfl) (fun r hr => ⟨σ, k r hr, fun _ => Or.inr (hL rfl), fun h => Or.inl h, fun c i j q => hT c i j q⟩)
theorem m_windows_S {eb : Bool} {d : Nat} {P : Option Vl → Mm → Prop} {σ : Mm} {l w x y hl : Int} (qg0 : σ 31 0 ((22 * l) + 5) = hl) (hL : InL σ)  (k : ∀ r : Int, -2147483648 ≤ r ∧ r ≤ 2147483647 → P (some (vI r)) σ) : WT (true, eb, false) (d + 7) 238 [vR 30 0, vI l, vI w, vI x, vI y] σ P := by
  refine WT_in fun K hK => ?_
  have hK : StpY (true, eb, false) cX6_windows RX6 (some .int) (WT (true, eb, false) (d + 6)) P K := hK
  have hM := hK.1
  have hC := hK.1.1
  show K 0 [some (vR 30 0), some (vI l), some (vI w), some (vI x), some (vI y), none, none, none, none] [] σ
  refine r_rngz hC (fun g0 => ?_)
  have r_l : -2147483648 ≤ l ∧ l ≤ 2147483647 := inR_le (g0 (vI l) (by simp))
  have r_w : -2147483648 ≤ w ∧ w ≤ 2147483647 := inR_le (g0 (vI w) (by simp))
  have r_x : -2147483648 ≤ x ∧ x ≤ 2147483647 := inR_le (g0 (vI x) (by simp))
  have r_y : -2147483648 ≤ y ∧ y ≤ 2147483647 := inR_le (g0 (vI y) (by simp))
  refine r_aload_n hC dX6_windows_0 rfl ?_
  refine r_iload_n hC dX6_windows_1 rfl ?_
  refine r_iload_n hC dX6_windows_2 rfl ?_
  refine z_inv2 hM dX6_windows_3 vl_RX6_207 rfl rfl rfl (Nat.le_of_ble_eq_true rfl) (Nat.le_of_ble_eq_true rfl) ?_
  refine m_isNumber (fun h1 => ?_) ?_
  · have b0_h1 : 0 ≤ hl ∧ hl ≤ 120 := by have := InL.h31 hL (l := l) (by omega) (by omega); have := qg0; omega
    refine r_if_ne (tgt := 11) hC dX6_windows_6 rfl (fun h2 => ?_) (fun h2 => by omega)
    refine r_aload_n hC dX6_windows_11 rfl ?_
    refine r_iload_n hC dX6_windows_12 rfl ?_
    refine r_iload_n hC dX6_windows_13 rfl ?_
    refine z_inv2 hM dX6_windows_14 vl_RX6_286 rfl rfl rfl (Nat.le_of_ble_eq_true rfl) (Nat.le_of_ble_eq_true rfl) ?_
    refine m_layParts (hl := hl) (by omega) (by omega) (by omega) (by have hq := qg0; omega) ?_
    refine r_iconst hC dX6_windows_17 rfl ?_
    refine r_istore hC dX6_windows_18 rfl ?_
    refine r_iconst hC dX6_windows_20 rfl ?_
    refine r_istore hC dX6_windows_21 rfl ?_
    have L23 : ∀ (n23 : Nat) (w3 w4 : Int), -2147483648 ≤ w3 ∧ w3 ≤ 2147483647 → 0 ≤ w4 ∧ w4 ≤ 120 → 120 - w4 < (n23 : Int) → K 23 [some (vR 30 0), some (vI l), some (vI w), some (vI x), some (vI y), some (vI w3), some (vI w4), none, none] [] σ := by
      intro n23
      induction n23 with
      | zero => intro w3 w4  f_w3 f_w4  hm ; omega
      | succ n23 ih23 =>
        intro w3 w4  f_w3 f_w4  hm23 
        refine r_iload hC dX6_windows_23 rfl ?_
        refine r_aload_n hC dX6_windows_25 rfl ?_
        refine r_iload_n hC dX6_windows_26 rfl ?_
        refine z_inv1 hM dX6_windows_27 vl_RX6_116 rfl rfl rfl (Nat.le_of_ble_eq_true rfl) (Nat.le_of_ble_eq_true rfl) ?_
        refine m_heldOf (by omega) (fun v5 h_v5 t_v5 => ?_)
        have e_v5 : hl = v5 := ((t_v5 rfl).trans qg0).symm
        subst e_v5
        refine r_icmp_ge (tgt := 102) hC dX6_windows_30 rfl (fun h6 => ?_) (fun h6 => ?_)
        · refine r_iload hC dX6_windows_102 rfl ?_
          refine y_iret hK rfl dX6_windows_104 ?_
          exact k _ (by omega)
        · refine r_iload hC dX6_windows_33 rfl ?_
          refine r_istore hC dX6_windows_35 rfl ?_
          have L37 : ∀ (n37 : Nat) (w7 w8 : Int), 0 ≤ w7 ∧ w7 ≤ 120 → -2147483648 ≤ w8 ∧ w8 ≤ 2147483647 → 120 - w7 < (n37 : Int) → K 37 [some (vR 30 0), some (vI l), some (vI w), some (vI x), some (vI y), some (vI w8), some (vI w4), some (vI w7), none] [] σ := by
            intro n37
            induction n37 with
            | zero => intro w7 w8  f_w7 f_w8  hm ; omega
            | succ n37 ih37 =>
              intro w7 w8  f_w7 f_w8  hm37 
              refine r_iload hC dX6_windows_37 rfl ?_
              refine r_aload_n hC dX6_windows_39 rfl ?_
              refine r_iload_n hC dX6_windows_40 rfl ?_
              refine z_inv1 hM dX6_windows_41 vl_RX6_116 rfl rfl rfl (Nat.le_of_ble_eq_true rfl) (Nat.le_of_ble_eq_true rfl) ?_
              refine m_heldOf (by omega) (fun v9 h_v9 t_v9 => ?_)
              have e_v9 : hl = v9 := ((t_v9 rfl).trans qg0).symm
              subst e_v9
              refine r_icmp_ge (tgt := 96) hC dX6_windows_44 rfl (fun h10 => ?_) (fun h10 => ?_)
              · refine r_iincE hC ((w4 + 1)) dX6_windows_96 rfl rfl (by omega) (by unfold inR; omega) ?_
                refine r_goto (tgt := 23) hC dX6_windows_99 rfl ?_
                refine r_forget hC (ls2 := [some (vR 30 0), some (vI l), some (vI w), some (vI x), some (vI y), some (vI w8), some (vI (w4 + 1)), none, none]) (lsub_some (lsub_some (lsub_some (lsub_some (lsub_some (lsub_some (lsub_some (lsub_none (lsub_none lsub_nil))))))))) ?_
                exact ih23 (w8) ((w4 + 1))  (by omega) (by omega)  (by omega) 
              · refine r_aload_n hC dX6_windows_47 rfl ?_
                refine z_getR hM dX6_windows_48 fl_RX6_67 rfl rfl (vld_of (n := 1) rfl (by omega) (by omega)) ?_
                refine r_bipush hC dX6_windows_51 rfl ?_
                refine r_iload hC dX6_windows_53 rfl ?_
                refine r_imulE hC ((120 * w4)) dX6_windows_55 (by omega) (by unfold inR; omega) ?_
                refine r_iload hC dX6_windows_56 rfl ?_
                refine r_iaddE hC (((120 * w4) + w7)) dX6_windows_58 (by omega) (by unfold inR; omega) ?_
                refine z_iald hM dX6_windows_59 rfl (by omega) (by omega) (fun v11 h_v11 o_v11 t_v11 => ?_)
                refine r_istore hC dX6_windows_60 rfl ?_
                refine r_iload hC dX6_windows_62 rfl ?_
                refine r_iload hC dX6_windows_64 rfl ?_
                refine r_ldc hC dX6_windows_66 co_RX6_160 rfl ?_
                refine r_icmp_eq (tgt := 86) hC dX6_windows_68 rfl (fun h12 => ?_) (fun h12 => ?_)
                · refine r_iconst hC dX6_windows_86 rfl ?_
                  refine r_iaddE hC (w8) dX6_windows_87 (by omega) (by unfold inR; omega) ?_
                  refine r_istore hC dX6_windows_88 rfl ?_
                  refine r_iincE hC ((w7 + 1)) dX6_windows_90 rfl rfl (by omega) (by unfold inR; omega) ?_
                  refine r_goto (tgt := 37) hC dX6_windows_93 rfl ?_
                  refine r_forget hC (ls2 := [some (vR 30 0), some (vI l), some (vI w), some (vI x), some (vI y), some (vI w8), some (vI w4), some (vI (w7 + 1)), none]) (lsub_some (lsub_some (lsub_some (lsub_some (lsub_some (lsub_some (lsub_some (lsub_some (lsub_none lsub_nil))))))))) ?_
                  exact ih37 ((w7 + 1)) (w8)  (by omega) (by omega)  (by omega) 
                · refine r_iload hC dX6_windows_71 rfl ?_
                  refine r_iload_n hC dX6_windows_73 rfl ?_
                  refine r_iload hC dX6_windows_74 rfl ?_
                  refine z_ins3 hM dX6_windows_76 tl_RX6_76 rfl (Nat.le_of_ble_eq_true rfl) (Nat.le_of_ble_eq_true rfl) ?_
                  refine m_isIn (fun h14 => ?_) (fun h14 => ?_)
                  · refine r_if_eq (tgt := 86) hC dX6_windows_79 rfl (fun h15 => by omega) (fun h15 => ?_)
                    refine r_iconst hC dX6_windows_82 rfl ?_
                    refine r_goto (tgt := 87) hC dX6_windows_83 rfl ?_
                    refine r_iaddG hC dX6_windows_87 (fun v16 h_v16 => ?_)
                    refine r_istore hC dX6_windows_88 rfl ?_
                    refine r_iincE hC ((w7 + 1)) dX6_windows_90 rfl rfl (by omega) (by unfold inR; omega) ?_
                    refine r_goto (tgt := 37) hC dX6_windows_93 rfl ?_
                    refine r_forget hC (ls2 := [some (vR 30 0), some (vI l), some (vI w), some (vI x), some (vI y), some (vI v16), some (vI w4), some (vI (w7 + 1)), none]) (lsub_some (lsub_some (lsub_some (lsub_some (lsub_some (lsub_some (lsub_some (lsub_some (lsub_none lsub_nil))))))))) ?_
                    exact ih37 ((w7 + 1)) (v16)  (by omega) (by omega)  (by omega) 
                  · refine r_if_eq (tgt := 86) hC dX6_windows_79 rfl (fun h17 => ?_) (fun h17 => by omega)
                    refine r_iconst hC dX6_windows_86 rfl ?_
                    refine r_iaddE hC (w8) dX6_windows_87 (by omega) (by unfold inR; omega) ?_
                    refine r_istore hC dX6_windows_88 rfl ?_
                    refine r_iincE hC ((w7 + 1)) dX6_windows_90 rfl rfl (by omega) (by unfold inR; omega) ?_
                    refine r_goto (tgt := 37) hC dX6_windows_93 rfl ?_
                    refine r_forget hC (ls2 := [some (vR 30 0), some (vI l), some (vI w), some (vI x), some (vI y), some (vI w8), some (vI w4), some (vI (w7 + 1)), none]) (lsub_some (lsub_some (lsub_some (lsub_some (lsub_some (lsub_some (lsub_some (lsub_some (lsub_none lsub_nil))))))))) ?_
                    exact ih37 ((w7 + 1)) (w8)  (by omega) (by omega)  (by omega) 
          exact L37 122 (w4) (w3)  (by omega) (by omega)  (by omega) 
    exact L23 122 (0) (0)  (by omega) (by omega)  (by omega) 
  · refine r_if_ne (tgt := 11) hC dX6_windows_6 rfl (fun h18 => by omega) (fun h18 => ?_)
    refine r_iconst hC dX6_windows_9 rfl ?_
    refine y_iret hK rfl dX6_windows_10 ?_
    exact k _ (by omega)
theorem m_windows {eb : Bool} {d : Nat} {P : Option Vl → Mm → Prop} {σ : Mm} {l w x y : Int} (k : ∀ r : Int, -2147483648 ≤ r ∧ r ≤ 2147483647 → P (some (vI r)) σ) : WT (false, eb, false) (d + 7) 238 [vR 30 0, vI l, vI w, vI x, vI y] σ P := by
  refine WT_loose (true, eb, false) (fun h => by cases h) (fun h => h) (fun c j q => ?_) (fun ρ hL hF hT hO => ?_)
  · rcases q with q | q | q | q
    · exact Or.inl q
    · cases q.1
    · exact Or.inr (Or.inr (Or.inl q))
    · cases q.1
  · exact m_windows_S (qg0 := rfl) (hL rfl) (fun r hr => ⟨σ, k r hr, fun _ => Or.inr (hL rfl), fun h => Or.inl h, fun c i j q => hT c i j q⟩)
theorem m_layRow {eb : Bool} {d : Nat} {P : Option Vl → Mm → Prop} {σ : Mm} {l r f hl : Int} (b_l : 0 ≤ l ∧ l ≤ 7) (b_r : 1 ≤ r ∧ r ≤ 4) (b_f : 0 ≤ f ∧ f ≤ 119) (b_hl : 0 ≤ hl ∧ hl ≤ 120) (qg0 : σ 31 0 ((22 * l) + 5) = hl)  (k : P none σ) : WT (true, eb, false) (d + 3) 239 [vR 30 0, vI l, vI r, vI f] σ P := by
  refine WT_in fun K hK => ?_
  have hK : StpY (true, eb, false) cX6_layRow RX6 (none) (WT (true, eb, false) (d + 2)) P K := hK
  have hM := hK.1
  have hC := hK.1.1
  show K 0 [some (vR 30 0), some (vI l), some (vI r), some (vI f), none, none, none, none] [] σ
  refine r_bipush hC dX6_layRow_0 rfl ?_
  refine r_iload_n hC dX6_layRow_2 rfl ?_
  refine r_imulE hC ((121 * r)) dX6_layRow_3 (by omega) (by unfold inR; omega) ?_
  refine r_iload_n hC dX6_layRow_4 rfl ?_
  refine r_iaddE hC (((121 * r) + f)) dX6_layRow_5 (by omega) (by unfold inR; omega) ?_
  refine r_istore hC dX6_layRow_6 rfl ?_
  refine r_aload_n hC dX6_layRow_8 rfl ?_
  refine z_getR hM dX6_layRow_9 fl_RX6_70 rfl rfl (vld_of (n := 1) rfl (by omega) (by omega)) ?_
  refine r_iload hC dX6_layRow_12 rfl ?_
  refine r_ldc hC dX6_layRow_14 co_RX6_160 rfl ?_
  refine z_iastU hM dX6_layRow_16 rfl (by omega) (by omega) (by simp [Un, Tb, DL, DF, DR]) (by simp [Okv]) ?_
  refine r_aload_n hC dX6_layRow_17 rfl ?_
  refine z_getR hM dX6_layRow_18 fl_RX6_73 rfl rfl (vld_of (n := 1) rfl (by omega) (by omega)) ?_
  refine r_iload hC dX6_layRow_21 rfl ?_
  refine r_aload_n hC dX6_layRow_23 rfl ?_
  refine r_iload_n hC dX6_layRow_24 rfl ?_
  refine z_inv1 hM dX6_layRow_25 vl_RX6_116 rfl rfl rfl (Nat.le_of_ble_eq_true rfl) (Nat.le_of_ble_eq_true rfl) ?_
  refine m_heldOf (by omega) (fun v1 h_v1 t_v1 => ?_)
  have e_v1 : hl = v1 := ((t_v1 rfl).trans qg0).symm
  subst e_v1
  refine z_iastU hM dX6_layRow_28 rfl (by omega) (by omega) (by simp [Un, Tb, DL, DF, DR]) (by simp [Okv]; try omega) ?_
  refine r_iload_n hC dX6_layRow_29 rfl ?_
  refine r_istore hC dX6_layRow_30 rfl ?_
  have L32 : ∀ (n32 : Nat) (w2 : Int), 0 ≤ w2 ∧ w2 ≤ 120 → 120 - w2 < (n32 : Int) → K 32 [some (vR 30 0), some (vI l), some (vI r), some (vI f), some (vI ((121 * r) + f)), some (vI w2), none, none] [] σ := by
    intro n32
    induction n32 with
    | zero => intro w2  f_w2  hm ; omega
    | succ n32 ih32 =>
      intro w2  f_w2  hm32 
      refine r_iload hC dX6_layRow_32 rfl ?_
      refine r_aload_n hC dX6_layRow_34 rfl ?_
      refine r_iload_n hC dX6_layRow_35 rfl ?_
      refine z_inv1 hM dX6_layRow_36 vl_RX6_116 rfl rfl rfl (Nat.le_of_ble_eq_true rfl) (Nat.le_of_ble_eq_true rfl) ?_
      refine m_heldOf (by omega) (fun v3 h_v3 t_v3 => ?_)
      have e_v3 : hl = v3 := ((t_v3 rfl).trans qg0).symm
      subst e_v3
      refine r_icmp_ge (tgt := 173) hC dX6_layRow_39 rfl (fun h4 => ?_) (fun h4 => ?_)
      · refine y_vret hK rfl dX6_layRow_173 ?_
        exact k
      · refine r_aload_n hC dX6_layRow_42 rfl ?_
        refine z_getR hM dX6_layRow_43 fl_RX6_67 rfl rfl (vld_of (n := 1) rfl (by omega) (by omega)) ?_
        refine r_bipush hC dX6_layRow_46 rfl ?_
        refine r_iload_n hC dX6_layRow_48 rfl ?_
        refine r_imulE hC ((120 * f)) dX6_layRow_49 (by omega) (by unfold inR; omega) ?_
        refine r_iload hC dX6_layRow_50 rfl ?_
        refine r_iaddE hC (((120 * f) + w2)) dX6_layRow_52 (by omega) (by unfold inR; omega) ?_
        refine z_iald hM dX6_layRow_53 rfl (by omega) (by omega) (fun v5 h_v5 o_v5 t_v5 => ?_)
        refine r_istore hC dX6_layRow_54 rfl ?_
        refine r_iload_n hC dX6_layRow_56 rfl ?_
        refine r_iconst hC dX6_layRow_57 rfl ?_
        refine r_icmp_ne (tgt := 82) hC dX6_layRow_58 rfl (fun h6 => ?_) (fun h6 => ?_)
        · refine r_aload_n hC dX6_layRow_82 rfl ?_
          refine z_getR hM dX6_layRow_83 fl_RX6_70 rfl rfl (vld_of (n := 1) rfl (by omega) (by omega)) ?_
          refine r_bipush hC dX6_layRow_86 rfl ?_
          refine r_iload_n hC dX6_layRow_88 rfl ?_
          refine r_iconst hC dX6_layRow_89 rfl ?_
          refine r_isubE hC ((r - 1)) dX6_layRow_90 (by omega) (by unfold inR; omega) ?_
          refine r_imulE hC ((121 * (r - 1))) dX6_layRow_91 (by omega) (by unfold inR; omega) ?_
          refine r_iload hC dX6_layRow_92 rfl ?_
          refine r_iaddE hC (((121 * (r - 1)) + w2)) dX6_layRow_94 (by omega) (by unfold inR; omega) ?_
          refine r_iconst hC dX6_layRow_95 rfl ?_
          refine r_iaddE hC ((((121 * (r - 1)) + w2) + 1)) dX6_layRow_96 (by omega) (by unfold inR; omega) ?_
          refine z_iald hM dX6_layRow_97 rfl (by omega) (by omega) (fun v7 h_v7 o_v7 t_v7 => ?_)
          refine r_istore hC dX6_layRow_98 rfl ?_
          refine r_iload hC dX6_layRow_100 rfl ?_
          refine r_ldc hC dX6_layRow_102 co_RX6_160 rfl ?_
          refine r_icmp_eq (tgt := 167) hC dX6_layRow_104 rfl (fun h8 => ?_) (fun h8 => ?_)
          · refine r_iincE hC ((w2 + 1)) dX6_layRow_167 rfl rfl (by omega) (by unfold inR; omega) ?_
            refine r_goto (tgt := 32) hC dX6_layRow_170 rfl ?_
            refine r_forget hC (ls2 := [some (vR 30 0), some (vI l), some (vI r), some (vI f), some (vI ((121 * r) + f)), some (vI (w2 + 1)), none, none]) (lsub_some (lsub_some (lsub_some (lsub_some (lsub_some (lsub_some (lsub_none (lsub_none lsub_nil)))))))) ?_
            exact ih32 ((w2 + 1))  (by omega)  (by omega) 
          · refine r_iload hC dX6_layRow_107 rfl ?_
            refine r_ldc hC dX6_layRow_109 co_RX6_160 rfl ?_
            refine r_icmp_eq (tgt := 167) hC dX6_layRow_111 rfl (fun h9 => ?_) (fun h9 => ?_)
            · refine r_iincE hC ((w2 + 1)) dX6_layRow_167 rfl rfl (by omega) (by unfold inR; omega) ?_
              refine r_goto (tgt := 32) hC dX6_layRow_170 rfl ?_
              refine r_forget hC (ls2 := [some (vR 30 0), some (vI l), some (vI r), some (vI f), some (vI ((121 * r) + f)), some (vI (w2 + 1)), none, none]) (lsub_some (lsub_some (lsub_some (lsub_some (lsub_some (lsub_some (lsub_none (lsub_none lsub_nil)))))))) ?_
              exact ih32 ((w2 + 1))  (by omega)  (by omega) 
            · refine r_aload_n hC dX6_layRow_114 rfl ?_
              refine z_getR hM dX6_layRow_115 fl_RX6_70 rfl rfl (vld_of (n := 1) rfl (by omega) (by omega)) ?_
              refine r_iload hC dX6_layRow_118 rfl ?_
              refine z_iald hM dX6_layRow_120 rfl (by omega) (by omega) (fun v10 h_v10 o_v10 t_v10 => ?_)
              refine r_ldc hC dX6_layRow_121 co_RX6_160 rfl ?_
              refine r_icmp_eq (tgt := 144) hC dX6_layRow_123 rfl (fun h11 => ?_) (fun h11 => ?_)
              · refine r_aload_n hC dX6_layRow_144 rfl ?_
                refine z_getR hM dX6_layRow_145 fl_RX6_70 rfl rfl (vld_of (n := 1) rfl (by omega) (by omega)) ?_
                refine r_iload hC dX6_layRow_148 rfl ?_
                refine r_iload hC dX6_layRow_150 rfl ?_
                refine r_iload hC dX6_layRow_152 rfl ?_
                refine r_iaddG hC dX6_layRow_154 (fun v12 h_v12 => ?_)
                refine z_iastU hM dX6_layRow_155 rfl (by omega) (by omega) (by simp [Un, Tb, DL, DF, DR]) (by simp [Okv]) ?_
                refine r_aload_n hC dX6_layRow_156 rfl ?_
                refine z_getR hM dX6_layRow_157 fl_RX6_73 rfl rfl (vld_of (n := 1) rfl (by omega) (by omega)) ?_
                refine r_iload hC dX6_layRow_160 rfl ?_
                refine r_iload hC dX6_layRow_162 rfl ?_
                refine r_iconst hC dX6_layRow_164 rfl ?_
                refine r_iaddE hC ((w2 + 1)) dX6_layRow_165 (by omega) (by unfold inR; omega) ?_
                refine z_iastU hM dX6_layRow_166 rfl (by omega) (by omega) (by simp [Un, Tb, DL, DF, DR]) (by simp [Okv]; try omega) ?_
                refine r_iincE hC ((w2 + 1)) dX6_layRow_167 rfl rfl (by omega) (by unfold inR; omega) ?_
                refine r_goto (tgt := 32) hC dX6_layRow_170 rfl ?_
                refine r_forget hC (ls2 := [some (vR 30 0), some (vI l), some (vI r), some (vI f), some (vI ((121 * r) + f)), some (vI (w2 + 1)), none, none]) (lsub_some (lsub_some (lsub_some (lsub_some (lsub_some (lsub_some (lsub_none (lsub_none lsub_nil)))))))) ?_
                exact ih32 ((w2 + 1))  (by omega)  (by omega) 
              · refine r_iload hC dX6_layRow_126 rfl ?_
                refine r_iload hC dX6_layRow_128 rfl ?_
                refine r_iaddG hC dX6_layRow_130 (fun v13 h_v13 => ?_)
                refine r_aload_n hC dX6_layRow_131 rfl ?_
                refine z_getR hM dX6_layRow_132 fl_RX6_70 rfl rfl (vld_of (n := 1) rfl (by omega) (by omega)) ?_
                refine r_iload hC dX6_layRow_135 rfl ?_
                refine z_iald hM dX6_layRow_137 rfl (by omega) (by omega) (fun v14 h_v14 o_v14 t_v14 => ?_)
                refine r_icmp_gt (tgt := 144) hC dX6_layRow_138 rfl (fun h15 => ?_) (fun h15 => ?_)
                · refine r_aload_n hC dX6_layRow_144 rfl ?_
                  refine z_getR hM dX6_layRow_145 fl_RX6_70 rfl rfl (vld_of (n := 1) rfl (by omega) (by omega)) ?_
                  refine r_iload hC dX6_layRow_148 rfl ?_
                  refine r_iload hC dX6_layRow_150 rfl ?_
                  refine r_iload hC dX6_layRow_152 rfl ?_
                  refine r_iaddG hC dX6_layRow_154 (fun v16 h_v16 => ?_)
                  refine z_iastU hM dX6_layRow_155 rfl (by omega) (by omega) (by simp [Un, Tb, DL, DF, DR]) (by simp [Okv]) ?_
                  refine r_aload_n hC dX6_layRow_156 rfl ?_
                  refine z_getR hM dX6_layRow_157 fl_RX6_73 rfl rfl (vld_of (n := 1) rfl (by omega) (by omega)) ?_
                  refine r_iload hC dX6_layRow_160 rfl ?_
                  refine r_iload hC dX6_layRow_162 rfl ?_
                  refine r_iconst hC dX6_layRow_164 rfl ?_
                  refine r_iaddE hC ((w2 + 1)) dX6_layRow_165 (by omega) (by unfold inR; omega) ?_
                  refine z_iastU hM dX6_layRow_166 rfl (by omega) (by omega) (by simp [Un, Tb, DL, DF, DR]) (by simp [Okv]; try omega) ?_
                  refine r_iincE hC ((w2 + 1)) dX6_layRow_167 rfl rfl (by omega) (by unfold inR; omega) ?_
                  refine r_goto (tgt := 32) hC dX6_layRow_170 rfl ?_
                  refine r_forget hC (ls2 := [some (vR 30 0), some (vI l), some (vI r), some (vI f), some (vI ((121 * r) + f)), some (vI (w2 + 1)), none, none]) (lsub_some (lsub_some (lsub_some (lsub_some (lsub_some (lsub_some (lsub_none (lsub_none lsub_nil)))))))) ?_
                  exact ih32 ((w2 + 1))  (by omega)  (by omega) 
                · refine r_goto (tgt := 167) hC dX6_layRow_141 rfl ?_
                  refine r_iincE hC ((w2 + 1)) dX6_layRow_167 rfl rfl (by omega) (by unfold inR; omega) ?_
                  refine r_goto (tgt := 32) hC dX6_layRow_170 rfl ?_
                  refine r_forget hC (ls2 := [some (vR 30 0), some (vI l), some (vI r), some (vI f), some (vI ((121 * r) + f)), some (vI (w2 + 1)), none, none]) (lsub_some (lsub_some (lsub_some (lsub_some (lsub_some (lsub_some (lsub_none (lsub_none lsub_nil)))))))) ?_
                  exact ih32 ((w2 + 1))  (by omega)  (by omega) 
        · refine r_iload hC dX6_layRow_61 rfl ?_
          refine r_aload_n hC dX6_layRow_63 rfl ?_
          refine r_iload_n hC dX6_layRow_64 rfl ?_
          refine z_inv1 hM dX6_layRow_65 vl_RX6_116 rfl rfl rfl (Nat.le_of_ble_eq_true rfl) (Nat.le_of_ble_eq_true rfl) ?_
          refine m_heldOf (by omega) (fun v17 h_v17 t_v17 => ?_)
          have e_v17 : hl = v17 := ((t_v17 rfl).trans qg0).symm
          subst e_v17
          refine r_iconst hC dX6_layRow_68 rfl ?_
          refine r_isubE hC ((hl - 1)) dX6_layRow_69 (by omega) (by unfold inR; omega) ?_
          refine r_icmp_ne (tgt := 77) hC dX6_layRow_70 rfl (fun h18 => ?_) (fun h18 => ?_)
          · refine r_ldc hC dX6_layRow_77 co_RX6_160 rfl ?_
            refine r_goto (tgt := 98) hC dX6_layRow_79 rfl ?_
            refine r_istore hC dX6_layRow_98 rfl ?_
            refine r_iload hC dX6_layRow_100 rfl ?_
            refine r_ldc hC dX6_layRow_102 co_RX6_160 rfl ?_
            refine r_icmp_eq (tgt := 167) hC dX6_layRow_104 rfl (fun h19 => ?_) (fun h19 => ?_)
            · refine r_iincE hC ((w2 + 1)) dX6_layRow_167 rfl rfl (by omega) (by unfold inR; omega) ?_
              refine r_goto (tgt := 32) hC dX6_layRow_170 rfl ?_
              refine r_forget hC (ls2 := [some (vR 30 0), some (vI l), some (vI r), some (vI f), some (vI ((121 * r) + f)), some (vI (w2 + 1)), none, none]) (lsub_some (lsub_some (lsub_some (lsub_some (lsub_some (lsub_some (lsub_none (lsub_none lsub_nil)))))))) ?_
              exact ih32 ((w2 + 1))  (by omega)  (by omega) 
            · refine r_iload hC dX6_layRow_107 rfl ?_
              refine r_ldc hC dX6_layRow_109 co_RX6_160 rfl ?_
              refine r_icmp_eq (tgt := 167) hC dX6_layRow_111 rfl (fun h20 => ?_) (fun h20 => by omega)
              refine r_iincE hC ((w2 + 1)) dX6_layRow_167 rfl rfl (by omega) (by unfold inR; omega) ?_
              refine r_goto (tgt := 32) hC dX6_layRow_170 rfl ?_
              refine r_forget hC (ls2 := [some (vR 30 0), some (vI l), some (vI r), some (vI f), some (vI ((121 * r) + f)), some (vI (w2 + 1)), none, none]) (lsub_some (lsub_some (lsub_some (lsub_some (lsub_some (lsub_some (lsub_none (lsub_none lsub_nil)))))))) ?_
              exact ih32 ((w2 + 1))  (by omega)  (by omega) 
          · refine r_iconst hC dX6_layRow_73 rfl ?_
            refine r_goto (tgt := 98) hC dX6_layRow_74 rfl ?_
            refine r_istore hC dX6_layRow_98 rfl ?_
            refine r_iload hC dX6_layRow_100 rfl ?_
            refine r_ldc hC dX6_layRow_102 co_RX6_160 rfl ?_
            refine r_icmp_eq (tgt := 167) hC dX6_layRow_104 rfl (fun h21 => ?_) (fun h21 => ?_)
            · refine r_iincE hC ((w2 + 1)) dX6_layRow_167 rfl rfl (by omega) (by unfold inR; omega) ?_
              refine r_goto (tgt := 32) hC dX6_layRow_170 rfl ?_
              refine r_forget hC (ls2 := [some (vR 30 0), some (vI l), some (vI r), some (vI f), some (vI ((121 * r) + f)), some (vI (w2 + 1)), none, none]) (lsub_some (lsub_some (lsub_some (lsub_some (lsub_some (lsub_some (lsub_none (lsub_none lsub_nil)))))))) ?_
              exact ih32 ((w2 + 1))  (by omega)  (by omega) 
            · refine r_iload hC dX6_layRow_107 rfl ?_
              refine r_ldc hC dX6_layRow_109 co_RX6_160 rfl ?_
              refine r_icmp_eq (tgt := 167) hC dX6_layRow_111 rfl (fun h22 => by omega) (fun h22 => ?_)
              refine r_aload_n hC dX6_layRow_114 rfl ?_
              refine z_getR hM dX6_layRow_115 fl_RX6_70 rfl rfl (vld_of (n := 1) rfl (by omega) (by omega)) ?_
              refine r_iload hC dX6_layRow_118 rfl ?_
              refine z_iald hM dX6_layRow_120 rfl (by omega) (by omega) (fun v23 h_v23 o_v23 t_v23 => ?_)
              refine r_ldc hC dX6_layRow_121 co_RX6_160 rfl ?_
              refine r_icmp_eq (tgt := 144) hC dX6_layRow_123 rfl (fun h24 => ?_) (fun h24 => ?_)
              · refine r_aload_n hC dX6_layRow_144 rfl ?_
                refine z_getR hM dX6_layRow_145 fl_RX6_70 rfl rfl (vld_of (n := 1) rfl (by omega) (by omega)) ?_
                refine r_iload hC dX6_layRow_148 rfl ?_
                refine r_iload hC dX6_layRow_150 rfl ?_
                refine r_iload hC dX6_layRow_152 rfl ?_
                refine r_iaddE hC (v5) dX6_layRow_154 (by omega) (by unfold inR; omega) ?_
                refine z_iastU hM dX6_layRow_155 rfl (by omega) (by omega) (by simp [Un, Tb, DL, DF, DR]) (by simp [Okv]) ?_
                refine r_aload_n hC dX6_layRow_156 rfl ?_
                refine z_getR hM dX6_layRow_157 fl_RX6_73 rfl rfl (vld_of (n := 1) rfl (by omega) (by omega)) ?_
                refine r_iload hC dX6_layRow_160 rfl ?_
                refine r_iload hC dX6_layRow_162 rfl ?_
                refine r_iconst hC dX6_layRow_164 rfl ?_
                refine r_iaddE hC ((w2 + 1)) dX6_layRow_165 (by omega) (by unfold inR; omega) ?_
                refine z_iastU hM dX6_layRow_166 rfl (by omega) (by omega) (by simp [Un, Tb, DL, DF, DR]) (by simp [Okv]; try omega) ?_
                refine r_iincE hC ((w2 + 1)) dX6_layRow_167 rfl rfl (by omega) (by unfold inR; omega) ?_
                refine r_goto (tgt := 32) hC dX6_layRow_170 rfl ?_
                refine r_forget hC (ls2 := [some (vR 30 0), some (vI l), some (vI r), some (vI f), some (vI ((121 * r) + f)), some (vI (w2 + 1)), none, none]) (lsub_some (lsub_some (lsub_some (lsub_some (lsub_some (lsub_some (lsub_none (lsub_none lsub_nil)))))))) ?_
                exact ih32 ((w2 + 1))  (by omega)  (by omega) 
              · refine r_iload hC dX6_layRow_126 rfl ?_
                refine r_iload hC dX6_layRow_128 rfl ?_
                refine r_iaddE hC (v5) dX6_layRow_130 (by omega) (by unfold inR; omega) ?_
                refine r_aload_n hC dX6_layRow_131 rfl ?_
                refine z_getR hM dX6_layRow_132 fl_RX6_70 rfl rfl (vld_of (n := 1) rfl (by omega) (by omega)) ?_
                refine r_iload hC dX6_layRow_135 rfl ?_
                refine z_iald hM dX6_layRow_137 rfl (by omega) (by omega) (fun v25 h_v25 o_v25 t_v25 => ?_)
                refine r_icmp_gt (tgt := 144) hC dX6_layRow_138 rfl (fun h26 => ?_) (fun h26 => ?_)
                · refine r_aload_n hC dX6_layRow_144 rfl ?_
                  refine z_getR hM dX6_layRow_145 fl_RX6_70 rfl rfl (vld_of (n := 1) rfl (by omega) (by omega)) ?_
                  refine r_iload hC dX6_layRow_148 rfl ?_
                  refine r_iload hC dX6_layRow_150 rfl ?_
                  refine r_iload hC dX6_layRow_152 rfl ?_
                  refine r_iaddE hC (v5) dX6_layRow_154 (by omega) (by unfold inR; omega) ?_
                  refine z_iastU hM dX6_layRow_155 rfl (by omega) (by omega) (by simp [Un, Tb, DL, DF, DR]) (by simp [Okv]) ?_
                  refine r_aload_n hC dX6_layRow_156 rfl ?_
                  refine z_getR hM dX6_layRow_157 fl_RX6_73 rfl rfl (vld_of (n := 1) rfl (by omega) (by omega)) ?_
                  refine r_iload hC dX6_layRow_160 rfl ?_
                  refine r_iload hC dX6_layRow_162 rfl ?_
                  refine r_iconst hC dX6_layRow_164 rfl ?_
                  refine r_iaddE hC ((w2 + 1)) dX6_layRow_165 (by omega) (by unfold inR; omega) ?_
                  refine z_iastU hM dX6_layRow_166 rfl (by omega) (by omega) (by simp [Un, Tb, DL, DF, DR]) (by simp [Okv]; try omega) ?_
                  refine r_iincE hC ((w2 + 1)) dX6_layRow_167 rfl rfl (by omega) (by unfold inR; omega) ?_
                  refine r_goto (tgt := 32) hC dX6_layRow_170 rfl ?_
                  refine r_forget hC (ls2 := [some (vR 30 0), some (vI l), some (vI r), some (vI f), some (vI ((121 * r) + f)), some (vI (w2 + 1)), none, none]) (lsub_some (lsub_some (lsub_some (lsub_some (lsub_some (lsub_some (lsub_none (lsub_none lsub_nil)))))))) ?_
                  exact ih32 ((w2 + 1))  (by omega)  (by omega) 
                · refine r_goto (tgt := 167) hC dX6_layRow_141 rfl ?_
                  refine r_iincE hC ((w2 + 1)) dX6_layRow_167 rfl rfl (by omega) (by unfold inR; omega) ?_
                  refine r_goto (tgt := 32) hC dX6_layRow_170 rfl ?_
                  refine r_forget hC (ls2 := [some (vR 30 0), some (vI l), some (vI r), some (vI f), some (vI ((121 * r) + f)), some (vI (w2 + 1)), none, none]) (lsub_some (lsub_some (lsub_some (lsub_some (lsub_some (lsub_some (lsub_none (lsub_none lsub_nil)))))))) ?_
                  exact ih32 ((w2 + 1))  (by omega)  (by omega) 
  exact L32 122 (f)  (by omega)  (by omega) 
theorem m_parted_S {eb : Bool} {d : Nat} {P : Option Vl → Mm → Prop} {σ : Mm} {l r w x hl : Int} (qg0 : σ 31 0 ((22 * l) + 5) = hl) (hL : InL σ)  (k : ∀ r : Int, -2147483648 ≤ r ∧ r ≤ 2147483647 → P (some (vI r)) σ) : WT (true, eb, false) (d + 7) 240 [vR 30 0, vI l, vI r, vI w, vI x] σ P := by
  refine WT_in fun K hK => ?_
  have hK : StpY (true, eb, false) cX6_parted RX6 (some .int) (WT (true, eb, false) (d + 6)) P K := hK
  have hM := hK.1
  have hC := hK.1.1
  show K 0 [some (vR 30 0), some (vI l), some (vI r), some (vI w), some (vI x), none, none] [] σ
  refine r_rngz hC (fun g0 => ?_)
  have r_l : -2147483648 ≤ l ∧ l ≤ 2147483647 := inR_le (g0 (vI l) (by simp))
  have r_r : -2147483648 ≤ r ∧ r ≤ 2147483647 := inR_le (g0 (vI r) (by simp))
  have r_w : -2147483648 ≤ w ∧ w ≤ 2147483647 := inR_le (g0 (vI w) (by simp))
  have r_x : -2147483648 ≤ x ∧ x ≤ 2147483647 := inR_le (g0 (vI x) (by simp))
  refine r_aload_n hC dX6_parted_0 rfl ?_
  refine r_iload_n hC dX6_parted_1 rfl ?_
  refine r_iload_n hC dX6_parted_2 rfl ?_
  refine z_inv2 hM dX6_parted_3 vl_RX6_207 rfl rfl rfl (Nat.le_of_ble_eq_true rfl) (Nat.le_of_ble_eq_true rfl) ?_
  refine m_isNumber (fun h1 => ?_) ?_
  · have b0_h1 : 0 ≤ hl ∧ hl ≤ 120 := by have := InL.h31 hL (l := l) (by omega) (by omega); have := qg0; omega
    refine r_if_eq (tgt := 28) hC dX6_parted_6 rfl (fun h2 => by omega) (fun h2 => ?_)
    refine r_iload_n hC dX6_parted_9 rfl ?_
    refine r_iconst hC dX6_parted_10 rfl ?_
    refine r_iconst hC dX6_parted_11 rfl ?_
    refine z_ins3 hM dX6_parted_12 tl_RX6_76 rfl (Nat.le_of_ble_eq_true rfl) (Nat.le_of_ble_eq_true rfl) ?_
    refine m_isIn (fun h4 => ?_) (fun h4 => ?_)
    · refine r_if_eq (tgt := 28) hC dX6_parted_15 rfl (fun h5 => by omega) (fun h5 => ?_)
      refine r_iload hC dX6_parted_18 rfl ?_
      refine r_iconst hC dX6_parted_20 rfl ?_
      refine r_iload_n hC dX6_parted_21 rfl ?_
      refine z_ins3 hM dX6_parted_22 tl_RX6_76 rfl (Nat.le_of_ble_eq_true rfl) (Nat.le_of_ble_eq_true rfl) ?_
      refine m_isIn (fun h7 => ?_) (fun h7 => ?_)
      · refine r_if_ne (tgt := 31) hC dX6_parted_25 rfl (fun h8 => ?_) (fun h8 => by omega)
        refine r_aload_n hC dX6_parted_31 rfl ?_
        refine r_iload_n hC dX6_parted_32 rfl ?_
        refine r_iload_n hC dX6_parted_33 rfl ?_
        refine z_inv2 hM dX6_parted_34 vl_RX6_286 rfl rfl rfl (Nat.le_of_ble_eq_true rfl) (Nat.le_of_ble_eq_true rfl) ?_
        refine m_layParts (hl := hl) (by omega) (by omega) (by omega) (by have hq := qg0; omega) ?_
        refine r_iconst hC dX6_parted_37 rfl ?_
        refine r_istore hC dX6_parted_38 rfl ?_
        have L40 : ∀ (n40 : Nat) (w9 : Int), 1 ≤ w9 ∧ w9 ≤ 5 → 5 - w9 < (n40 : Int) → K 40 [some (vR 30 0), some (vI l), some (vI r), some (vI w), some (vI x), some (vI w9), none] [] σ := by
          intro n40
          induction n40 with
          | zero => intro w9  f_w9  hm ; omega
          | succ n40 ih40 =>
            intro w9  f_w9  hm40 
            refine r_iload hC dX6_parted_40 rfl ?_
            refine r_iload_n hC dX6_parted_42 rfl ?_
            refine r_icmp_gt (tgt := 99) hC dX6_parted_43 rfl (fun h10 => ?_) (fun h10 => ?_)
            · refine r_aload_n hC dX6_parted_99 rfl ?_
              refine z_getR hM dX6_parted_100 fl_RX6_70 rfl rfl (vld_of (n := 1) rfl (by omega) (by omega)) ?_
              refine r_bipush hC dX6_parted_103 rfl ?_
              refine r_iload_n hC dX6_parted_105 rfl ?_
              refine r_imulE hC ((121 * r)) dX6_parted_106 (by omega) (by unfold inR; omega) ?_
              refine z_iald hM dX6_parted_107 rfl (by omega) (by omega) (fun v11 h_v11 o_v11 t_v11 => ?_)
              refine r_ldc hC dX6_parted_108 co_RX6_160 rfl ?_
              refine r_icmp_ne (tgt := 116) hC dX6_parted_110 rfl (fun h12 => ?_) (fun h12 => ?_)
              · refine r_iload hC dX6_parted_116 rfl ?_
                refine r_if_ne (tgt := 131) hC dX6_parted_118 rfl (fun h13 => ?_) (fun h13 => ?_)
                · refine r_iconst hC dX6_parted_131 rfl ?_
                  refine r_istore hC dX6_parted_132 rfl ?_
                  refine r_iconst hC dX6_parted_134 rfl ?_
                  refine r_istore hC dX6_parted_135 rfl ?_
                  have L137 : ∀ (n137 : Nat) (w14 w15 : Int), 0 ≤ w14 ∧ w14 ≤ 120 → 1 ≤ w15 ∧ w15 ≤ 4 → 4 - w15 < (n137 : Int) → K 137 [some (vR 30 0), some (vI l), some (vI r), some (vI w), some (vI x), some (vI w14), some (vI w15)] [] σ := by
                    intro n137
                    induction n137 with
                    | zero => intro w14 w15  f_w14 f_w15  hm ; omega
                    | succ n137 ih137 =>
                      intro w14 w15  f_w14 f_w15  hm137 
                      refine r_iload hC dX6_parted_137 rfl ?_
                      refine r_iload hC dX6_parted_139 rfl ?_
                      refine r_icmp_ge (tgt := 169) hC dX6_parted_141 rfl (fun h16 => ?_) (fun h16 => ?_)
                      · refine r_iload hC dX6_parted_169 rfl ?_
                        refine y_iret hK rfl dX6_parted_171 ?_
                        exact k _ (by omega)
                      · refine r_aload_n hC dX6_parted_144 rfl ?_
                        refine z_getR hM dX6_parted_145 fl_RX6_73 rfl rfl (vld_of (n := 1) rfl (by omega) (by omega)) ?_
                        refine r_bipush hC dX6_parted_148 rfl ?_
                        refine r_iload_n hC dX6_parted_150 rfl ?_
                        refine r_iload hC dX6_parted_151 rfl ?_
                        refine r_isubE hC ((r - w15)) dX6_parted_153 (by omega) (by unfold inR; omega) ?_
                        refine r_iconst hC dX6_parted_154 rfl ?_
                        refine r_iaddE hC (((r - w15) + 1)) dX6_parted_155 (by omega) (by unfold inR; omega) ?_
                        refine r_imulE hC ((121 * ((r - w15) + 1))) dX6_parted_156 (by omega) (by unfold inR; omega) ?_
                        refine r_iload hC dX6_parted_157 rfl ?_
                        refine r_iaddE hC (((121 * ((r - w15) + 1)) + w14)) dX6_parted_159 (by omega) (by unfold inR; omega) ?_
                        refine z_iald hM dX6_parted_160 rfl (by omega) (by omega) (fun v17 h_v17 o_v17 t_v17 => ?_)
                        have q_v17 : 0 ≤ v17 ∧ v17 ≤ 120 := o_v17
                        refine r_istore hC dX6_parted_161 rfl ?_
                        refine r_iincE hC ((w15 + 1)) dX6_parted_163 rfl rfl (by omega) (by unfold inR; omega) ?_
                        refine r_goto (tgt := 137) hC dX6_parted_166 rfl ?_
                        exact ih137 (v17) ((w15 + 1))  (by omega) (by omega)  (by omega) 
                  exact L137 5 (0) (1)  (by omega) (by omega)  (by omega) 
                · refine r_aload_n hC dX6_parted_121 rfl ?_
                  refine z_getR hM dX6_parted_122 fl_RX6_70 rfl rfl (vld_of (n := 1) rfl (by omega) (by omega)) ?_
                  refine r_bipush hC dX6_parted_125 rfl ?_
                  refine r_iload_n hC dX6_parted_127 rfl ?_
                  refine r_imulE hC ((121 * r)) dX6_parted_128 (by omega) (by unfold inR; omega) ?_
                  refine z_iald hM dX6_parted_129 rfl (by omega) (by omega) (fun v18 h_v18 o_v18 t_v18 => ?_)
                  refine y_iret hK rfl dX6_parted_130 ?_
                  exact k _ (by omega)
              · refine r_ldc hC dX6_parted_113 co_RX6_160 rfl ?_
                refine y_iret hK rfl dX6_parted_115 ?_
                exact k _ (by omega)
            · refine r_aload_n hC dX6_parted_46 rfl ?_
              refine z_getR hM dX6_parted_47 fl_RX6_70 rfl rfl (vld_of (n := 1) rfl (by omega) (by omega)) ?_
              refine r_bipush hC dX6_parted_50 rfl ?_
              refine r_iload hC dX6_parted_52 rfl ?_
              refine r_imulE hC ((121 * w9)) dX6_parted_54 (by omega) (by unfold inR; omega) ?_
              refine r_aload_n hC dX6_parted_55 rfl ?_
              refine r_iload_n hC dX6_parted_56 rfl ?_
              refine z_inv1 hM dX6_parted_57 vl_RX6_116 rfl rfl rfl (Nat.le_of_ble_eq_true rfl) (Nat.le_of_ble_eq_true rfl) ?_
              refine m_heldOf (by omega) (fun v19 h_v19 t_v19 => ?_)
              have e_v19 : hl = v19 := ((t_v19 rfl).trans qg0).symm
              subst e_v19
              refine r_iaddE hC (((121 * w9) + hl)) dX6_parted_60 (by omega) (by unfold inR; omega) ?_
              refine r_ldc hC dX6_parted_61 co_RX6_160 rfl ?_
              refine z_iastU hM dX6_parted_63 rfl (by omega) (by omega) (by simp [Un, Tb, DL, DF, DR]) (by simp [Okv]) ?_
              refine r_aload_n hC dX6_parted_64 rfl ?_
              refine r_iload_n hC dX6_parted_65 rfl ?_
              refine z_inv1 hM dX6_parted_66 vl_RX6_116 rfl rfl rfl (Nat.le_of_ble_eq_true rfl) (Nat.le_of_ble_eq_true rfl) ?_
              refine m_heldOf (by omega) (fun v20 h_v20 t_v20 => ?_)
              have e_v20 : hl = v20 := ((t_v20 rfl).trans qg0).symm
              subst e_v20
              refine r_iconst hC dX6_parted_69 rfl ?_
              refine r_isubE hC ((hl - 1)) dX6_parted_70 (by omega) (by unfold inR; omega) ?_
              refine r_istore hC dX6_parted_71 rfl ?_
              have L73 : ∀ (n73 : Nat) (w21 : Int), -1 ≤ w21 ∧ w21 ≤ 119 → w21 + 1 < (n73 : Int) → K 73 [some (vR 30 0), some (vI l), some (vI r), some (vI w), some (vI x), some (vI w9), some (vI w21)] [] σ := by
                intro n73
                induction n73 with
                | zero => intro w21  f_w21  hm ; omega
                | succ n73 ih73 =>
                  intro w21  f_w21  hm73 
                  refine r_iload hC dX6_parted_73 rfl ?_
                  refine r_if_lt (tgt := 93) hC dX6_parted_75 rfl (fun h22 => ?_) (fun h22 => ?_)
                  · refine r_iincE hC ((w9 + 1)) dX6_parted_93 rfl rfl (by omega) (by unfold inR; omega) ?_
                    refine r_goto (tgt := 40) hC dX6_parted_96 rfl ?_
                    refine r_forget hC (ls2 := [some (vR 30 0), some (vI l), some (vI r), some (vI w), some (vI x), some (vI (w9 + 1)), none]) (lsub_some (lsub_some (lsub_some (lsub_some (lsub_some (lsub_some (lsub_none lsub_nil))))))) ?_
                    exact ih40 ((w9 + 1))  (by omega)  (by omega) 
                  · refine r_aload_n hC dX6_parted_78 rfl ?_
                    refine r_iload_n hC dX6_parted_79 rfl ?_
                    refine r_iload hC dX6_parted_80 rfl ?_
                    refine r_iload hC dX6_parted_82 rfl ?_
                    refine z_inv3 hM dX6_parted_84 vl_RX6_289 rfl rfl rfl (Nat.le_of_ble_eq_true rfl) (Nat.le_of_ble_eq_true rfl) ?_
                    refine m_layRow (hl := hl) (by omega) (by omega) (by omega) (by omega) (by have hq := qg0; omega) ?_
                    refine r_iincE hC ((w21 - 1)) dX6_parted_87 rfl rfl (by omega) (by unfold inR; omega) ?_
                    refine r_goto (tgt := 73) hC dX6_parted_90 rfl ?_
                    exact ih73 ((w21 - 1))  (by omega)  (by omega) 
              exact L73 122 ((hl - 1))  (by omega)  (by omega) 
        exact L40 6 (1)  (by omega)  (by omega) 
      · refine r_if_ne (tgt := 31) hC dX6_parted_25 rfl (fun h23 => by omega) (fun h23 => ?_)
        refine r_ldc hC dX6_parted_28 co_RX6_160 rfl ?_
        refine y_iret hK rfl dX6_parted_30 ?_
        exact k _ (by omega)
    · refine r_if_eq (tgt := 28) hC dX6_parted_15 rfl (fun h24 => ?_) (fun h24 => by omega)
      refine r_ldc hC dX6_parted_28 co_RX6_160 rfl ?_
      refine y_iret hK rfl dX6_parted_30 ?_
      exact k _ (by omega)
  · refine r_if_eq (tgt := 28) hC dX6_parted_6 rfl (fun h25 => ?_) (fun h25 => by omega)
    refine r_ldc hC dX6_parted_28 co_RX6_160 rfl ?_
    refine y_iret hK rfl dX6_parted_30 ?_
    exact k _ (by omega)
theorem m_parted {eb : Bool} {d : Nat} {P : Option Vl → Mm → Prop} {σ : Mm} {l r w x : Int} (k : ∀ r : Int, -2147483648 ≤ r ∧ r ≤ 2147483647 → P (some (vI r)) σ) : WT (false, eb, false) (d + 7) 240 [vR 30 0, vI l, vI r, vI w, vI x] σ P := by
  refine WT_loose (true, eb, false) (fun h => by cases h) (fun h => h) (fun c j q => ?_) (fun ρ hL hF hT hO => ?_)
  · rcases q with q | q | q | q
    · exact Or.inl q
    · cases q.1
    · exact Or.inr (Or.inr (Or.inl q))
    · cases q.1
  · exact m_parted_S (qg0 := rfl) (hL rfl) (fun r hr => ⟨σ, k r hr, fun _ => Or.inr (hL rfl), fun h => Or.inl h, fun c i j q => hT c i j q⟩)
theorem m_inPane {ea eb : Bool} {d : Nat} {P : Option Vl → Mm → Prop} {σ : Mm} {l i x : Int} (b_l : 0 ≤ l ∧ l ≤ 7) (b_i : 0 ≤ i ∧ i ≤ 120) (b_x : 1 ≤ x ∧ x ≤ 100000)  (k : ∀ r : Int, 1 ≤ r ∧ r + i ≤ 121 → P (some (vI r)) σ) : WT (ea, eb, false) (d + 3) 244 [vR 30 0, vI l, vI i, vI x] σ P := by
  refine WT_in fun K hK => ?_
  have hK : StpY (ea, eb, false) cX6_inPane RX6 (some .int) (WT (ea, eb, false) (d + 2)) P K := hK
  have hM := hK.1
  have hC := hK.1.1
  show K 0 [some (vR 30 0), some (vI l), some (vI i), some (vI x), none] [] σ
  refine r_iconst hC dX6_inPane_0 rfl ?_
  refine r_istore hC dX6_inPane_1 rfl ?_
  have L3 : ∀ (n3 : Nat) (w1 : Int), 1 ≤ w1 ∧ w1 ≤ 121 → ((w1) + i ≤ 121) → 121 - w1 < (n3 : Int) → K 3 [some (vR 30 0), some (vI l), some (vI i), some (vI x), some (vI w1)] [] σ := by
    intro n3
    induction n3 with
    | zero => intro w1  f_w1 i0_3 hm ; omega
    | succ n3 ih3 =>
      intro w1  f_w1 i0_3 hm3 
      refine r_iload_n hC dX6_inPane_3 rfl ?_
      refine r_iload hC dX6_inPane_4 rfl ?_
      refine r_iaddE hC ((i + w1)) dX6_inPane_6 (by omega) (by unfold inR; omega) ?_
      refine r_aload_n hC dX6_inPane_7 rfl ?_
      refine r_iload_n hC dX6_inPane_8 rfl ?_
      refine z_inv1 hM dX6_inPane_9 vl_RX6_116 rfl rfl rfl (Nat.le_of_ble_eq_true rfl) (Nat.le_of_ble_eq_true rfl) ?_
      refine m_heldOf (by omega) (fun v2 h_v2 t_v2 => ?_)
      refine r_icmp_ge (tgt := 53) hC dX6_inPane_12 rfl (fun h3 => ?_) (fun h3 => ?_)
      · refine r_iload hC dX6_inPane_53 rfl ?_
        refine y_iret hK rfl dX6_inPane_55 ?_
        exact k _ (by omega)
      · refine r_aload_n hC dX6_inPane_15 rfl ?_
        refine z_getR hM dX6_inPane_16 fl_RX6_13 rfl rfl (vld_of (n := 1) rfl (by omega) (by omega)) ?_
        refine r_bipush hC dX6_inPane_19 rfl ?_
        refine r_iload_n hC dX6_inPane_21 rfl ?_
        refine r_imulE hC ((121 * l)) dX6_inPane_22 (by omega) (by unfold inR; omega) ?_
        refine r_iload_n hC dX6_inPane_23 rfl ?_
        refine r_iaddE hC (((121 * l) + i)) dX6_inPane_24 (by omega) (by unfold inR; omega) ?_
        refine r_iload hC dX6_inPane_25 rfl ?_
        refine r_iaddE hC ((((121 * l) + i) + w1)) dX6_inPane_27 (by omega) (by unfold inR; omega) ?_
        refine z_iald hM dX6_inPane_28 rfl (by omega) (by omega) (fun v4 h_v4 o_v4 t_v4 => ?_)
        refine r_iload_n hC dX6_inPane_29 rfl ?_
        refine r_idivG hC dX6_inPane_30 (by omega) (by omega) (fun v5 h_v5 => ?_)
        refine r_aload_n hC dX6_inPane_31 rfl ?_
        refine z_getR hM dX6_inPane_32 fl_RX6_13 rfl rfl (vld_of (n := 1) rfl (by omega) (by omega)) ?_
        refine r_bipush hC dX6_inPane_35 rfl ?_
        refine r_iload_n hC dX6_inPane_37 rfl ?_
        refine r_imulE hC ((121 * l)) dX6_inPane_38 (by omega) (by unfold inR; omega) ?_
        refine r_iload_n hC dX6_inPane_39 rfl ?_
        refine r_iaddE hC (((121 * l) + i)) dX6_inPane_40 (by omega) (by unfold inR; omega) ?_
        refine z_iald hM dX6_inPane_41 rfl (by omega) (by omega) (fun v6 h_v6 o_v6 t_v6 => ?_)
        refine r_iload_n hC dX6_inPane_42 rfl ?_
        refine r_idivG hC dX6_inPane_43 (by omega) (by omega) (fun v7 h_v7 => ?_)
        refine r_icmp_ne (tgt := 53) hC dX6_inPane_44 rfl (fun h8 => ?_) (fun h8 => ?_)
        · refine r_iload hC dX6_inPane_53 rfl ?_
          refine y_iret hK rfl dX6_inPane_55 ?_
          exact k _ (by omega)
        · refine r_iincE hC ((w1 + 1)) dX6_inPane_47 rfl rfl (by omega) (by unfold inR; omega) ?_
          refine r_goto (tgt := 3) hC dX6_inPane_50 rfl ?_
          exact ih3 ((w1 + 1))  (by omega) (by omega) (by omega) 
  exact L3 123 (1)  (by omega) (by omega) (by omega) 
theorem m_inSession {ea eb : Bool} {d : Nat} {P : Option Vl → Mm → Prop} {σ : Mm} {l i x : Int} (b_l : 0 ≤ l ∧ l ≤ 7) (b_i : 0 ≤ i ∧ i ≤ 120)  (k : ∀ r : Int, 1 ≤ r ∧ r + i ≤ 121 → P (some (vI r)) σ) : WT (ea, eb, false) (d + 3) 248 [vR 30 0, vI l, vI i, vI x] σ P := by
  refine WT_in fun K hK => ?_
  have hK : StpY (ea, eb, false) cX6_inSession RX6 (some .int) (WT (ea, eb, false) (d + 2)) P K := hK
  have hM := hK.1
  have hC := hK.1.1
  show K 0 [some (vR 30 0), some (vI l), some (vI i), some (vI x), none] [] σ
  refine r_rngz hC (fun g0 => ?_)
  have r_x : -2147483648 ≤ x ∧ x ≤ 2147483647 := inR_le (g0 (vI x) (by simp))
  refine r_iconst hC dX6_inSession_0 rfl ?_
  refine r_istore hC dX6_inSession_1 rfl ?_
  have L3 : ∀ (n3 : Nat) (w1 : Int), 1 ≤ w1 ∧ w1 ≤ 121 → ((w1) + i ≤ 121) → 121 - w1 < (n3 : Int) → K 3 [some (vR 30 0), some (vI l), some (vI i), some (vI x), some (vI w1)] [] σ := by
    intro n3
    induction n3 with
    | zero => intro w1  f_w1 i0_3 hm ; omega
    | succ n3 ih3 =>
      intro w1  f_w1 i0_3 hm3 
      refine r_iload_n hC dX6_inSession_3 rfl ?_
      refine r_iload hC dX6_inSession_4 rfl ?_
      refine r_iaddE hC ((i + w1)) dX6_inSession_6 (by omega) (by unfold inR; omega) ?_
      refine r_aload_n hC dX6_inSession_7 rfl ?_
      refine r_iload_n hC dX6_inSession_8 rfl ?_
      refine z_inv1 hM dX6_inSession_9 vl_RX6_116 rfl rfl rfl (Nat.le_of_ble_eq_true rfl) (Nat.le_of_ble_eq_true rfl) ?_
      refine m_heldOf (by omega) (fun v2 h_v2 t_v2 => ?_)
      refine r_icmp_ge (tgt := 56) hC dX6_inSession_12 rfl (fun h3 => ?_) (fun h3 => ?_)
      · refine r_iload hC dX6_inSession_56 rfl ?_
        refine y_iret hK rfl dX6_inSession_58 ?_
        exact k _ (by omega)
      · refine r_aload_n hC dX6_inSession_15 rfl ?_
        refine z_getR hM dX6_inSession_16 fl_RX6_13 rfl rfl (vld_of (n := 1) rfl (by omega) (by omega)) ?_
        refine r_bipush hC dX6_inSession_19 rfl ?_
        refine r_iload_n hC dX6_inSession_21 rfl ?_
        refine r_imulE hC ((121 * l)) dX6_inSession_22 (by omega) (by unfold inR; omega) ?_
        refine r_iload_n hC dX6_inSession_23 rfl ?_
        refine r_iaddE hC (((121 * l) + i)) dX6_inSession_24 (by omega) (by unfold inR; omega) ?_
        refine r_iload hC dX6_inSession_25 rfl ?_
        refine r_iaddE hC ((((121 * l) + i) + w1)) dX6_inSession_27 (by omega) (by unfold inR; omega) ?_
        refine z_iald hM dX6_inSession_28 rfl (by omega) (by omega) (fun v4 h_v4 o_v4 t_v4 => ?_)
        refine r_aload_n hC dX6_inSession_29 rfl ?_
        refine z_getR hM dX6_inSession_30 fl_RX6_13 rfl rfl (vld_of (n := 1) rfl (by omega) (by omega)) ?_
        refine r_bipush hC dX6_inSession_33 rfl ?_
        refine r_iload_n hC dX6_inSession_35 rfl ?_
        refine r_imulE hC ((121 * l)) dX6_inSession_36 (by omega) (by unfold inR; omega) ?_
        refine r_iload_n hC dX6_inSession_37 rfl ?_
        refine r_iaddE hC (((121 * l) + i)) dX6_inSession_38 (by omega) (by unfold inR; omega) ?_
        refine r_iload hC dX6_inSession_39 rfl ?_
        refine r_iaddE hC ((((121 * l) + i) + w1)) dX6_inSession_41 (by omega) (by unfold inR; omega) ?_
        refine r_iconst hC dX6_inSession_42 rfl ?_
        refine r_isubE hC (((((121 * l) + i) + w1) - 1)) dX6_inSession_43 (by omega) (by unfold inR; omega) ?_
        refine z_iald hM dX6_inSession_44 rfl (by omega) (by omega) (fun v5 h_v5 o_v5 t_v5 => ?_)
        refine r_isubG hC dX6_inSession_45 (fun v6 h_v6 => ?_)
        refine r_iload_n hC dX6_inSession_46 rfl ?_
        refine r_icmp_gt (tgt := 56) hC dX6_inSession_47 rfl (fun h7 => ?_) (fun h7 => ?_)
        · refine r_iload hC dX6_inSession_56 rfl ?_
          refine y_iret hK rfl dX6_inSession_58 ?_
          exact k _ (by omega)
        · refine r_iincE hC ((w1 + 1)) dX6_inSession_50 rfl rfl (by omega) (by unfold inR; omega) ?_
          refine r_goto (tgt := 3) hC dX6_inSession_53 rfl ?_
          exact ih3 ((w1 + 1))  (by omega) (by omega) (by omega) 
  exact L3 123 (1)  (by omega) (by omega) (by omega) 
theorem m_isWidth {e : Ev} {d : Nat} {P : Option Vl → Mm → Prop} {σ : Mm} {a : Int}   (k1 : 1 ≤ a ∧ a ≤ 100000 → P (some (vI 1)) σ) (k0 : P (some (vI 0)) σ) : WT e (d + 2) 243 [vR 30 0, vI a] σ P := by
  refine WT_in fun K hK => ?_
  have hK : StpY e cX6_isWidth RX6 (some .boolean) (WT e (d + 1)) P K := hK
  have hM := hK.1
  have hC := hK.1.1
  show K 0 [some (vR 30 0), some (vI a)] [] σ
  refine r_rngz hC (fun g0 => ?_)
  have r_a : -2147483648 ≤ a ∧ a ≤ 2147483647 := inR_le (g0 (vI a) (by simp))
  refine r_iload_n hC dX6_isWidth_0 rfl ?_
  refine r_iconst hC dX6_isWidth_1 rfl ?_
  refine r_ldc hC dX6_isWidth_2 co_RX6_239 rfl ?_
  refine z_ins3 hM dX6_isWidth_4 tl_RX6_76 rfl (Nat.le_of_ble_eq_true rfl) (Nat.le_of_ble_eq_true rfl) ?_
  refine m_isIn (fun h2 => ?_) (fun h2 => ?_)
  · refine y_zret hK rfl dX6_isWidth_7 (by omega) ?_
    exact k1 (by omega)
  · refine y_zret hK rfl dX6_isWidth_7 (by omega) ?_
    exact k0
theorem m_isGap {e : Ev} {d : Nat} {P : Option Vl → Mm → Prop} {σ : Mm} {a : Int}   (k1 : 0 ≤ a ∧ a ≤ 100000 → P (some (vI 1)) σ) (k0 : P (some (vI 0)) σ) : WT e (d + 2) 247 [vR 30 0, vI a] σ P := by
  refine WT_in fun K hK => ?_
  have hK : StpY e cX6_isGap RX6 (some .boolean) (WT e (d + 1)) P K := hK
  have hM := hK.1
  have hC := hK.1.1
  show K 0 [some (vR 30 0), some (vI a)] [] σ
  refine r_rngz hC (fun g0 => ?_)
  have r_a : -2147483648 ≤ a ∧ a ≤ 2147483647 := inR_le (g0 (vI a) (by simp))
  refine r_iload_n hC dX6_isGap_0 rfl ?_
  refine r_iconst hC dX6_isGap_1 rfl ?_
  refine r_ldc hC dX6_isGap_2 co_RX6_239 rfl ?_
  refine z_ins3 hM dX6_isGap_4 tl_RX6_76 rfl (Nat.le_of_ble_eq_true rfl) (Nat.le_of_ble_eq_true rfl) ?_
  refine m_isIn (fun h2 => ?_) (fun h2 => ?_)
  · refine y_zret hK rfl dX6_isGap_7 (by omega) ?_
    exact k1 (by omega)
  · refine y_zret hK rfl dX6_isGap_7 (by omega) ?_
    exact k0
theorem m_panes {ea eb : Bool} {d : Nat} {P : Option Vl → Mm → Prop} {σ : Mm} {l x : Int}   (k : ∀ r : Int, -2147483648 ≤ r ∧ r ≤ 2147483647 → P (some (vI r)) σ) : WT (ea, eb, false) (d + 4) 245 [vR 30 0, vI l, vI x] σ P := by
  refine WT_in fun K hK => ?_
  have hK : StpY (ea, eb, false) cX6_panes RX6 (some .int) (WT (ea, eb, false) (d + 3)) P K := hK
  have hM := hK.1
  have hC := hK.1.1
  show K 0 [some (vR 30 0), some (vI l), some (vI x), none, none] [] σ
  refine r_rngz hC (fun g0 => ?_)
  have r_l : -2147483648 ≤ l ∧ l ≤ 2147483647 := inR_le (g0 (vI l) (by simp))
  have r_x : -2147483648 ≤ x ∧ x ≤ 2147483647 := inR_le (g0 (vI x) (by simp))
  refine r_aload_n hC dX6_panes_0 rfl ?_
  refine r_iload_n hC dX6_panes_1 rfl ?_
  refine z_inv1 hM dX6_panes_2 vl_RX6_124 rfl rfl rfl (Nat.le_of_ble_eq_true rfl) (Nat.le_of_ble_eq_true rfl) ?_
  refine m_isLane (fun h1 => ?_) ?_
  · refine r_if_eq (tgt := 16) hC dX6_panes_5 rfl (fun h2 => by omega) (fun h2 => ?_)
    refine r_aload_n hC dX6_panes_8 rfl ?_
    refine r_iload_n hC dX6_panes_9 rfl ?_
    refine z_inv1 hM dX6_panes_10 vl_RX6_295 rfl rfl rfl (Nat.le_of_ble_eq_true rfl) (Nat.le_of_ble_eq_true rfl) ?_
    refine m_isWidth (fun h3 => ?_) ?_
    · refine r_if_ne (tgt := 18) hC dX6_panes_13 rfl (fun h4 => ?_) (fun h4 => by omega)
      refine r_iconst hC dX6_panes_18 rfl ?_
      refine r_istore_n hC dX6_panes_19 rfl ?_
      refine r_iconst hC dX6_panes_20 rfl ?_
      refine r_istore hC dX6_panes_21 rfl ?_
      have L23 : ∀ (n23 : Nat) (w5 w6 : Int), -2147483648 ≤ w5 ∧ w5 ≤ 2147483647 → 0 ≤ w6 ∧ w6 ≤ 121 → 121 - w6 < (n23 : Int) → K 23 [some (vR 30 0), some (vI l), some (vI x), some (vI w5), some (vI w6)] [] σ := by
        intro n23
        induction n23 with
        | zero => intro w5 w6  f_w5 f_w6  hm ; omega
        | succ n23 ih23 =>
          intro w5 w6  f_w5 f_w6  hm23 
          refine r_iload hC dX6_panes_23 rfl ?_
          refine r_aload_n hC dX6_panes_25 rfl ?_
          refine r_iload_n hC dX6_panes_26 rfl ?_
          refine z_inv1 hM dX6_panes_27 vl_RX6_116 rfl rfl rfl (Nat.le_of_ble_eq_true rfl) (Nat.le_of_ble_eq_true rfl) ?_
          refine m_heldOf (by omega) (fun v7 h_v7 t_v7 => ?_)
          refine r_icmp_ge (tgt := 52) hC dX6_panes_30 rfl (fun h8 => ?_) (fun h8 => ?_)
          · refine r_iload_n hC dX6_panes_52 rfl ?_
            refine y_iret hK rfl dX6_panes_53 ?_
            exact k _ (by omega)
          · refine r_iincG hC dX6_panes_33 rfl rfl (fun v9 h_v9 => ?_)
            refine r_iload hC dX6_panes_36 rfl ?_
            refine r_aload_n hC dX6_panes_38 rfl ?_
            refine r_iload_n hC dX6_panes_39 rfl ?_
            refine r_iload hC dX6_panes_40 rfl ?_
            refine r_iload_n hC dX6_panes_42 rfl ?_
            refine z_inv3 hM dX6_panes_43 vl_RX6_298 rfl rfl rfl (Nat.le_of_ble_eq_true rfl) (Nat.le_of_ble_eq_true rfl) ?_
            refine m_inPane (by omega) (by omega) (by omega) (fun v10 h_v10 => ?_)
            refine r_iaddE hC ((w6 + v10)) dX6_panes_46 (by omega) (by unfold inR; omega) ?_
            refine r_istore hC dX6_panes_47 rfl ?_
            refine r_goto (tgt := 23) hC dX6_panes_49 rfl ?_
            exact ih23 (v9) ((w6 + v10))  (by omega) (by omega)  (by omega) 
      exact L23 123 (0) (0)  (by omega) (by omega)  (by omega) 
    · refine r_if_ne (tgt := 18) hC dX6_panes_13 rfl (fun h11 => by omega) (fun h11 => ?_)
      refine r_iconst hC dX6_panes_16 rfl ?_
      refine y_iret hK rfl dX6_panes_17 ?_
      exact k _ (by omega)
  · refine r_if_eq (tgt := 16) hC dX6_panes_5 rfl (fun h12 => ?_) (fun h12 => by omega)
    refine r_iconst hC dX6_panes_16 rfl ?_
    refine y_iret hK rfl dX6_panes_17 ?_
    exact k _ (by omega)
theorem m_fullest {ea eb : Bool} {d : Nat} {P : Option Vl → Mm → Prop} {σ : Mm} {l x : Int}   (k : ∀ r : Int, -2147483648 ≤ r ∧ r ≤ 2147483647 → P (some (vI r)) σ) : WT (ea, eb, false) (d + 4) 246 [vR 30 0, vI l, vI x] σ P := by
  refine WT_in fun K hK => ?_
  have hK : StpY (ea, eb, false) cX6_fullest RX6 (some .int) (WT (ea, eb, false) (d + 3)) P K := hK
  have hM := hK.1
  have hC := hK.1.1
  show K 0 [some (vR 30 0), some (vI l), some (vI x), none, none, none] [] σ
  refine r_rngz hC (fun g0 => ?_)
  have r_l : -2147483648 ≤ l ∧ l ≤ 2147483647 := inR_le (g0 (vI l) (by simp))
  have r_x : -2147483648 ≤ x ∧ x ≤ 2147483647 := inR_le (g0 (vI x) (by simp))
  refine r_aload_n hC dX6_fullest_0 rfl ?_
  refine r_iload_n hC dX6_fullest_1 rfl ?_
  refine z_inv1 hM dX6_fullest_2 vl_RX6_124 rfl rfl rfl (Nat.le_of_ble_eq_true rfl) (Nat.le_of_ble_eq_true rfl) ?_
  refine m_isLane (fun h1 => ?_) ?_
  · refine r_if_eq (tgt := 16) hC dX6_fullest_5 rfl (fun h2 => by omega) (fun h2 => ?_)
    refine r_aload_n hC dX6_fullest_8 rfl ?_
    refine r_iload_n hC dX6_fullest_9 rfl ?_
    refine z_inv1 hM dX6_fullest_10 vl_RX6_295 rfl rfl rfl (Nat.le_of_ble_eq_true rfl) (Nat.le_of_ble_eq_true rfl) ?_
    refine m_isWidth (fun h3 => ?_) ?_
    · refine r_if_ne (tgt := 18) hC dX6_fullest_13 rfl (fun h4 => ?_) (fun h4 => by omega)
      refine r_iconst hC dX6_fullest_18 rfl ?_
      refine r_istore_n hC dX6_fullest_19 rfl ?_
      refine r_iconst hC dX6_fullest_20 rfl ?_
      refine r_istore hC dX6_fullest_21 rfl ?_
      refine r_iconst hC dX6_fullest_23 rfl ?_
      refine r_istore hC dX6_fullest_24 rfl ?_
      have L26 : ∀ (n26 : Nat) (w5 w6 w7 : Int), -2147483648 ≤ w5 ∧ w5 ≤ 2147483647 → 0 ≤ w6 ∧ w6 ≤ 121 → 0 ≤ w7 ∧ w7 ≤ 121 → 121 - w7 < (n26 : Int) → K 26 [some (vR 30 0), some (vI l), some (vI x), some (vI w5), some (vI w6), some (vI w7)] [] σ := by
        intro n26
        induction n26 with
        | zero => intro w5 w6 w7  f_w5 f_w6 f_w7  hm ; omega
        | succ n26 ih26 =>
          intro w5 w6 w7  f_w5 f_w6 f_w7  hm26 
          refine r_iload hC dX6_fullest_26 rfl ?_
          refine r_aload_n hC dX6_fullest_28 rfl ?_
          refine r_iload_n hC dX6_fullest_29 rfl ?_
          refine z_inv1 hM dX6_fullest_30 vl_RX6_116 rfl rfl rfl (Nat.le_of_ble_eq_true rfl) (Nat.le_of_ble_eq_true rfl) ?_
          refine m_heldOf (by omega) (fun v8 h_v8 t_v8 => ?_)
          refine r_icmp_ge (tgt := 93) hC dX6_fullest_33 rfl (fun h9 => ?_) (fun h9 => ?_)
          · refine r_iload_n hC dX6_fullest_93 rfl ?_
            refine y_iret hK rfl dX6_fullest_94 ?_
            exact k _ (by omega)
          · refine r_aload_n hC dX6_fullest_36 rfl ?_
            refine r_iload_n hC dX6_fullest_37 rfl ?_
            refine r_iload hC dX6_fullest_38 rfl ?_
            refine r_iload_n hC dX6_fullest_40 rfl ?_
            refine z_inv3 hM dX6_fullest_41 vl_RX6_298 rfl rfl rfl (Nat.le_of_ble_eq_true rfl) (Nat.le_of_ble_eq_true rfl) ?_
            refine m_inPane (by omega) (by omega) (by omega) (fun v10 h_v10 => ?_)
            refine r_iload hC dX6_fullest_44 rfl ?_
            have J77_13 : ∀ (w12 w13 : Int), -2147483648 ≤ w12 ∧ w12 ≤ 2147483647 → 1 ≤ w13 ∧ w13 ≤ 121 → K 77 [some (vR 30 0), some (vI l), some (vI x), some (vI w12), some (vI w13), some (vI w7)] [] σ := by
              intro w12 w13  f_w12 f_w13 
              refine r_iload hC dX6_fullest_77 rfl ?_
              refine r_aload_n hC dX6_fullest_79 rfl ?_
              refine r_iload_n hC dX6_fullest_80 rfl ?_
              refine r_iload hC dX6_fullest_81 rfl ?_
              refine r_iload_n hC dX6_fullest_83 rfl ?_
              refine z_inv3 hM dX6_fullest_84 vl_RX6_298 rfl rfl rfl (Nat.le_of_ble_eq_true rfl) (Nat.le_of_ble_eq_true rfl) ?_
              refine m_inPane (by omega) (by omega) (by omega) (fun v15 h_v15 => ?_)
              refine r_iaddE hC ((w7 + v15)) dX6_fullest_87 (by omega) (by unfold inR; omega) ?_
              refine r_istore hC dX6_fullest_88 rfl ?_
              refine r_goto (tgt := 26) hC dX6_fullest_90 rfl ?_
              exact ih26 (w12) (w13) ((w7 + v15))  (by omega) (by omega) (by omega)  (by omega) 
            refine r_icmp_gt (tgt := 52) hC dX6_fullest_46 rfl (fun h11 => ?_) (fun h11 => ?_)
            · refine r_aload_n hC dX6_fullest_52 rfl ?_
              refine r_iload_n hC dX6_fullest_53 rfl ?_
              refine r_iload hC dX6_fullest_54 rfl ?_
              refine r_iload_n hC dX6_fullest_56 rfl ?_
              refine z_inv3 hM dX6_fullest_57 vl_RX6_298 rfl rfl rfl (Nat.le_of_ble_eq_true rfl) (Nat.le_of_ble_eq_true rfl) ?_
              refine m_inPane (by omega) (by omega) (by omega) (fun v16 h_v16 => ?_)
              refine r_istore hC dX6_fullest_60 rfl ?_
              refine r_aload_n hC dX6_fullest_62 rfl ?_
              refine z_getR hM dX6_fullest_63 fl_RX6_13 rfl rfl (vld_of (n := 1) rfl (by omega) (by omega)) ?_
              refine r_bipush hC dX6_fullest_66 rfl ?_
              refine r_iload_n hC dX6_fullest_68 rfl ?_
              refine r_imulE hC ((121 * l)) dX6_fullest_69 (by omega) (by unfold inR; omega) ?_
              refine r_iload hC dX6_fullest_70 rfl ?_
              refine r_iaddE hC (((121 * l) + w7)) dX6_fullest_72 (by omega) (by unfold inR; omega) ?_
              refine z_iald hM dX6_fullest_73 rfl (by omega) (by omega) (fun v17 h_v17 o_v17 t_v17 => ?_)
              refine r_iload_n hC dX6_fullest_74 rfl ?_
              refine r_idivG hC dX6_fullest_75 (by omega) (by omega) (fun v18 h_v18 => ?_)
              refine r_istore_n hC dX6_fullest_76 rfl ?_
              exact J77_13 (v18) (v16)  (by omega) (by omega) 
            · refine r_goto (tgt := 77) hC dX6_fullest_49 rfl ?_
              exact J77_13 (w5) (w6)  (by omega) (by omega) 
      exact L26 123 ((-1)) (0) (0)  (by omega) (by omega) (by omega)  (by omega) 
    · refine r_if_ne (tgt := 18) hC dX6_fullest_13 rfl (fun h19 => by omega) (fun h19 => ?_)
      refine r_iconst hC dX6_fullest_16 rfl ?_
      refine y_iret hK rfl dX6_fullest_17 ?_
      exact k _ (by omega)
  · refine r_if_eq (tgt := 16) hC dX6_fullest_5 rfl (fun h20 => ?_) (fun h20 => by omega)
    refine r_iconst hC dX6_fullest_16 rfl ?_
    refine y_iret hK rfl dX6_fullest_17 ?_
    exact k _ (by omega)
theorem m_sessions {ea eb : Bool} {d : Nat} {P : Option Vl → Mm → Prop} {σ : Mm} {l x : Int}   (k : ∀ r : Int, -2147483648 ≤ r ∧ r ≤ 2147483647 → P (some (vI r)) σ) : WT (ea, eb, false) (d + 4) 249 [vR 30 0, vI l, vI x] σ P := by
  refine WT_in fun K hK => ?_
  have hK : StpY (ea, eb, false) cX6_sessions RX6 (some .int) (WT (ea, eb, false) (d + 3)) P K := hK
  have hM := hK.1
  have hC := hK.1.1
  show K 0 [some (vR 30 0), some (vI l), some (vI x), none, none] [] σ
  refine r_rngz hC (fun g0 => ?_)
  have r_l : -2147483648 ≤ l ∧ l ≤ 2147483647 := inR_le (g0 (vI l) (by simp))
  have r_x : -2147483648 ≤ x ∧ x ≤ 2147483647 := inR_le (g0 (vI x) (by simp))
  refine r_aload_n hC dX6_sessions_0 rfl ?_
  refine r_iload_n hC dX6_sessions_1 rfl ?_
  refine z_inv1 hM dX6_sessions_2 vl_RX6_124 rfl rfl rfl (Nat.le_of_ble_eq_true rfl) (Nat.le_of_ble_eq_true rfl) ?_
  refine m_isLane (fun h1 => ?_) ?_
  · refine r_if_eq (tgt := 16) hC dX6_sessions_5 rfl (fun h2 => by omega) (fun h2 => ?_)
    refine r_aload_n hC dX6_sessions_8 rfl ?_
    refine r_iload_n hC dX6_sessions_9 rfl ?_
    refine z_inv1 hM dX6_sessions_10 vl_RX6_301 rfl rfl rfl (Nat.le_of_ble_eq_true rfl) (Nat.le_of_ble_eq_true rfl) ?_
    refine m_isGap (fun h3 => ?_) ?_
    · refine r_if_ne (tgt := 18) hC dX6_sessions_13 rfl (fun h4 => ?_) (fun h4 => by omega)
      refine r_iconst hC dX6_sessions_18 rfl ?_
      refine r_istore_n hC dX6_sessions_19 rfl ?_
      refine r_iconst hC dX6_sessions_20 rfl ?_
      refine r_istore hC dX6_sessions_21 rfl ?_
      have L23 : ∀ (n23 : Nat) (w5 w6 : Int), -2147483648 ≤ w5 ∧ w5 ≤ 2147483647 → 0 ≤ w6 ∧ w6 ≤ 121 → 121 - w6 < (n23 : Int) → K 23 [some (vR 30 0), some (vI l), some (vI x), some (vI w5), some (vI w6)] [] σ := by
        intro n23
        induction n23 with
        | zero => intro w5 w6  f_w5 f_w6  hm ; omega
        | succ n23 ih23 =>
          intro w5 w6  f_w5 f_w6  hm23 
          refine r_iload hC dX6_sessions_23 rfl ?_
          refine r_aload_n hC dX6_sessions_25 rfl ?_
          refine r_iload_n hC dX6_sessions_26 rfl ?_
          refine z_inv1 hM dX6_sessions_27 vl_RX6_116 rfl rfl rfl (Nat.le_of_ble_eq_true rfl) (Nat.le_of_ble_eq_true rfl) ?_
          refine m_heldOf (by omega) (fun v7 h_v7 t_v7 => ?_)
          refine r_icmp_ge (tgt := 52) hC dX6_sessions_30 rfl (fun h8 => ?_) (fun h8 => ?_)
          · refine r_iload_n hC dX6_sessions_52 rfl ?_
            refine y_iret hK rfl dX6_sessions_53 ?_
            exact k _ (by omega)
          · refine r_iincG hC dX6_sessions_33 rfl rfl (fun v9 h_v9 => ?_)
            refine r_iload hC dX6_sessions_36 rfl ?_
            refine r_aload_n hC dX6_sessions_38 rfl ?_
            refine r_iload_n hC dX6_sessions_39 rfl ?_
            refine r_iload hC dX6_sessions_40 rfl ?_
            refine r_iload_n hC dX6_sessions_42 rfl ?_
            refine z_inv3 hM dX6_sessions_43 vl_RX6_304 rfl rfl rfl (Nat.le_of_ble_eq_true rfl) (Nat.le_of_ble_eq_true rfl) ?_
            refine m_inSession (by omega) (by omega) (fun v10 h_v10 => ?_)
            refine r_iaddE hC ((w6 + v10)) dX6_sessions_46 (by omega) (by unfold inR; omega) ?_
            refine r_istore hC dX6_sessions_47 rfl ?_
            refine r_goto (tgt := 23) hC dX6_sessions_49 rfl ?_
            exact ih23 (v9) ((w6 + v10))  (by omega) (by omega)  (by omega) 
      exact L23 123 (0) (0)  (by omega) (by omega)  (by omega) 
    · refine r_if_ne (tgt := 18) hC dX6_sessions_13 rfl (fun h11 => by omega) (fun h11 => ?_)
      refine r_iconst hC dX6_sessions_16 rfl ?_
      refine y_iret hK rfl dX6_sessions_17 ?_
      exact k _ (by omega)
  · refine r_if_eq (tgt := 16) hC dX6_sessions_5 rfl (fun h12 => ?_) (fun h12 => by omega)
    refine r_iconst hC dX6_sessions_16 rfl ?_
    refine y_iret hK rfl dX6_sessions_17 ?_
    exact k _ (by omega)
theorem m_longest {ea eb : Bool} {d : Nat} {P : Option Vl → Mm → Prop} {σ : Mm} {l x : Int}   (k : ∀ r : Int, -2147483648 ≤ r ∧ r ≤ 2147483647 → P (some (vI r)) σ) : WT (ea, eb, false) (d + 4) 251 [vR 30 0, vI l, vI x] σ P := by
  refine WT_in fun K hK => ?_
  have hK : StpY (ea, eb, false) cX6_longest RX6 (some .int) (WT (ea, eb, false) (d + 3)) P K := hK
  have hM := hK.1
  have hC := hK.1.1
  show K 0 [some (vR 30 0), some (vI l), some (vI x), none, none, none, none] [] σ
  refine r_rngz hC (fun g0 => ?_)
  have r_l : -2147483648 ≤ l ∧ l ≤ 2147483647 := inR_le (g0 (vI l) (by simp))
  have r_x : -2147483648 ≤ x ∧ x ≤ 2147483647 := inR_le (g0 (vI x) (by simp))
  refine r_aload_n hC dX6_longest_0 rfl ?_
  refine r_iload_n hC dX6_longest_1 rfl ?_
  refine z_inv1 hM dX6_longest_2 vl_RX6_124 rfl rfl rfl (Nat.le_of_ble_eq_true rfl) (Nat.le_of_ble_eq_true rfl) ?_
  refine m_isLane (fun h1 => ?_) ?_
  · refine r_if_eq (tgt := 16) hC dX6_longest_5 rfl (fun h2 => by omega) (fun h2 => ?_)
    refine r_aload_n hC dX6_longest_8 rfl ?_
    refine r_iload_n hC dX6_longest_9 rfl ?_
    refine z_inv1 hM dX6_longest_10 vl_RX6_301 rfl rfl rfl (Nat.le_of_ble_eq_true rfl) (Nat.le_of_ble_eq_true rfl) ?_
    refine m_isGap (fun h3 => ?_) ?_
    · refine r_if_ne (tgt := 18) hC dX6_longest_13 rfl (fun h4 => ?_) (fun h4 => by omega)
      refine r_iconst hC dX6_longest_18 rfl ?_
      refine r_istore_n hC dX6_longest_19 rfl ?_
      refine r_iconst hC dX6_longest_20 rfl ?_
      refine r_istore hC dX6_longest_21 rfl ?_
      refine r_iconst hC dX6_longest_23 rfl ?_
      refine r_istore hC dX6_longest_24 rfl ?_
      show K _ [_, _, _, _, _, _, _] _ _
      refine r_iconst hC dX6_longest_26 rfl ?_
      refine r_istore hC dX6_longest_27 rfl ?_
      have L29 : ∀ (n29 : Nat) (w5 w6 w7 w8 : Int), -2147483648 ≤ w5 ∧ w5 ≤ 2147483647 → 0 ≤ w6 ∧ w6 ≤ 121 → -2147483648 ≤ w7 ∧ w7 ≤ 2147483647 → 0 ≤ w8 ∧ w8 ≤ 121 → 121 - w8 < (n29 : Int) → K 29 [some (vR 30 0), some (vI l), some (vI x), some (vI w5), some (vI w6), some (vI w7), some (vI w8)] [] σ := by
        intro n29
        induction n29 with
        | zero => intro w5 w6 w7 w8  f_w5 f_w6 f_w7 f_w8  hm ; omega
        | succ n29 ih29 =>
          intro w5 w6 w7 w8  f_w5 f_w6 f_w7 f_w8  hm29 
          refine r_iload hC dX6_longest_29 rfl ?_
          refine r_aload_n hC dX6_longest_31 rfl ?_
          refine r_iload_n hC dX6_longest_32 rfl ?_
          refine z_inv1 hM dX6_longest_33 vl_RX6_116 rfl rfl rfl (Nat.le_of_ble_eq_true rfl) (Nat.le_of_ble_eq_true rfl) ?_
          refine m_heldOf (by omega) (fun v9 h_v9 t_v9 => ?_)
          refine r_icmp_ge (tgt := 84) hC dX6_longest_36 rfl (fun h10 => ?_) (fun h10 => ?_)
          · refine r_iload_n hC dX6_longest_84 rfl ?_
            refine y_iret hK rfl dX6_longest_85 ?_
            exact k _ (by omega)
          · refine r_aload_n hC dX6_longest_39 rfl ?_
            refine r_iload_n hC dX6_longest_40 rfl ?_
            refine r_iload hC dX6_longest_41 rfl ?_
            refine r_iload_n hC dX6_longest_43 rfl ?_
            refine z_inv3 hM dX6_longest_44 vl_RX6_304 rfl rfl rfl (Nat.le_of_ble_eq_true rfl) (Nat.le_of_ble_eq_true rfl) ?_
            refine m_inSession (by omega) (by omega) (fun v11 h_v11 => ?_)
            refine r_iload hC dX6_longest_47 rfl ?_
            refine r_icmp_le (tgt := 65) hC dX6_longest_49 rfl (fun h12 => ?_) (fun h12 => ?_)
            · refine r_iincG hC dX6_longest_65 rfl rfl (fun v13 h_v13 => ?_)
              refine r_iload hC dX6_longest_68 rfl ?_
              refine r_aload_n hC dX6_longest_70 rfl ?_
              refine r_iload_n hC dX6_longest_71 rfl ?_
              refine r_iload hC dX6_longest_72 rfl ?_
              refine r_iload_n hC dX6_longest_74 rfl ?_
              refine z_inv3 hM dX6_longest_75 vl_RX6_304 rfl rfl rfl (Nat.le_of_ble_eq_true rfl) (Nat.le_of_ble_eq_true rfl) ?_
              refine m_inSession (by omega) (by omega) (fun v14 h_v14 => ?_)
              refine r_iaddE hC ((w8 + v14)) dX6_longest_78 (by omega) (by unfold inR; omega) ?_
              refine r_istore hC dX6_longest_79 rfl ?_
              refine r_goto (tgt := 29) hC dX6_longest_81 rfl ?_
              exact ih29 (w5) (w6) (v13) ((w8 + v14))  (by omega) (by omega) (by omega) (by omega)  (by omega) 
            · refine r_aload_n hC dX6_longest_52 rfl ?_
              refine r_iload_n hC dX6_longest_53 rfl ?_
              refine r_iload hC dX6_longest_54 rfl ?_
              refine r_iload_n hC dX6_longest_56 rfl ?_
              refine z_inv3 hM dX6_longest_57 vl_RX6_304 rfl rfl rfl (Nat.le_of_ble_eq_true rfl) (Nat.le_of_ble_eq_true rfl) ?_
              refine m_inSession (by omega) (by omega) (fun v15 h_v15 => ?_)
              refine r_istore hC dX6_longest_60 rfl ?_
              refine r_iload hC dX6_longest_62 rfl ?_
              refine r_istore_n hC dX6_longest_64 rfl ?_
              refine r_iincG hC dX6_longest_65 rfl rfl (fun v16 h_v16 => ?_)
              show K _ [_, _, _, _, _, _, _] _ _
              refine r_iload hC dX6_longest_68 rfl ?_
              refine r_aload_n hC dX6_longest_70 rfl ?_
              refine r_iload_n hC dX6_longest_71 rfl ?_
              refine r_iload hC dX6_longest_72 rfl ?_
              refine r_iload_n hC dX6_longest_74 rfl ?_
              refine z_inv3 hM dX6_longest_75 vl_RX6_304 rfl rfl rfl (Nat.le_of_ble_eq_true rfl) (Nat.le_of_ble_eq_true rfl) ?_
              refine m_inSession (by omega) (by omega) (fun v17 h_v17 => ?_)
              refine r_iaddE hC ((w8 + v17)) dX6_longest_78 (by omega) (by unfold inR; omega) ?_
              refine r_istore hC dX6_longest_79 rfl ?_
              refine r_goto (tgt := 29) hC dX6_longest_81 rfl ?_
              exact ih29 (w7) (v15) (v16) ((w8 + v17))  (by omega) (by omega) (by omega) (by omega)  (by omega) 
      exact L29 123 ((-1)) (0) (0) (0)  (by omega) (by omega) (by omega) (by omega)  (by omega) 
    · refine r_if_ne (tgt := 18) hC dX6_longest_13 rfl (fun h18 => by omega) (fun h18 => ?_)
      refine r_iconst hC dX6_longest_16 rfl ?_
      refine y_iret hK rfl dX6_longest_17 ?_
      exact k _ (by omega)
  · refine r_if_eq (tgt := 16) hC dX6_longest_5 rfl (fun h19 => ?_) (fun h19 => by omega)
    refine r_iconst hC dX6_longest_16 rfl ?_
    refine y_iret hK rfl dX6_longest_17 ?_
    exact k _ (by omega)
theorem m_session {ea eb : Bool} {d : Nat} {P : Option Vl → Mm → Prop} {σ : Mm} {l x y w : Int}   (k : ∀ r : Int, -2147483648 ≤ r ∧ r ≤ 2147483647 → P (some (vI r)) σ) : WT (ea, eb, false) (d + 6) 250 [vR 30 0, vI l, vI x, vI y, vI w] σ P := by
  refine WT_in fun K hK => ?_
  have hK : StpY (ea, eb, false) cX6_session RX6 (some .int) (WT (ea, eb, false) (d + 5)) P K := hK
  have hM := hK.1
  have hC := hK.1.1
  show K 0 [some (vR 30 0), some (vI l), some (vI x), some (vI y), some (vI w), none, none] [] σ
  refine r_rngz hC (fun g0 => ?_)
  have r_l : -2147483648 ≤ l ∧ l ≤ 2147483647 := inR_le (g0 (vI l) (by simp))
  have r_x : -2147483648 ≤ x ∧ x ≤ 2147483647 := inR_le (g0 (vI x) (by simp))
  have r_y : -2147483648 ≤ y ∧ y ≤ 2147483647 := inR_le (g0 (vI y) (by simp))
  have r_w : -2147483648 ≤ w ∧ w ≤ 2147483647 := inR_le (g0 (vI w) (by simp))
  refine r_aload_n hC dX6_session_0 rfl ?_
  refine r_iload_n hC dX6_session_1 rfl ?_
  refine r_iload hC dX6_session_2 rfl ?_
  refine z_inv2 hM dX6_session_4 vl_RX6_207 rfl rfl rfl (Nat.le_of_ble_eq_true rfl) (Nat.le_of_ble_eq_true rfl) ?_
  refine m_isNumber (fun h1 => ?_) ?_
  · refine r_if_eq (tgt := 22) hC dX6_session_7 rfl (fun h2 => by omega) (fun h2 => ?_)
    refine r_aload_n hC dX6_session_10 rfl ?_
    refine r_iload_n hC dX6_session_11 rfl ?_
    refine z_inv1 hM dX6_session_12 vl_RX6_301 rfl rfl rfl (Nat.le_of_ble_eq_true rfl) (Nat.le_of_ble_eq_true rfl) ?_
    refine m_isGap (fun h3 => ?_) ?_
    · refine r_if_eq (tgt := 22) hC dX6_session_15 rfl (fun h4 => by omega) (fun h4 => ?_)
      refine r_iload_n hC dX6_session_18 rfl ?_
      refine r_if_ge (tgt := 25) hC dX6_session_19 rfl (fun h5 => ?_) (fun h5 => ?_)
      · refine r_iconst hC dX6_session_25 rfl ?_
        refine r_istore hC dX6_session_26 rfl ?_
        refine r_iconst hC dX6_session_28 rfl ?_
        refine r_istore hC dX6_session_29 rfl ?_
        have L31 : ∀ (n31 : Nat) (w6 w7 : Int), 0 ≤ w6 ∧ w6 ≤ 121 → 0 ≤ w7 ∧ w7 ≤ 2147483647 → 121 - w6 < (n31 : Int) → K 31 [some (vR 30 0), some (vI l), some (vI x), some (vI y), some (vI w), some (vI w6), some (vI w7)] [] σ := by
          intro n31
          induction n31 with
          | zero => intro w6 w7  f_w6 f_w7  hm ; omega
          | succ n31 ih31 =>
            intro w6 w7  f_w6 f_w7  hm31 
            refine r_iload hC dX6_session_31 rfl ?_
            refine r_iload_n hC dX6_session_33 rfl ?_
            refine r_icmp_ge (tgt := 66) hC dX6_session_34 rfl (fun h8 => ?_) (fun h8 => ?_)
            · refine r_iload hC dX6_session_66 rfl ?_
              refine r_aload_n hC dX6_session_68 rfl ?_
              refine r_iload_n hC dX6_session_69 rfl ?_
              refine z_inv1 hM dX6_session_70 vl_RX6_116 rfl rfl rfl (Nat.le_of_ble_eq_true rfl) (Nat.le_of_ble_eq_true rfl) ?_
              refine m_heldOf (by omega) (fun v9 h_v9 t_v9 => ?_)
              refine r_icmp_ge (tgt := 101) hC dX6_session_73 rfl (fun h10 => ?_) (fun h10 => ?_)
              · refine r_ldc hC dX6_session_101 co_RX6_160 rfl ?_
                refine y_iret hK rfl dX6_session_103 ?_
                exact k _ (by omega)
              · refine r_aload_n hC dX6_session_76 rfl ?_
                refine r_iload_n hC dX6_session_77 rfl ?_
                refine r_iload hC dX6_session_78 rfl ?_
                refine r_iload hC dX6_session_80 rfl ?_
                refine r_aload_n hC dX6_session_82 rfl ?_
                refine r_iload_n hC dX6_session_83 rfl ?_
                refine r_iload hC dX6_session_84 rfl ?_
                refine r_iload_n hC dX6_session_86 rfl ?_
                refine z_inv3 hM dX6_session_87 vl_RX6_304 rfl rfl rfl (Nat.le_of_ble_eq_true rfl) (Nat.le_of_ble_eq_true rfl) ?_
                refine m_inSession (by omega) (by omega) (fun v11 h_v11 => ?_)
                refine r_iaddE hC ((w6 + v11)) dX6_session_90 (by omega) (by unfold inR; omega) ?_
                refine r_iconst hC dX6_session_91 rfl ?_
                refine r_isubE hC (((w6 + v11) - 1)) dX6_session_92 (by omega) (by unfold inR; omega) ?_
                refine r_iload hC dX6_session_93 rfl ?_
                refine z_inv4 hM dX6_session_95 vl_RX6_243 rfl rfl rfl (Nat.le_of_ble_eq_true rfl) (Nat.le_of_ble_eq_true rfl) ?_
                refine m_comesFrom (by omega) (by omega) (by omega) (by omega) (fun v12 h_v12 => ?_)
                refine r_goto (tgt := 103) hC dX6_session_98 rfl ?_
                refine y_iret hK rfl dX6_session_103 ?_
                exact k _ (by omega)
            · refine r_iload hC dX6_session_37 rfl ?_
              refine r_aload_n hC dX6_session_39 rfl ?_
              refine r_iload_n hC dX6_session_40 rfl ?_
              refine z_inv1 hM dX6_session_41 vl_RX6_116 rfl rfl rfl (Nat.le_of_ble_eq_true rfl) (Nat.le_of_ble_eq_true rfl) ?_
              refine m_heldOf (by omega) (fun v13 h_v13 t_v13 => ?_)
              refine r_icmp_ge (tgt := 66) hC dX6_session_44 rfl (fun h14 => ?_) (fun h14 => ?_)
              · refine r_iload hC dX6_session_66 rfl ?_
                refine r_aload_n hC dX6_session_68 rfl ?_
                refine r_iload_n hC dX6_session_69 rfl ?_
                refine z_inv1 hM dX6_session_70 vl_RX6_116 rfl rfl rfl (Nat.le_of_ble_eq_true rfl) (Nat.le_of_ble_eq_true rfl) ?_
                refine m_heldOf (by omega) (fun v15 h_v15 t_v15 => ?_)
                refine r_icmp_ge (tgt := 101) hC dX6_session_73 rfl (fun h16 => ?_) (fun h16 => ?_)
                · refine r_ldc hC dX6_session_101 co_RX6_160 rfl ?_
                  refine y_iret hK rfl dX6_session_103 ?_
                  exact k _ (by omega)
                · refine r_aload_n hC dX6_session_76 rfl ?_
                  refine r_iload_n hC dX6_session_77 rfl ?_
                  refine r_iload hC dX6_session_78 rfl ?_
                  refine r_iload hC dX6_session_80 rfl ?_
                  refine r_aload_n hC dX6_session_82 rfl ?_
                  refine r_iload_n hC dX6_session_83 rfl ?_
                  refine r_iload hC dX6_session_84 rfl ?_
                  refine r_iload_n hC dX6_session_86 rfl ?_
                  refine z_inv3 hM dX6_session_87 vl_RX6_304 rfl rfl rfl (Nat.le_of_ble_eq_true rfl) (Nat.le_of_ble_eq_true rfl) ?_
                  refine m_inSession (by omega) (by omega) (fun v17 h_v17 => ?_)
                  refine r_iaddE hC ((w6 + v17)) dX6_session_90 (by omega) (by unfold inR; omega) ?_
                  refine r_iconst hC dX6_session_91 rfl ?_
                  refine r_isubE hC (((w6 + v17) - 1)) dX6_session_92 (by omega) (by unfold inR; omega) ?_
                  refine r_iload hC dX6_session_93 rfl ?_
                  refine z_inv4 hM dX6_session_95 vl_RX6_243 rfl rfl rfl (Nat.le_of_ble_eq_true rfl) (Nat.le_of_ble_eq_true rfl) ?_
                  refine m_comesFrom (by omega) (by omega) (by omega) (by omega) (fun v18 h_v18 => ?_)
                  refine r_goto (tgt := 103) hC dX6_session_98 rfl ?_
                  refine y_iret hK rfl dX6_session_103 ?_
                  exact k _ (by omega)
              · refine r_iload hC dX6_session_47 rfl ?_
                refine r_aload_n hC dX6_session_49 rfl ?_
                refine r_iload_n hC dX6_session_50 rfl ?_
                refine r_iload hC dX6_session_51 rfl ?_
                refine r_iload_n hC dX6_session_53 rfl ?_
                refine z_inv3 hM dX6_session_54 vl_RX6_304 rfl rfl rfl (Nat.le_of_ble_eq_true rfl) (Nat.le_of_ble_eq_true rfl) ?_
                refine m_inSession (by omega) (by omega) (fun v19 h_v19 => ?_)
                refine r_iaddE hC ((w6 + v19)) dX6_session_57 (by omega) (by unfold inR; omega) ?_
                refine r_istore hC dX6_session_58 rfl ?_
                refine r_iincE hC ((w7 + 1)) dX6_session_60 rfl rfl (by omega) (by unfold inR; omega) ?_
                refine r_goto (tgt := 31) hC dX6_session_63 rfl ?_
                exact ih31 ((w6 + v19)) ((w7 + 1))  (by omega) (by omega)  (by omega) 
        exact L31 123 (0) (0)  (by omega) (by omega)  (by omega) 
      · refine r_ldc hC dX6_session_22 co_RX6_160 rfl ?_
        refine y_iret hK rfl dX6_session_24 ?_
        exact k _ (by omega)
    · refine r_if_eq (tgt := 22) hC dX6_session_15 rfl (fun h20 => ?_) (fun h20 => by omega)
      refine r_ldc hC dX6_session_22 co_RX6_160 rfl ?_
      refine y_iret hK rfl dX6_session_24 ?_
      exact k _ (by omega)
  · refine r_if_eq (tgt := 22) hC dX6_session_7 rfl (fun h21 => ?_) (fun h21 => by omega)
    refine r_ldc hC dX6_session_22 co_RX6_160 rfl ?_
    refine y_iret hK rfl dX6_session_24 ?_
    exact k _ (by omega)
theorem m_state {ea eb : Bool} {d : Nat} {P : Option Vl → Mm → Prop} {σ : Mm} {l w : Int}   (k : ∀ r : Int, -2147483648 ≤ r ∧ r ≤ 2147483647 → P (some (vI r)) σ) : WT (ea, eb, false) (d + 3) 180 [vR 30 0, vI l, vI w] σ P := by
  refine WT_in fun K hK => ?_
  have hK : StpY (ea, eb, false) cX6_state RX6 (some .int) (WT (ea, eb, false) (d + 2)) P K := hK
  have hM := hK.1
  have hC := hK.1.1
  show K 0 [some (vR 30 0), some (vI l), some (vI w)] [] σ
  refine r_rngz hC (fun g0 => ?_)
  have r_l : -2147483648 ≤ l ∧ l ≤ 2147483647 := inR_le (g0 (vI l) (by simp))
  have r_w : -2147483648 ≤ w ∧ w ≤ 2147483647 := inR_le (g0 (vI w) (by simp))
  refine r_aload_n hC dX6_state_0 rfl ?_
  refine r_iload_n hC dX6_state_1 rfl ?_
  refine z_inv1 hM dX6_state_2 vl_RX6_124 rfl rfl rfl (Nat.le_of_ble_eq_true rfl) (Nat.le_of_ble_eq_true rfl) ?_
  refine m_isLane (fun h1 => ?_) ?_
  · refine r_if_ne (tgt := 10) hC dX6_state_5 rfl (fun h2 => ?_) (fun h2 => by omega)
    refine r_iload_n hC dX6_state_10 rfl ?_
    rcases (by omega : (w < 0 ∨ 6 < w) ∨ w = 0 ∨ w = 1 ∨ w = 2 ∨ w = 3 ∨ w = 4 ∨ w = 5 ∨ w = 6) with h3 | h3 | h3 | h3 | h3 | h3 | h3 | h3
    · refine r_tableOut (tgt := 108) hC dX6_state_11 h3 rfl ?_
      refine r_iconst hC dX6_state_108 rfl ?_
      refine y_iret hK rfl dX6_state_109 ?_
      exact k _ (by omega)
    · refine r_tableIn (tgt := 52) (off := 41) hC dX6_state_11 (by omega) (by omega) (by rw [h3]; rfl) rfl ?_
      refine r_aload_n hC dX6_state_52 rfl ?_
      refine r_iload_n hC dX6_state_53 rfl ?_
      refine r_bipush hC dX6_state_54 rfl ?_
      refine z_inv2 hM dX6_state_56 vl_RX6_80 rfl rfl rfl (Nat.le_of_ble_eq_true rfl) (Nat.le_of_ble_eq_true rfl) ?_
      refine m_of (by omega) (by omega) (fun v4 h_v4 h5_v4 h0_v4 t_v4 => ?_)
      refine y_iret hK rfl dX6_state_59 ?_
      exact k _ (by omega)
    · refine r_tableIn (tgt := 60) (off := 49) hC dX6_state_11 (by omega) (by omega) (by rw [h3]; rfl) rfl ?_
      refine r_aload_n hC dX6_state_60 rfl ?_
      refine r_iload_n hC dX6_state_61 rfl ?_
      refine r_bipush hC dX6_state_62 rfl ?_
      refine z_inv2 hM dX6_state_64 vl_RX6_80 rfl rfl rfl (Nat.le_of_ble_eq_true rfl) (Nat.le_of_ble_eq_true rfl) ?_
      refine m_of (by omega) (by omega) (fun v5 h_v5 h5_v5 h0_v5 t_v5 => ?_)
      refine y_iret hK rfl dX6_state_67 ?_
      exact k _ (by omega)
    · refine r_tableIn (tgt := 68) (off := 57) hC dX6_state_11 (by omega) (by omega) (by rw [h3]; rfl) rfl ?_
      refine r_aload_n hC dX6_state_68 rfl ?_
      refine r_iload_n hC dX6_state_69 rfl ?_
      refine r_bipush hC dX6_state_70 rfl ?_
      refine z_inv2 hM dX6_state_72 vl_RX6_80 rfl rfl rfl (Nat.le_of_ble_eq_true rfl) (Nat.le_of_ble_eq_true rfl) ?_
      refine m_of (by omega) (by omega) (fun v6 h_v6 h5_v6 h0_v6 t_v6 => ?_)
      refine y_iret hK rfl dX6_state_75 ?_
      exact k _ (by omega)
    · refine r_tableIn (tgt := 76) (off := 65) hC dX6_state_11 (by omega) (by omega) (by rw [h3]; rfl) rfl ?_
      refine r_aload_n hC dX6_state_76 rfl ?_
      refine r_iload_n hC dX6_state_77 rfl ?_
      refine r_bipush hC dX6_state_78 rfl ?_
      refine z_inv2 hM dX6_state_80 vl_RX6_80 rfl rfl rfl (Nat.le_of_ble_eq_true rfl) (Nat.le_of_ble_eq_true rfl) ?_
      refine m_of (by omega) (by omega) (fun v7 h_v7 h5_v7 h0_v7 t_v7 => ?_)
      refine y_iret hK rfl dX6_state_83 ?_
      exact k _ (by omega)
    · refine r_tableIn (tgt := 84) (off := 73) hC dX6_state_11 (by omega) (by omega) (by rw [h3]; rfl) rfl ?_
      refine r_aload_n hC dX6_state_84 rfl ?_
      refine r_iload_n hC dX6_state_85 rfl ?_
      refine r_bipush hC dX6_state_86 rfl ?_
      refine z_inv2 hM dX6_state_88 vl_RX6_80 rfl rfl rfl (Nat.le_of_ble_eq_true rfl) (Nat.le_of_ble_eq_true rfl) ?_
      refine m_of (by omega) (by omega) (fun v8 h_v8 h5_v8 h0_v8 t_v8 => ?_)
      refine y_iret hK rfl dX6_state_91 ?_
      exact k _ (by omega)
    · refine r_tableIn (tgt := 92) (off := 81) hC dX6_state_11 (by omega) (by omega) (by rw [h3]; rfl) rfl ?_
      refine r_aload_n hC dX6_state_92 rfl ?_
      refine r_iload_n hC dX6_state_93 rfl ?_
      refine r_bipush hC dX6_state_94 rfl ?_
      refine z_inv2 hM dX6_state_96 vl_RX6_80 rfl rfl rfl (Nat.le_of_ble_eq_true rfl) (Nat.le_of_ble_eq_true rfl) ?_
      refine m_of (by omega) (by omega) (fun v9 h_v9 h5_v9 h0_v9 t_v9 => ?_)
      refine y_iret hK rfl dX6_state_99 ?_
      exact k _ (by omega)
    · refine r_tableIn (tgt := 100) (off := 89) hC dX6_state_11 (by omega) (by omega) (by rw [h3]; rfl) rfl ?_
      refine r_aload_n hC dX6_state_100 rfl ?_
      refine r_iload_n hC dX6_state_101 rfl ?_
      refine r_bipush hC dX6_state_102 rfl ?_
      refine z_inv2 hM dX6_state_104 vl_RX6_80 rfl rfl rfl (Nat.le_of_ble_eq_true rfl) (Nat.le_of_ble_eq_true rfl) ?_
      refine m_of (by omega) (by omega) (fun v10 h_v10 h5_v10 h0_v10 t_v10 => ?_)
      refine y_iret hK rfl dX6_state_107 ?_
      exact k _ (by omega)
  · refine r_if_ne (tgt := 10) hC dX6_state_5 rfl (fun h11 => by omega) (fun h11 => ?_)
    refine r_iconst hC dX6_state_8 rfl ?_
    refine y_iret hK rfl dX6_state_9 ?_
    exact k _ (by omega)
theorem m_soon {ea eb : Bool} {d : Nat} {P : Option Vl → Mm → Prop} {σ : Mm} {l w : Int}   (k : ∀ r : Int, -2147483648 ≤ r ∧ r ≤ 2147483647 → P (some (vI r)) σ) : WT (ea, eb, false) (d + 3) 181 [vR 30 0, vI l, vI w] σ P := by
  refine WT_in fun K hK => ?_
  have hK : StpY (ea, eb, false) cX6_soon RX6 (some .int) (WT (ea, eb, false) (d + 2)) P K := hK
  have hM := hK.1
  have hC := hK.1.1
  show K 0 [some (vR 30 0), some (vI l), some (vI w)] [] σ
  refine r_rngz hC (fun g0 => ?_)
  have r_l : -2147483648 ≤ l ∧ l ≤ 2147483647 := inR_le (g0 (vI l) (by simp))
  have r_w : -2147483648 ≤ w ∧ w ≤ 2147483647 := inR_le (g0 (vI w) (by simp))
  refine r_aload_n hC dX6_soon_0 rfl ?_
  refine r_iload_n hC dX6_soon_1 rfl ?_
  refine z_inv1 hM dX6_soon_2 vl_RX6_124 rfl rfl rfl (Nat.le_of_ble_eq_true rfl) (Nat.le_of_ble_eq_true rfl) ?_
  refine m_isLane (fun h1 => ?_) ?_
  · refine r_if_eq (tgt := 28) hC dX6_soon_5 rfl (fun h2 => by omega) (fun h2 => ?_)
    refine r_iload_n hC dX6_soon_8 rfl ?_
    refine r_iconst hC dX6_soon_9 rfl ?_
    refine r_iconst hC dX6_soon_10 rfl ?_
    refine z_ins3 hM dX6_soon_11 tl_RX6_76 rfl (Nat.le_of_ble_eq_true rfl) (Nat.le_of_ble_eq_true rfl) ?_
    refine m_isIn (fun h4 => ?_) (fun h4 => ?_)
    · refine r_if_eq (tgt := 28) hC dX6_soon_14 rfl (fun h5 => by omega) (fun h5 => ?_)
      refine r_iload_n hC dX6_soon_17 rfl ?_
      refine r_aload_n hC dX6_soon_18 rfl ?_
      refine r_iload_n hC dX6_soon_19 rfl ?_
      refine r_bipush hC dX6_soon_20 rfl ?_
      refine z_inv2 hM dX6_soon_22 vl_RX6_80 rfl rfl rfl (Nat.le_of_ble_eq_true rfl) (Nat.le_of_ble_eq_true rfl) ?_
      refine m_of (by omega) (by omega) (fun v6 h_v6 h5_v6 h0_v6 t_v6 => ?_)
      refine r_icmp_eq (tgt := 30) hC dX6_soon_25 rfl (fun h7 => ?_) (fun h7 => ?_)
      · refine r_iload_n hC dX6_soon_30 rfl ?_
        have J67_9 : ∀ (w9 : Int), -2147483648 ≤ w9 ∧ w9 ≤ 2147483647 → K 67 [some (vR 30 0), some (vI l), some (vI w)] [vI w9] σ := by
          intro w9  f_w9 
          refine y_iret hK rfl dX6_soon_67 ?_
          exact k _ (by omega)
        refine r_if_ne (tgt := 54) hC dX6_soon_31 rfl (fun h8 => ?_) (fun h8 => ?_)
        · refine r_aload_n hC dX6_soon_54 rfl ?_
          refine r_iload_n hC dX6_soon_55 rfl ?_
          refine r_bipush hC dX6_soon_56 rfl ?_
          refine z_inv2 hM dX6_soon_58 vl_RX6_80 rfl rfl rfl (Nat.le_of_ble_eq_true rfl) (Nat.le_of_ble_eq_true rfl) ?_
          refine m_of (by omega) (by omega) (fun v11 h_v11 h5_v11 h0_v11 t_v11 => ?_)
          refine r_iconst hC dX6_soon_61 rfl ?_
          refine r_iaddG hC dX6_soon_62 (fun v12 h_v12 => ?_)
          refine r_iconst hC dX6_soon_63 rfl ?_
          refine r_isubG hC dX6_soon_64 (fun v13 h_v13 => ?_)
          refine r_iconst hC dX6_soon_65 rfl ?_
          refine r_idivG hC dX6_soon_66 (by omega) (by omega) (fun v14 h_v14 => ?_)
          exact J67_9 (v14)  (by omega) 
        · refine r_aload_n hC dX6_soon_34 rfl ?_
          refine r_iload_n hC dX6_soon_35 rfl ?_
          refine r_bipush hC dX6_soon_36 rfl ?_
          refine z_inv2 hM dX6_soon_38 vl_RX6_80 rfl rfl rfl (Nat.le_of_ble_eq_true rfl) (Nat.le_of_ble_eq_true rfl) ?_
          refine m_of (by omega) (by omega) (fun v15 h_v15 h5_v15 h0_v15 t_v15 => ?_)
          refine r_aload_n hC dX6_soon_41 rfl ?_
          refine r_iload_n hC dX6_soon_42 rfl ?_
          refine r_bipush hC dX6_soon_43 rfl ?_
          refine z_inv2 hM dX6_soon_45 vl_RX6_80 rfl rfl rfl (Nat.le_of_ble_eq_true rfl) (Nat.le_of_ble_eq_true rfl) ?_
          refine m_of (by omega) (by omega) (fun v16 h_v16 h5_v16 h0_v16 t_v16 => ?_)
          refine r_isubG hC dX6_soon_48 (fun v17 h_v17 => ?_)
          refine r_iconst hC dX6_soon_49 rfl ?_
          refine r_iaddG hC dX6_soon_50 (fun v18 h_v18 => ?_)
          refine r_goto (tgt := 67) hC dX6_soon_51 rfl ?_
          exact J67_9 (v18)  (by omega) 
      · refine r_iconst hC dX6_soon_28 rfl ?_
        refine y_iret hK rfl dX6_soon_29 ?_
        exact k _ (by omega)
    · refine r_if_eq (tgt := 28) hC dX6_soon_14 rfl (fun h19 => ?_) (fun h19 => by omega)
      refine r_iconst hC dX6_soon_28 rfl ?_
      refine y_iret hK rfl dX6_soon_29 ?_
      exact k _ (by omega)
  · refine r_if_eq (tgt := 28) hC dX6_soon_5 rfl (fun h20 => ?_) (fun h20 => by omega)
    refine r_iconst hC dX6_soon_28 rfl ?_
    refine y_iret hK rfl dX6_soon_29 ?_
    exact k _ (by omega)
theorem m_lane {ea eb : Bool} {d : Nat} {P : Option Vl → Mm → Prop} {σ : Mm} {l w : Int}   (k : ∀ r : Int, -2147483648 ≤ r ∧ r ≤ 2147483647 → P (some (vI r)) σ) : WT (ea, eb, false) (d + 3) 252 [vR 30 0, vI l, vI w] σ P := by
  refine WT_in fun K hK => ?_
  have hK : StpY (ea, eb, false) cX6_lane RX6 (some .int) (WT (ea, eb, false) (d + 2)) P K := hK
  have hM := hK.1
  have hC := hK.1.1
  show K 0 [some (vR 30 0), some (vI l), some (vI w)] [] σ
  refine r_rngz hC (fun g0 => ?_)
  have r_l : -2147483648 ≤ l ∧ l ≤ 2147483647 := inR_le (g0 (vI l) (by simp))
  have r_w : -2147483648 ≤ w ∧ w ≤ 2147483647 := inR_le (g0 (vI w) (by simp))
  refine r_aload_n hC dX6_lane_0 rfl ?_
  refine r_iload_n hC dX6_lane_1 rfl ?_
  refine z_inv1 hM dX6_lane_2 vl_RX6_124 rfl rfl rfl (Nat.le_of_ble_eq_true rfl) (Nat.le_of_ble_eq_true rfl) ?_
  refine m_isLane (fun h1 => ?_) ?_
  · refine r_if_ne (tgt := 10) hC dX6_lane_5 rfl (fun h2 => ?_) (fun h2 => by omega)
    refine r_iload_n hC dX6_lane_10 rfl ?_
    rcases (by omega : (w < 0 ∨ 10 < w) ∨ w = 0 ∨ w = 1 ∨ w = 2 ∨ w = 3 ∨ w = 4 ∨ w = 5 ∨ w = 6 ∨ w = 7 ∨ w = 8 ∨ w = 9 ∨ w = 10) with h3 | h3 | h3 | h3 | h3 | h3 | h3 | h3 | h3 | h3 | h3 | h3
    · refine r_tableOut (tgt := 150) hC dX6_lane_11 h3 rfl ?_
      refine r_iconst hC dX6_lane_150 rfl ?_
      refine y_iret hK rfl dX6_lane_151 ?_
      exact k _ (by omega)
    · refine r_tableIn (tgt := 68) (off := 57) hC dX6_lane_11 (by omega) (by omega) (by rw [h3]; rfl) rfl ?_
      refine r_aload_n hC dX6_lane_68 rfl ?_
      refine r_iload_n hC dX6_lane_69 rfl ?_
      refine r_iconst hC dX6_lane_70 rfl ?_
      refine z_inv2 hM dX6_lane_71 vl_RX6_80 rfl rfl rfl (Nat.le_of_ble_eq_true rfl) (Nat.le_of_ble_eq_true rfl) ?_
      refine m_of (by omega) (by omega) (fun v4 h_v4 h5_v4 h0_v4 t_v4 => ?_)
      refine y_iret hK rfl dX6_lane_74 ?_
      exact k _ (by omega)
    · refine r_tableIn (tgt := 75) (off := 64) hC dX6_lane_11 (by omega) (by omega) (by rw [h3]; rfl) rfl ?_
      refine r_aload_n hC dX6_lane_75 rfl ?_
      refine r_iload_n hC dX6_lane_76 rfl ?_
      refine r_iconst hC dX6_lane_77 rfl ?_
      refine z_inv2 hM dX6_lane_78 vl_RX6_80 rfl rfl rfl (Nat.le_of_ble_eq_true rfl) (Nat.le_of_ble_eq_true rfl) ?_
      refine m_of (by omega) (by omega) (fun v5 h_v5 h5_v5 h0_v5 t_v5 => ?_)
      refine y_iret hK rfl dX6_lane_81 ?_
      exact k _ (by omega)
    · refine r_tableIn (tgt := 82) (off := 71) hC dX6_lane_11 (by omega) (by omega) (by rw [h3]; rfl) rfl ?_
      refine r_aload_n hC dX6_lane_82 rfl ?_
      refine r_iload_n hC dX6_lane_83 rfl ?_
      refine r_iconst hC dX6_lane_84 rfl ?_
      refine z_inv2 hM dX6_lane_85 vl_RX6_80 rfl rfl rfl (Nat.le_of_ble_eq_true rfl) (Nat.le_of_ble_eq_true rfl) ?_
      refine m_of (by omega) (by omega) (fun v6 h_v6 h5_v6 h0_v6 t_v6 => ?_)
      refine y_iret hK rfl dX6_lane_88 ?_
      exact k _ (by omega)
    · refine r_tableIn (tgt := 89) (off := 78) hC dX6_lane_11 (by omega) (by omega) (by rw [h3]; rfl) rfl ?_
      refine r_aload_n hC dX6_lane_89 rfl ?_
      refine r_iload_n hC dX6_lane_90 rfl ?_
      refine r_iconst hC dX6_lane_91 rfl ?_
      refine z_inv2 hM dX6_lane_92 vl_RX6_80 rfl rfl rfl (Nat.le_of_ble_eq_true rfl) (Nat.le_of_ble_eq_true rfl) ?_
      refine m_of (by omega) (by omega) (fun v7 h_v7 h5_v7 h0_v7 t_v7 => ?_)
      refine y_iret hK rfl dX6_lane_95 ?_
      exact k _ (by omega)
    · refine r_tableIn (tgt := 96) (off := 85) hC dX6_lane_11 (by omega) (by omega) (by rw [h3]; rfl) rfl ?_
      refine r_aload_n hC dX6_lane_96 rfl ?_
      refine r_iload_n hC dX6_lane_97 rfl ?_
      refine z_inv1 hM dX6_lane_98 vl_RX6_116 rfl rfl rfl (Nat.le_of_ble_eq_true rfl) (Nat.le_of_ble_eq_true rfl) ?_
      refine m_heldOf (by omega) (fun v8 h_v8 t_v8 => ?_)
      refine y_iret hK rfl dX6_lane_101 ?_
      exact k _ (by omega)
    · refine r_tableIn (tgt := 102) (off := 91) hC dX6_lane_11 (by omega) (by omega) (by rw [h3]; rfl) rfl ?_
      refine r_aload_n hC dX6_lane_102 rfl ?_
      refine r_iload_n hC dX6_lane_103 rfl ?_
      refine r_bipush hC dX6_lane_104 rfl ?_
      refine z_inv2 hM dX6_lane_106 vl_RX6_80 rfl rfl rfl (Nat.le_of_ble_eq_true rfl) (Nat.le_of_ble_eq_true rfl) ?_
      refine m_of (by omega) (by omega) (fun v9 h_v9 h5_v9 h0_v9 t_v9 => ?_)
      refine y_iret hK rfl dX6_lane_109 ?_
      exact k _ (by omega)
    · refine r_tableIn (tgt := 110) (off := 99) hC dX6_lane_11 (by omega) (by omega) (by rw [h3]; rfl) rfl ?_
      refine r_aload_n hC dX6_lane_110 rfl ?_
      refine r_iload_n hC dX6_lane_111 rfl ?_
      refine r_bipush hC dX6_lane_112 rfl ?_
      refine z_inv2 hM dX6_lane_114 vl_RX6_80 rfl rfl rfl (Nat.le_of_ble_eq_true rfl) (Nat.le_of_ble_eq_true rfl) ?_
      refine m_of (by omega) (by omega) (fun v10 h_v10 h5_v10 h0_v10 t_v10 => ?_)
      refine y_iret hK rfl dX6_lane_117 ?_
      exact k _ (by omega)
    · refine r_tableIn (tgt := 118) (off := 107) hC dX6_lane_11 (by omega) (by omega) (by rw [h3]; rfl) rfl ?_
      refine r_aload_n hC dX6_lane_118 rfl ?_
      refine r_iload_n hC dX6_lane_119 rfl ?_
      refine r_bipush hC dX6_lane_120 rfl ?_
      refine z_inv2 hM dX6_lane_122 vl_RX6_80 rfl rfl rfl (Nat.le_of_ble_eq_true rfl) (Nat.le_of_ble_eq_true rfl) ?_
      refine m_of (by omega) (by omega) (fun v11 h_v11 h5_v11 h0_v11 t_v11 => ?_)
      refine y_iret hK rfl dX6_lane_125 ?_
      exact k _ (by omega)
    · refine r_tableIn (tgt := 126) (off := 115) hC dX6_lane_11 (by omega) (by omega) (by rw [h3]; rfl) rfl ?_
      refine r_aload_n hC dX6_lane_126 rfl ?_
      refine r_iload_n hC dX6_lane_127 rfl ?_
      refine r_bipush hC dX6_lane_128 rfl ?_
      refine z_inv2 hM dX6_lane_130 vl_RX6_80 rfl rfl rfl (Nat.le_of_ble_eq_true rfl) (Nat.le_of_ble_eq_true rfl) ?_
      refine m_of (by omega) (by omega) (fun v12 h_v12 h5_v12 h0_v12 t_v12 => ?_)
      refine y_iret hK rfl dX6_lane_133 ?_
      exact k _ (by omega)
    · refine r_tableIn (tgt := 134) (off := 123) hC dX6_lane_11 (by omega) (by omega) (by rw [h3]; rfl) rfl ?_
      refine r_aload_n hC dX6_lane_134 rfl ?_
      refine r_iload_n hC dX6_lane_135 rfl ?_
      refine r_bipush hC dX6_lane_136 rfl ?_
      refine z_inv2 hM dX6_lane_138 vl_RX6_80 rfl rfl rfl (Nat.le_of_ble_eq_true rfl) (Nat.le_of_ble_eq_true rfl) ?_
      refine m_of (by omega) (by omega) (fun v13 h_v13 h5_v13 h0_v13 t_v13 => ?_)
      refine y_iret hK rfl dX6_lane_141 ?_
      exact k _ (by omega)
    · refine r_tableIn (tgt := 142) (off := 131) hC dX6_lane_11 (by omega) (by omega) (by rw [h3]; rfl) rfl ?_
      refine r_aload_n hC dX6_lane_142 rfl ?_
      refine r_iload_n hC dX6_lane_143 rfl ?_
      refine r_bipush hC dX6_lane_144 rfl ?_
      refine z_inv2 hM dX6_lane_146 vl_RX6_80 rfl rfl rfl (Nat.le_of_ble_eq_true rfl) (Nat.le_of_ble_eq_true rfl) ?_
      refine m_of (by omega) (by omega) (fun v14 h_v14 h5_v14 h0_v14 t_v14 => ?_)
      refine y_iret hK rfl dX6_lane_149 ?_
      exact k _ (by omega)
  · refine r_if_ne (tgt := 10) hC dX6_lane_5 rfl (fun h15 => by omega) (fun h15 => ?_)
    refine r_iconst hC dX6_lane_8 rfl ?_
    refine y_iret hK rfl dX6_lane_9 ?_
    exact k _ (by omega)
theorem m_event {ea eb : Bool} {d : Nat} {P : Option Vl → Mm → Prop} {σ : Mm} {l x w : Int}   (k : ∀ r : Int, -2147483648 ≤ r ∧ r ≤ 2147483647 → P (some (vI r)) σ) : WT (ea, eb, false) (d + 4) 212 [vR 30 0, vI l, vI x, vI w] σ P := by
  refine WT_in fun K hK => ?_
  have hK : StpY (ea, eb, false) cX6_event RX6 (some .int) (WT (ea, eb, false) (d + 3)) P K := hK
  have hM := hK.1
  have hC := hK.1.1
  show K 0 [some (vR 30 0), some (vI l), some (vI x), some (vI w)] [] σ
  refine r_rngz hC (fun g0 => ?_)
  have r_l : -2147483648 ≤ l ∧ l ≤ 2147483647 := inR_le (g0 (vI l) (by simp))
  have r_x : -2147483648 ≤ x ∧ x ≤ 2147483647 := inR_le (g0 (vI x) (by simp))
  have r_w : -2147483648 ≤ w ∧ w ≤ 2147483647 := inR_le (g0 (vI w) (by simp))
  refine r_aload_n hC dX6_event_0 rfl ?_
  refine r_iload_n hC dX6_event_1 rfl ?_
  refine r_iload_n hC dX6_event_2 rfl ?_
  refine z_inv2 hM dX6_event_3 vl_RX6_262 rfl rfl rfl (Nat.le_of_ble_eq_true rfl) (Nat.le_of_ble_eq_true rfl) ?_
  refine m_isEvent (fun h1 x_h1 => ?_) ?_
  · refine r_if_ne (tgt := 12) hC dX6_event_6 rfl (fun h2 => ?_) (fun h2 => by omega)
    refine r_iload_n hC dX6_event_12 rfl ?_
    rcases (by omega : (w < 0 ∨ 2 < w) ∨ w = 0 ∨ w = 1 ∨ w = 2) with h3 | h3 | h3 | h3
    · refine r_tableOut (tgt := 76) hC dX6_event_13 h3 rfl ?_
      refine r_ldc hC dX6_event_76 co_RX6_160 rfl ?_
      refine y_iret hK rfl dX6_event_78 ?_
      exact k _ (by omega)
    · refine r_tableIn (tgt := 40) (off := 27) hC dX6_event_13 (by omega) (by omega) (by rw [h3]; rfl) rfl ?_
      refine r_aload_n hC dX6_event_40 rfl ?_
      refine z_getR hM dX6_event_41 fl_RX6_13 rfl rfl (vld_of (n := 1) rfl (by omega) (by omega)) ?_
      refine r_bipush hC dX6_event_44 rfl ?_
      refine r_iload_n hC dX6_event_46 rfl ?_
      refine r_imulE hC ((121 * l)) dX6_event_47 (by omega) (by unfold inR; omega) ?_
      refine r_iload_n hC dX6_event_48 rfl ?_
      refine r_iaddE hC (((121 * l) + x)) dX6_event_49 (by omega) (by unfold inR; omega) ?_
      refine z_iald hM dX6_event_50 rfl (by omega) (by omega) (fun v4 h_v4 o_v4 t_v4 => ?_)
      refine y_iret hK rfl dX6_event_51 ?_
      exact k _ (by omega)
    · refine r_tableIn (tgt := 52) (off := 39) hC dX6_event_13 (by omega) (by omega) (by rw [h3]; rfl) rfl ?_
      refine r_aload_n hC dX6_event_52 rfl ?_
      refine z_getR hM dX6_event_53 fl_RX6_16 rfl rfl (vld_of (n := 1) rfl (by omega) (by omega)) ?_
      refine r_bipush hC dX6_event_56 rfl ?_
      refine r_iload_n hC dX6_event_58 rfl ?_
      refine r_imulE hC ((121 * l)) dX6_event_59 (by omega) (by unfold inR; omega) ?_
      refine r_iload_n hC dX6_event_60 rfl ?_
      refine r_iaddE hC (((121 * l) + x)) dX6_event_61 (by omega) (by unfold inR; omega) ?_
      refine z_iald hM dX6_event_62 rfl (by omega) (by omega) (fun v5 h_v5 o_v5 t_v5 => ?_)
      refine y_iret hK rfl dX6_event_63 ?_
      exact k _ (by omega)
    · refine r_tableIn (tgt := 64) (off := 51) hC dX6_event_13 (by omega) (by omega) (by rw [h3]; rfl) rfl ?_
      refine r_aload_n hC dX6_event_64 rfl ?_
      refine z_getR hM dX6_event_65 fl_RX6_19 rfl rfl (vld_of (n := 1) rfl (by omega) (by omega)) ?_
      refine r_bipush hC dX6_event_68 rfl ?_
      refine r_iload_n hC dX6_event_70 rfl ?_
      refine r_imulE hC ((121 * l)) dX6_event_71 (by omega) (by unfold inR; omega) ?_
      refine r_iload_n hC dX6_event_72 rfl ?_
      refine r_iaddE hC (((121 * l) + x)) dX6_event_73 (by omega) (by unfold inR; omega) ?_
      refine z_iald hM dX6_event_74 rfl (by omega) (by omega) (fun v6 h_v6 o_v6 t_v6 => ?_)
      refine y_iret hK rfl dX6_event_75 ?_
      exact k _ (by omega)
  · refine r_if_ne (tgt := 12) hC dX6_event_6 rfl (fun h7 => by omega) (fun h7 => ?_)
    refine r_ldc hC dX6_event_9 co_RX6_160 rfl ?_
    refine y_iret hK rfl dX6_event_11 ?_
    exact k _ (by omega)
theorem m_rings {ea eb : Bool} {d : Nat} {P : Option Vl → Mm → Prop} {σ : Mm} {v : Int}   (k : ∀ r : Int, -2147483648 ≤ r ∧ r ≤ 2147483647 → P (some (vI r)) σ) : WT (ea, eb, false) (d + 3) 187 [vR 30 0, vI v] σ P := by
  refine WT_in fun K hK => ?_
  have hK : StpY (ea, eb, false) cX6_rings RX6 (some .int) (WT (ea, eb, false) (d + 2)) P K := hK
  have hM := hK.1
  have hC := hK.1.1
  show K 0 [some (vR 30 0), some (vI v)] [] σ
  refine r_rngz hC (fun g0 => ?_)
  have r_v : -2147483648 ≤ v ∧ v ≤ 2147483647 := inR_le (g0 (vI v) (by simp))
  refine r_aload_n hC dX6_rings_0 rfl ?_
  refine r_iload_n hC dX6_rings_1 rfl ?_
  refine z_inv1 hM dX6_rings_2 vl_RX6_210 rfl rfl rfl (Nat.le_of_ble_eq_true rfl) (Nat.le_of_ble_eq_true rfl) ?_
  refine m_isTold (fun h1 => ?_) ?_
  · refine r_if_eq (tgt := 17) hC dX6_rings_5 rfl (fun h2 => by omega) (fun h2 => ?_)
    refine r_aload_n hC dX6_rings_8 rfl ?_
    refine z_getR hM dX6_rings_9 fl_RX6_46 rfl rfl (vld_of (n := 1) rfl (by omega) (by omega)) ?_
    refine r_iload_n hC dX6_rings_12 rfl ?_
    refine z_iald hM dX6_rings_13 rfl (by omega) (by omega) (fun v3 h_v3 o_v3 t_v3 => ?_)
    refine r_goto (tgt := 18) hC dX6_rings_14 rfl ?_
    refine y_iret hK rfl dX6_rings_18 ?_
    exact k _ (by omega)
  · refine r_if_eq (tgt := 17) hC dX6_rings_5 rfl (fun h4 => ?_) (fun h4 => by omega)
    refine r_iconst hC dX6_rings_17 rfl ?_
    refine y_iret hK rfl dX6_rings_18 ?_
    exact k _ (by omega)
theorem m_rang {ea eb : Bool} {d : Nat} {P : Option Vl → Mm → Prop} {σ : Mm} {v : Int}   (k : ∀ r : Int, -2147483648 ≤ r ∧ r ≤ 2147483647 → P (some (vI r)) σ) : WT (ea, eb, false) (d + 3) 188 [vR 30 0, vI v] σ P := by
  refine WT_in fun K hK => ?_
  have hK : StpY (ea, eb, false) cX6_rang RX6 (some .int) (WT (ea, eb, false) (d + 2)) P K := hK
  have hM := hK.1
  have hC := hK.1.1
  show K 0 [some (vR 30 0), some (vI v)] [] σ
  refine r_rngz hC (fun g0 => ?_)
  have r_v : -2147483648 ≤ v ∧ v ≤ 2147483647 := inR_le (g0 (vI v) (by simp))
  refine r_aload_n hC dX6_rang_0 rfl ?_
  refine r_iload_n hC dX6_rang_1 rfl ?_
  refine z_inv1 hM dX6_rang_2 vl_RX6_210 rfl rfl rfl (Nat.le_of_ble_eq_true rfl) (Nat.le_of_ble_eq_true rfl) ?_
  refine m_isTold (fun h1 => ?_) ?_
  · refine r_if_eq (tgt := 17) hC dX6_rang_5 rfl (fun h2 => by omega) (fun h2 => ?_)
    refine r_aload_n hC dX6_rang_8 rfl ?_
    refine z_getR hM dX6_rang_9 fl_RX6_49 rfl rfl (vld_of (n := 1) rfl (by omega) (by omega)) ?_
    refine r_iload_n hC dX6_rang_12 rfl ?_
    refine z_iald hM dX6_rang_13 rfl (by omega) (by omega) (fun v3 h_v3 o_v3 t_v3 => ?_)
    refine r_goto (tgt := 18) hC dX6_rang_14 rfl ?_
    refine y_iret hK rfl dX6_rang_18 ?_
    exact k _ (by omega)
  · refine r_if_eq (tgt := 17) hC dX6_rang_5 rfl (fun h4 => ?_) (fun h4 => by omega)
    refine r_iconst hC dX6_rang_17 rfl ?_
    refine y_iret hK rfl dX6_rang_18 ?_
    exact k _ (by omega)
theorem m_linked {ea eb : Bool} {d : Nat} {P : Option Vl → Mm → Prop} {σ : Mm} {l w : Int}   (k : ∀ r : Int, -2147483648 ≤ r ∧ r ≤ 2147483647 → P (some (vI r)) σ) : WT (ea, eb, false) (d + 3) 201 [vR 30 0, vI l, vI w] σ P := by
  refine WT_in fun K hK => ?_
  have hK : StpY (ea, eb, false) cX6_linked RX6 (some .int) (WT (ea, eb, false) (d + 2)) P K := hK
  have hM := hK.1
  have hC := hK.1.1
  show K 0 [some (vR 30 0), some (vI l), some (vI w)] [] σ
  refine r_rngz hC (fun g0 => ?_)
  have r_l : -2147483648 ≤ l ∧ l ≤ 2147483647 := inR_le (g0 (vI l) (by simp))
  have r_w : -2147483648 ≤ w ∧ w ≤ 2147483647 := inR_le (g0 (vI w) (by simp))
  refine r_aload_n hC dX6_linked_0 rfl ?_
  refine r_iload_n hC dX6_linked_1 rfl ?_
  refine z_inv1 hM dX6_linked_2 vl_RX6_124 rfl rfl rfl (Nat.le_of_ble_eq_true rfl) (Nat.le_of_ble_eq_true rfl) ?_
  refine m_isLane (fun h1 => ?_) ?_
  · refine r_if_eq (tgt := 17) hC dX6_linked_5 rfl (fun h2 => by omega) (fun h2 => ?_)
    refine r_aload_n hC dX6_linked_8 rfl ?_
    refine z_getR hM dX6_linked_9 fl_RX6_52 rfl rfl (vld_of (n := 1) rfl (by omega) (by omega)) ?_
    refine r_iload_n hC dX6_linked_12 rfl ?_
    refine z_iald hM dX6_linked_13 rfl (by omega) (by omega) (fun v3 h_v3 o_v3 t_v3 => ?_)
    have q_v3 : -1 ≤ v3 ∧ v3 ≤ 3 := o_v3
    refine r_if_ge (tgt := 19) hC dX6_linked_14 rfl (fun h4 => ?_) (fun h4 => ?_)
    · refine r_iload_n hC dX6_linked_19 rfl ?_
      rcases (by omega : (w < 0 ∨ 3 < w) ∨ w = 0 ∨ w = 1 ∨ w = 2 ∨ w = 3) with h5 | h5 | h5 | h5 | h5
      · refine r_tableOut (tgt := 80) hC dX6_linked_20 h5 rfl ?_
        refine r_iconst hC dX6_linked_80 rfl ?_
        refine y_iret hK rfl dX6_linked_81 ?_
        exact k _ (by omega)
      · refine r_tableIn (tgt := 52) (off := 32) hC dX6_linked_20 (by omega) (by omega) (by rw [h5]; rfl) rfl ?_
        refine r_aload_n hC dX6_linked_52 rfl ?_
        refine z_getR hM dX6_linked_53 fl_RX6_52 rfl rfl (vld_of (n := 1) rfl (by omega) (by omega)) ?_
        refine r_iload_n hC dX6_linked_56 rfl ?_
        refine z_iald hM dX6_linked_57 rfl (by omega) (by omega) (fun v6 h_v6 o_v6 t_v6 => ?_)
        have q_v6 : -1 ≤ v6 ∧ v6 ≤ 3 := o_v6
        refine y_iret hK rfl dX6_linked_58 ?_
        exact k _ (by omega)
      · refine r_tableIn (tgt := 59) (off := 39) hC dX6_linked_20 (by omega) (by omega) (by rw [h5]; rfl) rfl ?_
        refine r_aload_n hC dX6_linked_59 rfl ?_
        refine z_getR hM dX6_linked_60 fl_RX6_55 rfl rfl (vld_of (n := 1) rfl (by omega) (by omega)) ?_
        refine r_iload_n hC dX6_linked_63 rfl ?_
        refine z_iald hM dX6_linked_64 rfl (by omega) (by omega) (fun v7 h_v7 o_v7 t_v7 => ?_)
        refine y_iret hK rfl dX6_linked_65 ?_
        exact k _ (by omega)
      · refine r_tableIn (tgt := 66) (off := 46) hC dX6_linked_20 (by omega) (by omega) (by rw [h5]; rfl) rfl ?_
        refine r_aload_n hC dX6_linked_66 rfl ?_
        refine z_getR hM dX6_linked_67 fl_RX6_58 rfl rfl (vld_of (n := 1) rfl (by omega) (by omega)) ?_
        refine r_iload_n hC dX6_linked_70 rfl ?_
        refine z_iald hM dX6_linked_71 rfl (by omega) (by omega) (fun v8 h_v8 o_v8 t_v8 => ?_)
        have q_v8 : 0 ≤ v8 ∧ v8 ≤ 6 := o_v8
        refine y_iret hK rfl dX6_linked_72 ?_
        exact k _ (by omega)
      · refine r_tableIn (tgt := 73) (off := 53) hC dX6_linked_20 (by omega) (by omega) (by rw [h5]; rfl) rfl ?_
        refine r_aload_n hC dX6_linked_73 rfl ?_
        refine z_getR hM dX6_linked_74 fl_RX6_61 rfl rfl (vld_of (n := 1) rfl (by omega) (by omega)) ?_
        refine r_iload_n hC dX6_linked_77 rfl ?_
        refine z_iald hM dX6_linked_78 rfl (by omega) (by omega) (fun v9 h_v9 o_v9 t_v9 => ?_)
        refine y_iret hK rfl dX6_linked_79 ?_
        exact k _ (by omega)
    · refine r_iconst hC dX6_linked_17 rfl ?_
      refine y_iret hK rfl dX6_linked_18 ?_
      exact k _ (by omega)
  · refine r_if_eq (tgt := 17) hC dX6_linked_5 rfl (fun h10 => ?_) (fun h10 => by omega)
    refine r_iconst hC dX6_linked_17 rfl ?_
    refine y_iret hK rfl dX6_linked_18 ?_
    exact k _ (by omega)
theorem m_openLanes {ea eb : Bool} {d : Nat} {P : Option Vl → Mm → Prop} {σ : Mm}   (k : ∀ r : Int, -2147483648 ≤ r ∧ r ≤ 2147483647 → P (some (vI r)) σ) : WT (ea, eb, false) (d + 2) 175 [vR 30 0] σ P := by
  refine WT_in fun K hK => ?_
  have hK : StpY (ea, eb, false) cX6_openLanes RX6 (some .int) (WT (ea, eb, false) (d + 1)) P K := hK
  have hM := hK.1
  have hC := hK.1.1
  show K 0 [some (vR 30 0), none, none] [] σ
  refine r_iconst hC dX6_openLanes_0 rfl ?_
  refine r_istore_n hC dX6_openLanes_1 rfl ?_
  refine r_iconst hC dX6_openLanes_2 rfl ?_
  refine r_istore_n hC dX6_openLanes_3 rfl ?_
  have L4 : ∀ (n4 : Nat) (w1 w2 : Int), -2147483648 ≤ w1 ∧ w1 ≤ 2147483647 → 0 ≤ w2 ∧ w2 ≤ 4 → 4 - w2 < (n4 : Int) → K 4 [some (vR 30 0), some (vI w1), some (vI w2)] [] σ := by
    intro n4
    induction n4 with
    | zero => intro w1 w2  f_w1 f_w2  hm ; omega
    | succ n4 ih4 =>
      intro w1 w2  f_w1 f_w2  hm4 
      refine r_iload_n hC dX6_openLanes_4 rfl ?_
      refine r_iconst hC dX6_openLanes_5 rfl ?_
      refine r_icmp_ge (tgt := 24) hC dX6_openLanes_6 rfl (fun h3 => ?_) (fun h3 => ?_)
      · refine r_iload_n hC dX6_openLanes_24 rfl ?_
        refine y_iret hK rfl dX6_openLanes_25 ?_
        exact k _ (by omega)
      · refine r_iload_n hC dX6_openLanes_9 rfl ?_
        refine r_aload_n hC dX6_openLanes_10 rfl ?_
        refine r_iload_n hC dX6_openLanes_11 rfl ?_
        refine r_iconst hC dX6_openLanes_12 rfl ?_
        refine z_inv2 hM dX6_openLanes_13 vl_RX6_80 rfl rfl rfl (Nat.le_of_ble_eq_true rfl) (Nat.le_of_ble_eq_true rfl) ?_
        refine m_of (by omega) (by omega) (fun v4 h_v4 h5_v4 h0_v4 t_v4 => ?_)
        have q_v4 := h0_v4 rfl
        refine r_iaddG hC dX6_openLanes_16 (fun v5 h_v5 => ?_)
        refine r_istore_n hC dX6_openLanes_17 rfl ?_
        refine r_iincE hC ((w2 + 1)) dX6_openLanes_18 rfl rfl (by omega) (by unfold inR; omega) ?_
        refine r_goto (tgt := 4) hC dX6_openLanes_21 rfl ?_
        exact ih4 (v5) ((w2 + 1))  (by omega) (by omega)  (by omega) 
  exact L4 6 (0) (0)  (by omega) (by omega)  (by omega) 
theorem m_sumOf {ea eb : Bool} {d : Nat} {P : Option Vl → Mm → Prop} {σ : Mm} {f : Int} (b_f : 0 ≤ f ∧ f ≤ 21)  (k : ∀ r : Int, -2147483648 ≤ r ∧ r ≤ 2147483647 → P (some (vI r)) σ) : WT (ea, eb, false) (d + 2) 256 [vR 30 0, vI f] σ P := by
  refine WT_in fun K hK => ?_
  have hK : StpY (ea, eb, false) cX6_sumOf RX6 (some .int) (WT (ea, eb, false) (d + 1)) P K := hK
  have hM := hK.1
  have hC := hK.1.1
  show K 0 [some (vR 30 0), some (vI f), none, none] [] σ
  refine r_iconst hC dX6_sumOf_0 rfl ?_
  refine r_istore_n hC dX6_sumOf_1 rfl ?_
  refine r_iconst hC dX6_sumOf_2 rfl ?_
  refine r_istore_n hC dX6_sumOf_3 rfl ?_
  have L4 : ∀ (n4 : Nat) (w1 w2 : Int), -2147483648 ≤ w1 ∧ w1 ≤ 2147483647 → 0 ≤ w2 ∧ w2 ≤ 4 → 4 - w2 < (n4 : Int) → K 4 [some (vR 30 0), some (vI f), some (vI w1), some (vI w2)] [] σ := by
    intro n4
    induction n4 with
    | zero => intro w1 w2  f_w1 f_w2  hm ; omega
    | succ n4 ih4 =>
      intro w1 w2  f_w1 f_w2  hm4 
      refine r_iload_n hC dX6_sumOf_4 rfl ?_
      refine r_iconst hC dX6_sumOf_5 rfl ?_
      refine r_icmp_ge (tgt := 38) hC dX6_sumOf_6 rfl (fun h3 => ?_) (fun h3 => ?_)
      · refine r_iload_n hC dX6_sumOf_38 rfl ?_
        refine y_iret hK rfl dX6_sumOf_39 ?_
        exact k _ (by omega)
      · refine r_iload_n hC dX6_sumOf_9 rfl ?_
        refine r_aload_n hC dX6_sumOf_10 rfl ?_
        refine r_iload_n hC dX6_sumOf_11 rfl ?_
        refine r_iconst hC dX6_sumOf_12 rfl ?_
        refine z_inv2 hM dX6_sumOf_13 vl_RX6_80 rfl rfl rfl (Nat.le_of_ble_eq_true rfl) (Nat.le_of_ble_eq_true rfl) ?_
        refine m_of (by omega) (by omega) (fun v4 h_v4 h5_v4 h0_v4 t_v4 => ?_)
        have q_v4 := h0_v4 rfl
        refine r_iconst hC dX6_sumOf_16 rfl ?_
        have J30_6 : ∀ (w6 : Int), -2147483648 ≤ w6 ∧ w6 ≤ 2147483647 → K 30 [some (vR 30 0), some (vI f), some (vI w1), some (vI w2)] [vI w6, vI w1] σ := by
          intro w6  f_w6 
          refine r_iaddG hC dX6_sumOf_30 (fun v8 h_v8 => ?_)
          refine r_istore_n hC dX6_sumOf_31 rfl ?_
          refine r_iincE hC ((w2 + 1)) dX6_sumOf_32 rfl rfl (by omega) (by unfold inR; omega) ?_
          refine r_goto (tgt := 4) hC dX6_sumOf_35 rfl ?_
          exact ih4 (v8) ((w2 + 1))  (by omega) (by omega)  (by omega) 
        refine r_icmp_ne (tgt := 29) hC dX6_sumOf_17 rfl (fun h5 => ?_) (fun h5 => ?_)
        · refine r_iconst hC dX6_sumOf_29 rfl ?_
          exact J30_6 (0)  (by omega) 
        · refine r_aload_n hC dX6_sumOf_20 rfl ?_
          refine r_iload_n hC dX6_sumOf_21 rfl ?_
          refine r_iload_n hC dX6_sumOf_22 rfl ?_
          refine z_inv2 hM dX6_sumOf_23 vl_RX6_80 rfl rfl rfl (Nat.le_of_ble_eq_true rfl) (Nat.le_of_ble_eq_true rfl) ?_
          refine m_of (by omega) (by omega) (fun v9 h_v9 h5_v9 h0_v9 t_v9 => ?_)
          refine r_goto (tgt := 30) hC dX6_sumOf_26 rfl ?_
          exact J30_6 (v9)  (by omega) 
  exact L4 6 (0) (0)  (by omega) (by omega)  (by omega) 
theorem m_boxesNow {ea eb : Bool} {d : Nat} {P : Option Vl → Mm → Prop} {σ : Mm}   (k : ∀ r : Int, -2147483648 ≤ r ∧ r ≤ 2147483647 → P (some (vI r)) σ) : WT (ea, eb, false) (d + 2) 257 [vR 30 0] σ P := by
  refine WT_in fun K hK => ?_
  have hK : StpY (ea, eb, false) cX6_boxesNow RX6 (some .int) (WT (ea, eb, false) (d + 1)) P K := hK
  have hM := hK.1
  have hC := hK.1.1
  show K 0 [some (vR 30 0), none, none] [] σ
  refine r_iconst hC dX6_boxesNow_0 rfl ?_
  refine r_istore_n hC dX6_boxesNow_1 rfl ?_
  refine r_iconst hC dX6_boxesNow_2 rfl ?_
  refine r_istore_n hC dX6_boxesNow_3 rfl ?_
  have L4 : ∀ (n4 : Nat) (w1 w2 : Int), -2147483648 ≤ w1 ∧ w1 ≤ 2147483647 → 0 ≤ w2 ∧ w2 ≤ 3 → 3 - w2 < (n4 : Int) → K 4 [some (vR 30 0), some (vI w1), some (vI w2)] [] σ := by
    intro n4
    induction n4 with
    | zero => intro w1 w2  f_w1 f_w2  hm ; omega
    | succ n4 ih4 =>
      intro w1 w2  f_w1 f_w2  hm4 
      refine r_iload_n hC dX6_boxesNow_4 rfl ?_
      refine r_iconst hC dX6_boxesNow_5 rfl ?_
      refine r_icmp_ge (tgt := 26) hC dX6_boxesNow_6 rfl (fun h3 => ?_) (fun h3 => ?_)
      · refine r_iload_n hC dX6_boxesNow_26 rfl ?_
        refine y_iret hK rfl dX6_boxesNow_27 ?_
        exact k _ (by omega)
      · refine r_iload_n hC dX6_boxesNow_9 rfl ?_
        refine r_aload_n hC dX6_boxesNow_10 rfl ?_
        refine r_iconst hC dX6_boxesNow_11 rfl ?_
        refine r_iload_n hC dX6_boxesNow_12 rfl ?_
        refine r_iaddE hC ((w2 + 4)) dX6_boxesNow_13 (by omega) (by unfold inR; omega) ?_
        refine r_iconst hC dX6_boxesNow_14 rfl ?_
        refine z_inv2 hM dX6_boxesNow_15 vl_RX6_80 rfl rfl rfl (Nat.le_of_ble_eq_true rfl) (Nat.le_of_ble_eq_true rfl) ?_
        refine m_of (by omega) (by omega) (fun v4 h_v4 h5_v4 h0_v4 t_v4 => ?_)
        have q_v4 := h0_v4 rfl
        refine r_iaddG hC dX6_boxesNow_18 (fun v5 h_v5 => ?_)
        refine r_istore_n hC dX6_boxesNow_19 rfl ?_
        refine r_iincE hC ((w2 + 1)) dX6_boxesNow_20 rfl rfl (by omega) (by unfold inR; omega) ?_
        refine r_goto (tgt := 4) hC dX6_boxesNow_23 rfl ?_
        exact ih4 (v5) ((w2 + 1))  (by omega) (by omega)  (by omega) 
  exact L4 5 (0) (0)  (by omega) (by omega)  (by omega) 
theorem m_toldNow {ea eb : Bool} {d : Nat} {P : Option Vl → Mm → Prop} {σ : Mm} {z : Int}   (k : ∀ r : Int, -2147483648 ≤ r ∧ r ≤ 2147483647 → P (some (vI r)) σ) : WT (ea, eb, false) (d + 3) 258 [vR 30 0, vI z] σ P := by
  refine WT_in fun K hK => ?_
  have hK : StpY (ea, eb, false) cX6_toldNow RX6 (some .int) (WT (ea, eb, false) (d + 2)) P K := hK
  have hM := hK.1
  have hC := hK.1.1
  show K 0 [some (vR 30 0), some (vI z), none, none] [] σ
  refine r_rngz hC (fun g0 => ?_)
  have r_z : -2147483648 ≤ z ∧ z ≤ 2147483647 := inR_le (g0 (vI z) (by simp))
  refine r_iconst hC dX6_toldNow_0 rfl ?_
  refine r_istore_n hC dX6_toldNow_1 rfl ?_
  refine r_iconst hC dX6_toldNow_2 rfl ?_
  refine r_istore_n hC dX6_toldNow_3 rfl ?_
  have L4 : ∀ (n4 : Nat) (w1 w2 : Int), -2147483648 ≤ w1 ∧ w1 ≤ 2147483647 → 0 ≤ w2 ∧ w2 ≤ 8 → 8 - w2 < (n4 : Int) → K 4 [some (vR 30 0), some (vI z), some (vI w1), some (vI w2)] [] σ := by
    intro n4
    induction n4 with
    | zero => intro w1 w2  f_w1 f_w2  hm ; omega
    | succ n4 ih4 =>
      intro w1 w2  f_w1 f_w2  hm4 
      refine r_iload_n hC dX6_toldNow_4 rfl ?_
      refine r_bipush hC dX6_toldNow_5 rfl ?_
      refine r_icmp_ge (tgt := 41) hC dX6_toldNow_7 rfl (fun h3 => ?_) (fun h3 => ?_)
      · refine r_iload_n hC dX6_toldNow_41 rfl ?_
        refine y_iret hK rfl dX6_toldNow_42 ?_
        exact k _ (by omega)
      · refine r_aload_n hC dX6_toldNow_10 rfl ?_
        refine r_iload_n hC dX6_toldNow_11 rfl ?_
        refine z_inv1 hM dX6_toldNow_12 vl_RX6_210 rfl rfl rfl (Nat.le_of_ble_eq_true rfl) (Nat.le_of_ble_eq_true rfl) ?_
        refine m_isTold (fun h4 => ?_) ?_
        · refine r_if_eq (tgt := 35) hC dX6_toldNow_15 rfl (fun h5 => by omega) (fun h5 => ?_)
          refine r_iload_n hC dX6_toldNow_18 rfl ?_
          refine r_iload_n hC dX6_toldNow_19 rfl ?_
          have J33_7 : ∀ (w7 : Int), -2147483648 ≤ w7 ∧ w7 ≤ 2147483647 → K 33 [some (vR 30 0), some (vI z), some (vI w1), some (vI w2)] [vI w7, vI w1] σ := by
            intro w7  f_w7 
            refine r_iaddG hC dX6_toldNow_33 (fun v9 h_v9 => ?_)
            refine r_istore_n hC dX6_toldNow_34 rfl ?_
            refine r_iincE hC ((w2 + 1)) dX6_toldNow_35 rfl rfl (by omega) (by unfold inR; omega) ?_
            refine r_goto (tgt := 4) hC dX6_toldNow_38 rfl ?_
            exact ih4 (v9) ((w2 + 1))  (by omega) (by omega)  (by omega) 
          refine r_if_eq (tgt := 32) hC dX6_toldNow_20 rfl (fun h6 => ?_) (fun h6 => ?_)
          · refine r_iconst hC dX6_toldNow_32 rfl ?_
            exact J33_7 (1)  (by omega) 
          · refine r_aload_n hC dX6_toldNow_23 rfl ?_
            refine z_getR hM dX6_toldNow_24 fl_RX6_46 rfl rfl (vld_of (n := 1) rfl (by omega) (by omega)) ?_
            refine r_iload_n hC dX6_toldNow_27 rfl ?_
            refine z_iald hM dX6_toldNow_28 rfl (by omega) (by omega) (fun v10 h_v10 o_v10 t_v10 => ?_)
            refine r_goto (tgt := 33) hC dX6_toldNow_29 rfl ?_
            exact J33_7 (v10)  (by omega) 
        · refine r_if_eq (tgt := 35) hC dX6_toldNow_15 rfl (fun h11 => ?_) (fun h11 => by omega)
          refine r_iincE hC ((w2 + 1)) dX6_toldNow_35 rfl rfl (by omega) (by unfold inR; omega) ?_
          refine r_goto (tgt := 4) hC dX6_toldNow_38 rfl ?_
          exact ih4 (w1) ((w2 + 1))  (by omega) (by omega)  (by omega) 
  exact L4 10 (0) (0)  (by omega) (by omega)  (by omega) 
theorem m_linksNow {ea eb : Bool} {d : Nat} {P : Option Vl → Mm → Prop} {σ : Mm}   (k : ∀ r : Int, -2147483648 ≤ r ∧ r ≤ 2147483647 → P (some (vI r)) σ) : WT (ea, eb, false) (d + 1) 259 [vR 30 0] σ P := by
  refine WT_in fun K hK => ?_
  have hK : StpY (ea, eb, false) cX6_linksNow RX6 (some .int) (WT (ea, eb, false) (d + 0)) P K := hK
  have hM := hK.1
  have hC := hK.1.1
  show K 0 [some (vR 30 0), none, none] [] σ
  refine r_iconst hC dX6_linksNow_0 rfl ?_
  refine r_istore_n hC dX6_linksNow_1 rfl ?_
  refine r_iconst hC dX6_linksNow_2 rfl ?_
  refine r_istore_n hC dX6_linksNow_3 rfl ?_
  have L4 : ∀ (n4 : Nat) (w1 w2 : Int), -2147483648 ≤ w1 ∧ w1 ≤ 2147483647 → 0 ≤ w2 ∧ w2 ≤ 4 → 4 - w2 < (n4 : Int) → K 4 [some (vR 30 0), some (vI w1), some (vI w2)] [] σ := by
    intro n4
    induction n4 with
    | zero => intro w1 w2  f_w1 f_w2  hm ; omega
    | succ n4 ih4 =>
      intro w1 w2  f_w1 f_w2  hm4 
      refine r_iload_n hC dX6_linksNow_4 rfl ?_
      refine r_iconst hC dX6_linksNow_5 rfl ?_
      refine r_icmp_ge (tgt := 32) hC dX6_linksNow_6 rfl (fun h3 => ?_) (fun h3 => ?_)
      · refine r_iload_n hC dX6_linksNow_32 rfl ?_
        refine y_iret hK rfl dX6_linksNow_33 ?_
        exact k _ (by omega)
      · refine r_iload_n hC dX6_linksNow_9 rfl ?_
        refine r_aload_n hC dX6_linksNow_10 rfl ?_
        refine z_getR hM dX6_linksNow_11 fl_RX6_52 rfl rfl (vld_of (n := 1) rfl (by omega) (by omega)) ?_
        refine r_iload_n hC dX6_linksNow_14 rfl ?_
        refine z_iald hM dX6_linksNow_15 rfl (by omega) (by omega) (fun v4 h_v4 o_v4 t_v4 => ?_)
        have q_v4 : -1 ≤ v4 ∧ v4 ≤ 3 := o_v4
        have J24_6 : ∀ (w6 : Int), 0 ≤ w6 ∧ w6 ≤ 1 → K 24 [some (vR 30 0), some (vI w1), some (vI w2)] [vI w6, vI w1] σ := by
          intro w6  f_w6 
          refine r_iaddG hC dX6_linksNow_24 (fun v8 h_v8 => ?_)
          refine r_istore_n hC dX6_linksNow_25 rfl ?_
          refine r_iincE hC ((w2 + 1)) dX6_linksNow_26 rfl rfl (by omega) (by unfold inR; omega) ?_
          refine r_goto (tgt := 4) hC dX6_linksNow_29 rfl ?_
          exact ih4 (v8) ((w2 + 1))  (by omega) (by omega)  (by omega) 
        refine r_if_lt (tgt := 23) hC dX6_linksNow_16 rfl (fun h5 => ?_) (fun h5 => ?_)
        · refine r_iconst hC dX6_linksNow_23 rfl ?_
          exact J24_6 (0)  (by omega) 
        · refine r_iconst hC dX6_linksNow_19 rfl ?_
          refine r_goto (tgt := 24) hC dX6_linksNow_20 rfl ?_
          exact J24_6 (1)  (by omega) 
  exact L4 6 (0) (0)  (by omega) (by omega)  (by omega) 
theorem m_about {ea eb : Bool} {d : Nat} {P : Option Vl → Mm → Prop} {σ : Mm} {w : Int}   (k : ∀ r : Int, -2147483648 ≤ r ∧ r ≤ 2147483647 → P (some (vI r)) σ) : WT (ea, eb, false) (d + 4) 260 [vR 30 0, vI w] σ P := by
  refine WT_in fun K hK => ?_
  have hK : StpY (ea, eb, false) cX6_about RX6 (some .int) (WT (ea, eb, false) (d + 3)) P K := hK
  have hM := hK.1
  have hC := hK.1.1
  show K 0 [some (vR 30 0), some (vI w)] [] σ
  refine r_rngz hC (fun g0 => ?_)
  have r_w : -2147483648 ≤ w ∧ w ≤ 2147483647 := inR_le (g0 (vI w) (by simp))
  refine r_iload_n hC dX6_about_0 rfl ?_
  rcases (by omega : (w < 0 ∨ 6 < w) ∨ w = 0 ∨ w = 1 ∨ w = 2 ∨ w = 3 ∨ w = 4 ∨ w = 5 ∨ w = 6) with h1 | h1 | h1 | h1 | h1 | h1 | h1 | h1
  · refine r_tableOut (tgt := 84) hC dX6_about_1 h1 rfl ?_
    refine r_iconst hC dX6_about_84 rfl ?_
    refine y_iret hK rfl dX6_about_85 ?_
    exact k _ (by omega)
  · refine r_tableIn (tgt := 44) (off := 43) hC dX6_about_1 (by omega) (by omega) (by rw [h1]; rfl) rfl ?_
    refine r_aload_n hC dX6_about_44 rfl ?_
    refine z_inv0 hM dX6_about_45 vl_RX6_182 rfl rfl rfl (Nat.le_of_ble_eq_true rfl) (Nat.le_of_ble_eq_true rfl) ?_
    refine m_openLanes (fun v2 h_v2 => ?_)
    refine y_iret hK rfl dX6_about_48 ?_
    exact k _ (by omega)
  · refine r_tableIn (tgt := 49) (off := 48) hC dX6_about_1 (by omega) (by omega) (by rw [h1]; rfl) rfl ?_
    refine r_aload_n hC dX6_about_49 rfl ?_
    refine r_iconst hC dX6_about_50 rfl ?_
    refine z_inv1 hM dX6_about_51 vl_RX6_307 rfl rfl rfl (Nat.le_of_ble_eq_true rfl) (Nat.le_of_ble_eq_true rfl) ?_
    refine m_sumOf (by omega) (fun v3 h_v3 => ?_)
    refine y_iret hK rfl dX6_about_54 ?_
    exact k _ (by omega)
  · refine r_tableIn (tgt := 55) (off := 54) hC dX6_about_1 (by omega) (by omega) (by rw [h1]; rfl) rfl ?_
    refine r_aload_n hC dX6_about_55 rfl ?_
    refine r_bipush hC dX6_about_56 rfl ?_
    refine z_inv1 hM dX6_about_58 vl_RX6_307 rfl rfl rfl (Nat.le_of_ble_eq_true rfl) (Nat.le_of_ble_eq_true rfl) ?_
    refine m_sumOf (by omega) (fun v4 h_v4 => ?_)
    refine y_iret hK rfl dX6_about_61 ?_
    exact k _ (by omega)
  · refine r_tableIn (tgt := 62) (off := 61) hC dX6_about_1 (by omega) (by omega) (by rw [h1]; rfl) rfl ?_
    refine r_aload_n hC dX6_about_62 rfl ?_
    refine r_iconst hC dX6_about_63 rfl ?_
    refine z_inv1 hM dX6_about_64 vl_RX6_310 rfl rfl rfl (Nat.le_of_ble_eq_true rfl) (Nat.le_of_ble_eq_true rfl) ?_
    refine m_toldNow (fun v5 h_v5 => ?_)
    refine y_iret hK rfl dX6_about_67 ?_
    exact k _ (by omega)
  · refine r_tableIn (tgt := 68) (off := 67) hC dX6_about_1 (by omega) (by omega) (by rw [h1]; rfl) rfl ?_
    refine r_aload_n hC dX6_about_68 rfl ?_
    refine z_inv0 hM dX6_about_69 vl_RX6_314 rfl rfl rfl (Nat.le_of_ble_eq_true rfl) (Nat.le_of_ble_eq_true rfl) ?_
    refine m_boxesNow (fun v6 h_v6 => ?_)
    refine y_iret hK rfl dX6_about_72 ?_
    exact k _ (by omega)
  · refine r_tableIn (tgt := 73) (off := 72) hC dX6_about_1 (by omega) (by omega) (by rw [h1]; rfl) rfl ?_
    refine r_aload_n hC dX6_about_73 rfl ?_
    refine r_iconst hC dX6_about_74 rfl ?_
    refine z_inv1 hM dX6_about_75 vl_RX6_310 rfl rfl rfl (Nat.le_of_ble_eq_true rfl) (Nat.le_of_ble_eq_true rfl) ?_
    refine m_toldNow (fun v7 h_v7 => ?_)
    refine y_iret hK rfl dX6_about_78 ?_
    exact k _ (by omega)
  · refine r_tableIn (tgt := 79) (off := 78) hC dX6_about_1 (by omega) (by omega) (by rw [h1]; rfl) rfl ?_
    refine r_aload_n hC dX6_about_79 rfl ?_
    refine z_inv0 hM dX6_about_80 vl_RX6_317 rfl rfl rfl (Nat.le_of_ble_eq_true rfl) (Nat.le_of_ble_eq_true rfl) ?_
    refine m_linksNow (fun v8 h_v8 => ?_)
    refine y_iret hK rfl dX6_about_83 ?_
    exact k _ (by omega)
theorem m_reachedNow_S {ea eb : Bool} {d : Nat} {P : Option Vl → Mm → Prop} {σ : Mm} {l w b n : Int} (b_l : 0 ≤ l ∧ l ≤ 7) (b_w : 0 ≤ w ∧ w ≤ 6) (qg0 : σ 30 0 8 = n)  (k : ∀ (r : Int) (ρ : Mm), Gx (fun c x y => c = 37 ∨ c = 30 ∧ y = 8) σ ρ → (-2147483648 ≤ r ∧ r ≤ 2147483647) → P (some (vI r)) ρ) : WT (ea, eb, true) (d + 5) 184 [vR 30 0, vI l, vI w, vI b] σ P := by
  refine WT_in fun K hK => ?_
  have hK : StpY (ea, eb, true) cX6_reachedNow RX6 (some .int) (WT (ea, eb, true) (d + 4)) P K := hK
  have hM := hK.1
  have hC := hK.1.1
  show K 0 [some (vR 30 0), some (vI l), some (vI w), some (vI b)] [] σ
  refine r_rngz hC (fun g0 => ?_)
  have r_b : -2147483648 ≤ b ∧ b ≤ 2147483647 := inR_le (g0 (vI b) (by simp))
  refine r_aload_n hC dX6_reachedNow_0 rfl ?_
  refine r_iload_n hC dX6_reachedNow_1 rfl ?_
  refine z_inv1 hM dX6_reachedNow_2 vl_RX6_194 rfl rfl rfl (Nat.le_of_ble_eq_true rfl) (Nat.le_of_ble_eq_true rfl) ?_
  refine m_layAll (by omega) rfl (fun ρ1 g_ρ1 b_ρ1 t_ρ1 => ?_)
  obtain ⟨n2, q_ρ1⟩ : ∃ v, ρ1 30 0 8 = v := ⟨_, rfl⟩
  have b_n2 : 0 ≤ n2 ∧ n2 ≤ 121 := by omega
  refine r_aload_n hC dX6_reachedNow_5 rfl ?_
  refine r_aload_n hC dX6_reachedNow_6 rfl ?_
  refine r_iload_n hC dX6_reachedNow_7 rfl ?_
  refine r_iconst hC dX6_reachedNow_8 rfl ?_
  refine z_inv2 hM dX6_reachedNow_9 vl_RX6_80 rfl rfl rfl (Nat.le_of_ble_eq_true rfl) (Nat.le_of_ble_eq_true rfl) ?_
  refine m_of (by omega) (by omega) (fun v3 h_v3 h5_v3 h0_v3 t_v3 => ?_)
  refine r_iload_n hC dX6_reachedNow_12 rfl ?_
  refine z_inv2 hM dX6_reachedNow_13 vl_RX6_197 rfl rfl rfl (Nat.le_of_ble_eq_true rfl) (Nat.le_of_ble_eq_true rfl) ?_
  refine m_comes (n := n2) (by omega) (by omega) (by have hq := q_ρ1; omega) (fun v4 h_v4 => ?_)
  refine r_iload_n hC dX6_reachedNow_16 rfl ?_
  refine z_ins2 hM dX6_reachedNow_17 tl_RX6_200 rfl (Nat.le_of_ble_eq_true rfl) (Nat.le_of_ble_eq_true rfl) ?_
  refine m_isReached (fun v5 h_v5 => ?_)
  have J28_7 : ∀ (w7 : Int), ∀ (ρ9 : Mm), 0 ≤ w7 ∧ w7 ≤ 1 → Gx (fun c x y => c = 37 ∨ c = 30 ∧ y = 8) σ ρ9 → ρ9 30 0 8 = n2 → K 28 [some (vR 30 0), some (vI l), some (vI w), some (vI b)] [vI w7] ρ9 := by
    intro w7 ρ9 f_w7 g_ρ9 q0_ρ9
    refine y_iret hK rfl dX6_reachedNow_28 ?_
    exact k _ _ (g_ρ9) (by omega)
  refine r_if_eq (tgt := 27) hC dX6_reachedNow_20 rfl (fun h6 => ?_) (fun h6 => ?_)
  · refine r_iconst hC dX6_reachedNow_27 rfl ?_
    exact J28_7 (0) ρ1 (by omega) (Gx.gx (Gx.rf) g_ρ1 (fun _ _ _ h => h)) (by have hq := q_ρ1; omega)
  · refine r_iconst hC dX6_reachedNow_23 rfl ?_
    refine r_goto (tgt := 28) hC dX6_reachedNow_24 rfl ?_
    exact J28_7 (1) ρ1 (by omega) (Gx.gx (Gx.rf) g_ρ1 (fun _ _ _ h => h)) (by have hq := q_ρ1; omega)
theorem m_reachedNow {ea eb : Bool} {d : Nat} {P : Option Vl → Mm → Prop} {σ : Mm} {l w b : Int} (b_l : 0 ≤ l ∧ l ≤ 7) (b_w : 0 ≤ w ∧ w ≤ 6) (k : ∀ r : Int, -2147483648 ≤ r ∧ r ≤ 2147483647 → P (some (vI r)) σ) : WT (ea, eb, false) (d + 5) 184 [vR 30 0, vI l, vI w, vI b] σ P := by
  refine WT_loose (ea, eb, true) (fun h => h) (fun h => h) (fun c j q => ?_) (fun ρ hL hF hT hO => ?_)
  · rcases q with q | q | q | q
    · exact Or.inl q
    · exact Or.inr (Or.inl q)
    · exact Or.inr (Or.inr (Or.inl q))
    · cases q.1
  · refine m_reachedNow_S b_l b_w (qg0 := rfl) (fun r ρ2 g hr => ⟨σ, k r hr, fun h => Or.inl h, fun h => Or.inl h, fun c i j q => ?_⟩)
    refine (g c i j ?_).trans (hT c i j q)
    rintro (rfl | ⟨rfl, rfl⟩)
    all_goals
      rcases q with q | q | q | q
      · exact q
      · exact q.2
      · exact q.2
      · cases q.1
theorem m_look {ea eb : Bool} {d : Nat} {P : Option Vl → Mm → Prop} {σ : Mm} {l : Int} (b_l : 0 ≤ l ∧ l ≤ 7)  (k : P none σ) : WT (ea, eb, false) (d + 6) 185 [vR 30 0, vI l] σ P := by
  refine WT_in fun K hK => ?_
  have hK : StpY (ea, eb, false) cX6_look RX6 (none) (WT (ea, eb, false) (d + 5)) P K := hK
  have hM := hK.1
  have hC := hK.1.1
  show K 0 [some (vR 30 0), some (vI l), none, none] [] σ
  refine r_iconst hC dX6_look_0 rfl ?_
  refine r_istore_n hC dX6_look_1 rfl ?_
  have L2 : ∀ (n2 : Nat) (w1 : Int), 0 ≤ w1 ∧ w1 ≤ 8 → 8 - w1 < (n2 : Int) → K 2 [some (vR 30 0), some (vI l), some (vI w1), none] [] σ := by
    intro n2
    induction n2 with
    | zero => intro w1  f_w1  hm ; omega
    | succ n2 ih2 =>
      intro w1  f_w1  hm2 
      refine r_iload_n hC dX6_look_2 rfl ?_
      refine r_bipush hC dX6_look_3 rfl ?_
      refine r_icmp_ge (tgt := 85) hC dX6_look_5 rfl (fun h2 => ?_) (fun h2 => ?_)
      · refine y_vret hK rfl dX6_look_85 ?_
        exact k
      · refine r_aload_n hC dX6_look_8 rfl ?_
        refine z_getR hM dX6_look_9 fl_RX6_34 rfl rfl (vld_of (n := 1) rfl (by omega) (by omega)) ?_
        refine r_iload_n hC dX6_look_12 rfl ?_
        refine z_iald hM dX6_look_13 rfl (by omega) (by omega) (fun v3 h_v3 o_v3 t_v3 => ?_)
        refine r_iload_n hC dX6_look_14 rfl ?_
        have J79_4 : K 79 [some (vR 30 0), some (vI l), some (vI w1), none] [] σ := by
          refine r_iincE hC ((w1 + 1)) dX6_look_79 rfl rfl (by omega) (by unfold inR; omega) ?_
          refine r_goto (tgt := 2) hC dX6_look_82 rfl ?_
          exact ih2 ((w1 + 1))  (by omega)  (by omega) 
        refine r_icmp_eq (tgt := 21) hC dX6_look_15 rfl (fun h4 => ?_) (fun h4 => ?_)
        · refine r_aload_n hC dX6_look_21 rfl ?_
          refine r_iload_n hC dX6_look_22 rfl ?_
          refine r_aload_n hC dX6_look_23 rfl ?_
          refine z_getR hM dX6_look_24 fl_RX6_37 rfl rfl (vld_of (n := 1) rfl (by omega) (by omega)) ?_
          refine r_iload_n hC dX6_look_27 rfl ?_
          refine z_iald hM dX6_look_28 rfl (by omega) (by omega) (fun v6 h_v6 o_v6 t_v6 => ?_)
          have q_v6 : 0 ≤ v6 ∧ v6 ≤ 6 := o_v6
          refine r_aload_n hC dX6_look_29 rfl ?_
          refine z_getR hM dX6_look_30 fl_RX6_40 rfl rfl (vld_of (n := 1) rfl (by omega) (by omega)) ?_
          refine r_iload_n hC dX6_look_33 rfl ?_
          refine z_iald hM dX6_look_34 rfl (by omega) (by omega) (fun v7 h_v7 o_v7 t_v7 => ?_)
          refine z_inv3 hM dX6_look_35 vl_RX6_203 rfl rfl rfl (Nat.le_of_ble_eq_true rfl) (Nat.le_of_ble_eq_true rfl) ?_
          refine m_reachedNow (by omega) (by omega) (fun v8 h_v8 => ?_)
          refine r_istore_n hC dX6_look_38 rfl ?_
          refine r_iload_n hC dX6_look_39 rfl ?_
          refine r_aload_n hC dX6_look_40 rfl ?_
          refine z_getR hM dX6_look_41 fl_RX6_43 rfl rfl (vld_of (n := 1) rfl (by omega) (by omega)) ?_
          refine r_iload_n hC dX6_look_44 rfl ?_
          refine z_iald hM dX6_look_45 rfl (by omega) (by omega) (fun v9 h_v9 o_v9 t_v9 => ?_)
          have J72_10 : K 72 [some (vR 30 0), some (vI l), some (vI w1), some (vI v8)] [] σ := by
            refine r_aload_n hC dX6_look_72 rfl ?_
            refine z_getR hM dX6_look_73 fl_RX6_43 rfl rfl (vld_of (n := 1) rfl (by omega) (by omega)) ?_
            refine r_iload_n hC dX6_look_76 rfl ?_
            refine r_iload_n hC dX6_look_77 rfl ?_
            refine z_iastU hM dX6_look_78 rfl (by omega) (by omega) (by simp [Un, Tb, DL, DF, DR]) (by simp [Okv]) ?_
            refine r_forget hC (ls2 := [some (vR 30 0), some (vI l), some (vI w1), none]) (lsub_some (lsub_some (lsub_some (lsub_none lsub_nil)))) ?_
            exact J79_4    
          refine r_icmp_le (tgt := 72) hC dX6_look_46 rfl (fun h10 => ?_) (fun h10 => ?_)
          · exact J72_10
          · refine r_aload_n hC dX6_look_49 rfl ?_
            refine z_getR hM dX6_look_50 fl_RX6_46 rfl rfl (vld_of (n := 1) rfl (by omega) (by omega)) ?_
            refine r_iload_n hC dX6_look_53 rfl ?_
            refine r_dup2 hC dX6_look_54 rfl rfl ?_
            refine z_iald hM dX6_look_55 rfl (by omega) (by omega) (fun v12 h_v12 o_v12 t_v12 => ?_)
            refine r_iconst hC dX6_look_56 rfl ?_
            refine r_iaddG hC dX6_look_57 (fun v13 h_v13 => ?_)
            refine z_iastU hM dX6_look_58 rfl (by omega) (by omega) (by simp [Un, Tb, DL, DF, DR]) (by simp [Okv]) ?_
            refine r_aload_n hC dX6_look_59 rfl ?_
            refine z_getR hM dX6_look_60 fl_RX6_49 rfl rfl (vld_of (n := 1) rfl (by omega) (by omega)) ?_
            refine r_iload_n hC dX6_look_63 rfl ?_
            refine r_aload_n hC dX6_look_64 rfl ?_
            refine r_iload_n hC dX6_look_65 rfl ?_
            refine r_bipush hC dX6_look_66 rfl ?_
            refine z_inv2 hM dX6_look_68 vl_RX6_80 rfl rfl rfl (Nat.le_of_ble_eq_true rfl) (Nat.le_of_ble_eq_true rfl) ?_
            refine m_of (by omega) (by omega) (fun v14 h_v14 h5_v14 h0_v14 t_v14 => ?_)
            refine z_iastU hM dX6_look_71 rfl (by omega) (by omega) (by simp [Un, Tb, DL, DF, DR]) (by simp [Okv]) ?_
            exact J72_10    
        · refine r_goto (tgt := 79) hC dX6_look_18 rfl ?_
          exact J79_4    
  exact L2 10 (0)  (by omega)  (by omega) 
theorem m_watch {ea eb : Bool} {d : Nat} {P : Option Vl → Mm → Prop} {σ : Mm} {v l w b : Int}   (k : ∀ r : Int, -2147483648 ≤ r ∧ r ≤ 2147483647 → P (some (vI r)) σ) : WT (ea, eb, false) (d + 6) 186 [vR 30 0, vI v, vI l, vI w, vI b] σ P := by
  refine WT_in fun K hK => ?_
  have hK : StpY (ea, eb, false) cX6_watch RX6 (some .int) (WT (ea, eb, false) (d + 5)) P K := hK
  have hM := hK.1
  have hC := hK.1.1
  show K 0 [some (vR 30 0), some (vI v), some (vI l), some (vI w), some (vI b)] [] σ
  refine r_rngz hC (fun g0 => ?_)
  have r_v : -2147483648 ≤ v ∧ v ≤ 2147483647 := inR_le (g0 (vI v) (by simp))
  have r_l : -2147483648 ≤ l ∧ l ≤ 2147483647 := inR_le (g0 (vI l) (by simp))
  have r_w : -2147483648 ≤ w ∧ w ≤ 2147483647 := inR_le (g0 (vI w) (by simp))
  have r_b : -2147483648 ≤ b ∧ b ≤ 2147483647 := inR_le (g0 (vI b) (by simp))
  refine r_iload_n hC dX6_watch_0 rfl ?_
  refine r_iconst hC dX6_watch_1 rfl ?_
  refine r_bipush hC dX6_watch_2 rfl ?_
  refine z_ins3 hM dX6_watch_4 tl_RX6_76 rfl (Nat.le_of_ble_eq_true rfl) (Nat.le_of_ble_eq_true rfl) ?_
  refine m_isIn (fun h2 => ?_) (fun h2 => ?_)
  · refine r_if_eq (tgt := 19) hC dX6_watch_7 rfl (fun h3 => by omega) (fun h3 => ?_)
    refine r_aload_n hC dX6_watch_10 rfl ?_
    refine r_iload_n hC dX6_watch_11 rfl ?_
    refine r_iload_n hC dX6_watch_12 rfl ?_
    refine z_inv2 hM dX6_watch_13 vl_RX6_207 rfl rfl rfl (Nat.le_of_ble_eq_true rfl) (Nat.le_of_ble_eq_true rfl) ?_
    refine m_isNumber (fun h4 => ?_) ?_
    · refine r_if_ne (tgt := 21) hC dX6_watch_16 rfl (fun h5 => ?_) (fun h5 => by omega)
      refine r_aload_n hC dX6_watch_21 rfl ?_
      refine z_getR hM dX6_watch_22 fl_RX6_34 rfl rfl (vld_of (n := 1) rfl (by omega) (by omega)) ?_
      refine r_iload_n hC dX6_watch_25 rfl ?_
      refine r_iload_n hC dX6_watch_26 rfl ?_
      refine z_iastU hM dX6_watch_27 rfl (by omega) (by omega) (by simp [Un, Tb, DL, DF, DR]) (by simp [Okv]) ?_
      refine r_aload_n hC dX6_watch_28 rfl ?_
      refine z_getR hM dX6_watch_29 fl_RX6_37 rfl rfl (vld_of (n := 1) rfl (by omega) (by omega)) ?_
      refine r_iload_n hC dX6_watch_32 rfl ?_
      refine r_iload_n hC dX6_watch_33 rfl ?_
      refine z_iastU hM dX6_watch_34 rfl (by omega) (by omega) (by simp [Un, Tb, DL, DF, DR]) (by simp [Okv]; try omega) ?_
      refine r_aload_n hC dX6_watch_35 rfl ?_
      refine z_getR hM dX6_watch_36 fl_RX6_40 rfl rfl (vld_of (n := 1) rfl (by omega) (by omega)) ?_
      refine r_iload_n hC dX6_watch_39 rfl ?_
      refine r_iload hC dX6_watch_40 rfl ?_
      refine z_iastU hM dX6_watch_42 rfl (by omega) (by omega) (by simp [Un, Tb, DL, DF, DR]) (by simp [Okv]) ?_
      refine r_aload_n hC dX6_watch_43 rfl ?_
      refine z_getR hM dX6_watch_44 fl_RX6_43 rfl rfl (vld_of (n := 1) rfl (by omega) (by omega)) ?_
      refine r_iload_n hC dX6_watch_47 rfl ?_
      refine r_aload_n hC dX6_watch_48 rfl ?_
      refine r_iload_n hC dX6_watch_49 rfl ?_
      refine r_iload_n hC dX6_watch_50 rfl ?_
      refine r_iload hC dX6_watch_51 rfl ?_
      refine z_inv3 hM dX6_watch_53 vl_RX6_203 rfl rfl rfl (Nat.le_of_ble_eq_true rfl) (Nat.le_of_ble_eq_true rfl) ?_
      refine m_reachedNow (by omega) (by omega) (fun v6 h_v6 => ?_)
      refine z_iastU hM dX6_watch_56 rfl (by omega) (by omega) (by simp [Un, Tb, DL, DF, DR]) (by simp [Okv]) ?_
      refine r_aload_n hC dX6_watch_57 rfl ?_
      refine z_getR hM dX6_watch_58 fl_RX6_46 rfl rfl (vld_of (n := 1) rfl (by omega) (by omega)) ?_
      refine r_iload_n hC dX6_watch_61 rfl ?_
      refine r_iconst hC dX6_watch_62 rfl ?_
      refine z_iastU hM dX6_watch_63 rfl (by omega) (by omega) (by simp [Un, Tb, DL, DF, DR]) (by simp [Okv]) ?_
      refine r_aload_n hC dX6_watch_64 rfl ?_
      refine z_getR hM dX6_watch_65 fl_RX6_49 rfl rfl (vld_of (n := 1) rfl (by omega) (by omega)) ?_
      refine r_iload_n hC dX6_watch_68 rfl ?_
      refine r_iconst hC dX6_watch_69 rfl ?_
      refine z_iastU hM dX6_watch_70 rfl (by omega) (by omega) (by simp [Un, Tb, DL, DF, DR]) (by simp [Okv]) ?_
      refine r_aload_n hC dX6_watch_71 rfl ?_
      refine z_getR hM dX6_watch_72 fl_RX6_43 rfl rfl (vld_of (n := 1) rfl (by omega) (by omega)) ?_
      refine r_iload_n hC dX6_watch_75 rfl ?_
      refine z_iald hM dX6_watch_76 rfl (by omega) (by omega) (fun v7 h_v7 o_v7 t_v7 => ?_)
      refine y_iret hK rfl dX6_watch_77 ?_
      exact k _ (by omega)
    · refine r_if_ne (tgt := 21) hC dX6_watch_16 rfl (fun h8 => by omega) (fun h8 => ?_)
      refine r_iconst hC dX6_watch_19 rfl ?_
      refine y_iret hK rfl dX6_watch_20 ?_
      exact k _ (by omega)
  · refine r_if_eq (tgt := 19) hC dX6_watch_7 rfl (fun h9 => ?_) (fun h9 => by omega)
    refine r_iconst hC dX6_watch_19 rfl ?_
    refine y_iret hK rfl dX6_watch_20 ?_
    exact k _ (by omega)
