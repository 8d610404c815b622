-- B: gifts
theorem ntM_ne {V : Mm} {x y : Int} {c : Nat} (h : ¬ (c = 7 ∧ y = 15)) : ntM V c x y = V c x y := if_neg (fun q => h ⟨q.1, q.2.2⟩)
theorem s_within {e : Ev} {d : Nat} {P : Option Vl → Mm → Prop} {σ : Mm} {a lo hi : Int}   (k1 : (lo ≤ a ∧ a ≤ hi) → P (some (vI 1)) σ) (k0 : ¬ (lo ≤ a ∧ a ≤ hi) → P (some (vI 0)) σ) : WT e (d + 1) 124 [vI a, vI lo, vI hi] σ P := by
  refine WT_in fun K hK => ?_
  have hK : StpY e cX5_within RX5 (some .boolean) (WT e (d + 0)) P K := hK
  have hM := hK.1
  have hC := hK.1.1
  show K 0 [some (vI a), some (vI lo), some (vI hi)] [] σ
  refine r_rngz hC (fun g0 => ?_)
  have r_a : -2147483648 ≤ a ∧ a ≤ 2147483647 := inR_le (g0 (vI a) (by simp))
  have r_lo : -2147483648 ≤ lo ∧ lo ≤ 2147483647 := inR_le (g0 (vI lo) (by simp))
  have r_hi : -2147483648 ≤ hi ∧ hi ≤ 2147483647 := inR_le (g0 (vI hi) (by simp))
  refine r_iload_n hC dX5_within_0 rfl ?_
  refine r_iload_n hC dX5_within_1 rfl ?_
  refine r_icmp_gt (tgt := 14) hC dX5_within_2 rfl (fun h1 => ?_) (fun h1 => ?_)
  · refine r_iconst hC dX5_within_14 rfl ?_
    refine y_zret hK rfl dX5_within_15 (by omega) ?_
    exact k0 (by omega)
  · refine r_iload_n hC dX5_within_5 rfl ?_
    refine r_iload_n hC dX5_within_6 rfl ?_
    refine r_icmp_gt (tgt := 14) hC dX5_within_7 rfl (fun h2 => ?_) (fun h2 => ?_)
    · refine r_iconst hC dX5_within_14 rfl ?_
      refine y_zret hK rfl dX5_within_15 (by omega) ?_
      exact k0 (by omega)
    · refine r_iconst hC dX5_within_10 rfl ?_
      refine r_goto (tgt := 15) hC dX5_within_11 rfl ?_
      refine y_zret hK rfl dX5_within_15 (by omega) ?_
      exact k1 (by omega)
theorem s_isLane {e : Ev} {d : Nat} {P : Option Vl → Mm → Prop} {σ : Mm} {a : Int}   (k1 : (0 ≤ a ∧ a ≤ 3) → P (some (vI 1)) σ) (k0 : ¬ (0 ≤ a ∧ a ≤ 3) → P (some (vI 0)) σ) : WT e (d + 2) 125 [vI a] σ P := by
  refine WT_in fun K hK => ?_
  have hK : StpY e cX5_isLane RX5 (some .boolean) (WT e (d + 1)) P K := hK
  have hM := hK.1
  have hC := hK.1.1
  show K 0 [some (vI a)] [] σ
  refine r_rngz hC (fun g0 => ?_)
  have r_a : -2147483648 ≤ a ∧ a ≤ 2147483647 := inR_le (g0 (vI a) (by simp))
  refine r_iload_n hC dX5_isLane_0 rfl ?_
  refine r_iconst hC dX5_isLane_1 rfl ?_
  refine r_iconst hC dX5_isLane_2 rfl ?_
  refine z_ins3 hM dX5_isLane_3 tl_RX5_59 rfl (Nat.le_of_ble_eq_true rfl) (Nat.le_of_ble_eq_true rfl) ?_
  refine s_within (fun h2 => ?_) (fun h2 => ?_)
  · refine y_zret hK rfl dX5_isLane_6 (by omega) ?_
    exact k1 (by omega)
  · refine y_zret hK rfl dX5_isLane_6 (by omega) ?_
    exact k0 (by omega)
theorem s_isTime {e : Ev} {d : Nat} {P : Option Vl → Mm → Prop} {σ : Mm} {a : Int}   (k1 : (0 ≤ a ∧ a ≤ 100000) → P (some (vI 1)) σ) (k0 : ¬ (0 ≤ a ∧ a ≤ 100000) → P (some (vI 0)) σ) : WT e (d + 2) 126 [vI a] σ P := by
  refine WT_in fun K hK => ?_
  have hK : StpY e cX5_isTime RX5 (some .boolean) (WT e (d + 1)) P K := hK
  have hM := hK.1
  have hC := hK.1.1
  show K 0 [some (vI a)] [] σ
  refine r_rngz hC (fun g0 => ?_)
  have r_a : -2147483648 ≤ a ∧ a ≤ 2147483647 := inR_le (g0 (vI a) (by simp))
  refine r_iload_n hC dX5_isTime_0 rfl ?_
  refine r_iconst hC dX5_isTime_1 rfl ?_
  refine r_ldcw hC dX5_isTime_2 co_RX5_284 rfl ?_
  refine z_ins3 hM dX5_isTime_5 tl_RX5_59 rfl (Nat.le_of_ble_eq_true rfl) (Nat.le_of_ble_eq_true rfl) ?_
  refine s_within (fun h2 => ?_) (fun h2 => ?_)
  · refine y_zret hK rfl dX5_isTime_8 (by omega) ?_
    exact k1 (by omega)
  · refine y_zret hK rfl dX5_isTime_8 (by omega) ?_
    exact k0 (by omega)
theorem s_isValue {e : Ev} {d : Nat} {P : Option Vl → Mm → Prop} {σ : Mm} {a : Int}   (k1 : (-1000 ≤ a ∧ a ≤ 1000) → P (some (vI 1)) σ) (k0 : ¬ (-1000 ≤ a ∧ a ≤ 1000) → P (some (vI 0)) σ) : WT e (d + 2) 127 [vI a] σ P := by
  refine WT_in fun K hK => ?_
  have hK : StpY e cX5_isValue RX5 (some .boolean) (WT e (d + 1)) P K := hK
  have hM := hK.1
  have hC := hK.1.1
  show K 0 [some (vI a)] [] σ
  refine r_rngz hC (fun g0 => ?_)
  have r_a : -2147483648 ≤ a ∧ a ≤ 2147483647 := inR_le (g0 (vI a) (by simp))
  refine r_iload_n hC dX5_isValue_0 rfl ?_
  refine r_sipush hC dX5_isValue_1 rfl ?_
  refine r_sipush hC dX5_isValue_4 rfl ?_
  refine z_ins3 hM dX5_isValue_7 tl_RX5_59 rfl (Nat.le_of_ble_eq_true rfl) (Nat.le_of_ble_eq_true rfl) ?_
  refine s_within (fun h2 => ?_) (fun h2 => ?_)
  · refine y_zret hK rfl dX5_isValue_10 (by omega) ?_
    exact k1 (by omega)
  · refine y_zret hK rfl dX5_isValue_10 (by omega) ?_
    exact k0 (by omega)
theorem s_isGap {e : Ev} {d : Nat} {P : Option Vl → Mm → Prop} {σ : Mm} {a : Int}   (k1 : (0 ≤ a ∧ a ≤ 100000) → P (some (vI 1)) σ) (k0 : ¬ (0 ≤ a ∧ a ≤ 100000) → P (some (vI 0)) σ) : WT e (d + 2) 128 [vI a] σ P := by
  refine WT_in fun K hK => ?_
  have hK : StpY e cX5_isGap RX5 (some .boolean) (WT e (d + 1)) P K := hK
  have hM := hK.1
  have hC := hK.1.1
  show K 0 [some (vI a)] [] σ
  refine r_rngz hC (fun g0 => ?_)
  have r_a : -2147483648 ≤ a ∧ a ≤ 2147483647 := inR_le (g0 (vI a) (by simp))
  refine r_iload_n hC dX5_isGap_0 rfl ?_
  refine r_iconst hC dX5_isGap_1 rfl ?_
  refine r_ldcw hC dX5_isGap_2 co_RX5_284 rfl ?_
  refine z_ins3 hM dX5_isGap_5 tl_RX5_59 rfl (Nat.le_of_ble_eq_true rfl) (Nat.le_of_ble_eq_true rfl) ?_
  refine s_within (fun h2 => ?_) (fun h2 => ?_)
  · refine y_zret hK rfl dX5_isGap_8 (by omega) ?_
    exact k1 (by omega)
  · refine y_zret hK rfl dX5_isGap_8 (by omega) ?_
    exact k0 (by omega)
theorem x_openLane {e : Ev} {d : Nat} {P : Option Vl → Mm → Prop} {σ : Mm} {l : Int}   (k1 : ((0 ≤ l ∧ l ≤ 3) ∧ σ 7 l 1 = 1) → P (some (vR 7 l)) σ) (k0 : ¬ ((0 ≤ l ∧ l ≤ 3) ∧ σ 7 l 1 = 1) → P (some vN) σ) : WT e (d + 3) 129 [vR 2 0, vI l] σ P := by
  refine WT_in fun K hK => ?_
  have hK : StpY e cX5_openLane RX5 (some (.object "SlideFold$Lane")) (WT e (d + 2)) P K := hK
  have hM := hK.1
  have hC := hK.1.1
  show K 0 [some (vR 2 0), some (vI l)] [] σ
  refine r_rngz hC (fun g0 => ?_)
  have r_l : -2147483648 ≤ l ∧ l ≤ 2147483647 := inR_le (g0 (vI l) (by simp))
  refine r_iload_n hC dX5_openLane_0 rfl ?_
  refine z_ins1 hM dX5_openLane_1 tl_RX5_102 rfl (Nat.le_of_ble_eq_true rfl) (Nat.le_of_ble_eq_true rfl) ?_
  refine s_isLane (fun h2 => ?_) (fun h2 => ?_)
  · refine r_if_eq (tgt := 28) hC dX5_openLane_4 rfl (fun h3 => by omega) (fun h3 => ?_)
    refine r_aload_n hC dX5_openLane_7 rfl ?_
    refine z_getR hM dX5_openLane_8 fl_RX5_13 rfl rfl (vld_of (n := 1) rfl (by omega) (by omega)) ?_
    refine r_iload_n hC dX5_openLane_11 rfl ?_
    refine z_aald hM dX5_openLane_12 rfl (by decide) (by omega) (by omega) (vld_of (n := 7) rfl (by omega) (by omega)) ?_
    refine z_getI (jz := 1) hM dX5_openLane_13 fl_RX5_94 rfl rfl rfl (fun v4 h_v4 o_v4 t_v4 => ?_)
    have w_v4 := ((t_v4 (Or.inl (by simp [Tb]))).trans (rfl)).symm
    subst w_v4
    have q_v4 : 0 ≤ (σ 7 l 1) ∧ (σ 7 l 1) ≤ 1 := by have := o_v4.2.1 rfl; omega
    refine r_if_eq (tgt := 28) hC dX5_openLane_16 rfl (fun h5 => ?_) (fun h5 => ?_)
    · refine r_null hC dX5_openLane_28 ?_
      refine y_aret hK rfl dX5_openLane_29 ?_
      exact k0 (by omega)
    · refine r_aload_n hC dX5_openLane_19 rfl ?_
      refine z_getR hM dX5_openLane_20 fl_RX5_13 rfl rfl (vld_of (n := 1) rfl (by omega) (by omega)) ?_
      refine r_iload_n hC dX5_openLane_23 rfl ?_
      refine z_aald hM dX5_openLane_24 rfl (by decide) (by omega) (by omega) (vld_of (n := 7) rfl (by omega) (by omega)) ?_
      refine r_goto (tgt := 29) hC dX5_openLane_25 rfl ?_
      refine y_aret hK rfl dX5_openLane_29 ?_
      exact k1 (by omega)
  · refine r_if_eq (tgt := 28) hC dX5_openLane_4 rfl (fun h6 => ?_) (fun h6 => by omega)
    refine r_null hC dX5_openLane_28 ?_
    refine y_aret hK rfl dX5_openLane_29 ?_
    exact k0 (by omega)
theorem x_hasNumber {e : Ev} {d : Nat} {P : Option Vl → Mm → Prop} {σ : Mm} {i w : Int} (b_i : 0 ≤ i ∧ i ≤ 6)  (k1 : (0 ≤ w ∧ w < numF (σ 7 i 2)) → P (some (vI 1)) σ) (k0 : ¬ (0 ≤ w ∧ w < numF (σ 7 i 2)) → P (some (vI 0)) σ) : WT e (d + 2) 28 [vR 7 i, vI w] σ P := by
  refine WT_in fun K hK => ?_
  have hK : StpY e cX2_hasNumber RX2 (some .boolean) (WT e (d + 1)) P K := hK
  have hM := hK.1
  have hC := hK.1.1
  show K 0 [some (vR 7 i), some (vI w)] [] σ
  refine r_rngz hC (fun g0 => ?_)
  have r_w : -2147483648 ≤ w ∧ w ≤ 2147483647 := inR_le (g0 (vI w) (by simp))
  refine r_iload_n hC dX2_hasNumber_0 rfl ?_
  refine r_iconst hC dX2_hasNumber_1 rfl ?_
  refine z_nums hM dX2_hasNumber_2 sl_RX2_82 ?_
  refine r_aload_n hC dX2_hasNumber_5 rfl ?_
  refine z_getI (jz := 2) hM dX2_hasNumber_6 fl_RX2_36 rfl rfl rfl (fun v1 h_v1 o_v1 t_v1 => ?_)
  have w_v1 := ((t_v1 (Or.inl (by simp [Tb]))).trans (rfl)).symm
  subst w_v1
  have q_v1 : 0 ≤ (σ 7 i 2) ∧ (σ 7 i 2) ≤ 9 := o_v1.2.2 rfl
  refine z_nald hM dX2_hasNumber_9 (by omega) (by omega) ?_
  have q_v2 := numF_rng (σ 7 i 2)
  refine r_iconst hC dX2_hasNumber_10 rfl ?_
  refine r_isubE hC (((numF (σ 7 i 2)) - 1)) dX2_hasNumber_11 (by omega) (by unfold inR; omega) ?_
  refine z_ins3 hM dX2_hasNumber_12 tl_RX2_85 rfl (Nat.le_of_ble_eq_true rfl) (Nat.le_of_ble_eq_true rfl) ?_
  refine s_within (fun h4 => ?_) (fun h4 => ?_)
  · refine y_zret hK rfl dX2_hasNumber_15 (by omega) ?_
    exact k1 (by omega)
  · refine y_zret hK rfl dX2_hasNumber_15 (by omega) ?_
    exact k0 (by omega)
theorem x_laneWith {e : Ev} {d : Nat} {P : Option Vl → Mm → Prop} {σ : Mm} {l w : Int}   (k1 : ((0 ≤ l ∧ l ≤ 3) ∧ σ 7 l 1 = 1 ∧ 0 ≤ w ∧ w < numF (σ 7 l 2)) → P (some (vR 7 l)) σ) (k0 : ¬ ((0 ≤ l ∧ l ≤ 3) ∧ σ 7 l 1 = 1 ∧ 0 ≤ w ∧ w < numF (σ 7 l 2)) → P (some vN) σ) : WT e (d + 4) 130 [vR 2 0, vI l, vI w] σ P := by
  refine WT_in fun K hK => ?_
  have hK : StpY e cX5_laneWith RX5 (some (.object "SlideFold$Lane")) (WT e (d + 3)) P K := hK
  have hM := hK.1
  have hC := hK.1.1
  show K 0 [some (vR 2 0), some (vI l), some (vI w), none] [] σ
  refine r_rngz hC (fun g0 => ?_)
  have r_l : -2147483648 ≤ l ∧ l ≤ 2147483647 := inR_le (g0 (vI l) (by simp))
  have r_w : -2147483648 ≤ w ∧ w ≤ 2147483647 := inR_le (g0 (vI w) (by simp))
  refine r_aload_n hC dX5_laneWith_0 rfl ?_
  refine r_iload_n hC dX5_laneWith_1 rfl ?_
  refine z_inv1 hM dX5_laneWith_2 vl_RX5_123 rfl rfl rfl (Nat.le_of_ble_eq_true rfl) (Nat.le_of_ble_eq_true rfl) ?_
  refine x_openLane (fun h1 => ?_) (fun h1 => ?_)
  · -- h1
    refine r_astore_n hC dX5_laneWith_5 rfl ?_
    refine r_aload_n hC dX5_laneWith_6 rfl ?_
    refine r_ifnullR hC dX5_laneWith_7 ?_
    refine r_aload_n hC dX5_laneWith_10 rfl ?_
    refine r_iload_n hC dX5_laneWith_11 rfl ?_
    refine z_inv1 hM dX5_laneWith_12 vl_RX5_266 rfl rfl rfl (Nat.le_of_ble_eq_true rfl) (Nat.le_of_ble_eq_true rfl) ?_
    refine x_hasNumber (by omega) (fun h2 => ?_) (fun h2 => ?_)
    · refine r_if_eq (tgt := 22) hC dX5_laneWith_15 rfl (fun h3 => by omega) (fun h3 => ?_)
      refine r_aload_n hC dX5_laneWith_18 rfl ?_
      refine r_goto (tgt := 23) hC dX5_laneWith_19 rfl ?_
      refine y_aret hK rfl dX5_laneWith_23 ?_
      exact k1 (by omega)
    · refine r_if_eq (tgt := 22) hC dX5_laneWith_15 rfl (fun h4 => ?_) (fun h4 => by omega)
      refine r_null hC dX5_laneWith_22 ?_
      refine y_aret hK rfl dX5_laneWith_23 ?_
      exact k0 (by omega)
  · -- h1
    refine r_astoreN_n hC dX5_laneWith_5 rfl ?_
    refine r_aloadN_n hC dX5_laneWith_6 rfl ?_
    refine r_ifnullN (tgt := 22) hC dX5_laneWith_7 rfl ?_
    refine r_null hC dX5_laneWith_22 ?_
    refine y_aret hK rfl dX5_laneWith_23 ?_
    exact k0 (by omega)
theorem x_laneHolding {e : Ev} {d : Nat} {P : Option Vl → Mm → Prop} {σ : Mm} {l x : Int}   (k1 : ((0 ≤ l ∧ l ≤ 3) ∧ σ 7 l 1 = 1 ∧ 0 ≤ x ∧ x < σ 7 l 6) → P (some (vR 7 l)) σ) (k0 : ¬ ((0 ≤ l ∧ l ≤ 3) ∧ σ 7 l 1 = 1 ∧ 0 ≤ x ∧ x < σ 7 l 6) → P (some vN) σ) : WT e (d + 4) 131 [vR 2 0, vI l, vI x] σ P := by
  refine WT_in fun K hK => ?_
  have hK : StpY e cX5_laneHolding RX5 (some (.object "SlideFold$Lane")) (WT e (d + 3)) P K := hK
  have hM := hK.1
  have hC := hK.1.1
  show K 0 [some (vR 2 0), some (vI l), some (vI x), none] [] σ
  refine r_rngz hC (fun g0 => ?_)
  have r_l : -2147483648 ≤ l ∧ l ≤ 2147483647 := inR_le (g0 (vI l) (by simp))
  have r_x : -2147483648 ≤ x ∧ x ≤ 2147483647 := inR_le (g0 (vI x) (by simp))
  refine r_aload_n hC dX5_laneHolding_0 rfl ?_
  refine r_iload_n hC dX5_laneHolding_1 rfl ?_
  refine z_inv1 hM dX5_laneHolding_2 vl_RX5_123 rfl rfl rfl (Nat.le_of_ble_eq_true rfl) (Nat.le_of_ble_eq_true rfl) ?_
  refine x_openLane (fun h1 => ?_) (fun h1 => ?_)
  · -- h1
    refine r_astore_n hC dX5_laneHolding_5 rfl ?_
    refine r_aload_n hC dX5_laneHolding_6 rfl ?_
    refine r_ifnullR hC dX5_laneHolding_7 ?_
    refine r_iload_n hC dX5_laneHolding_10 rfl ?_
    refine r_iconst hC dX5_laneHolding_11 rfl ?_
    refine r_aload_n hC dX5_laneHolding_12 rfl ?_
    refine z_getI (jz := 6) hM dX5_laneHolding_13 fl_RX5_154 rfl rfl rfl (fun v2 h_v2 o_v2 t_v2 => ?_)
    have w_v2 := ((t_v2 (Or.inl (by simp [Tb]))).trans (rfl)).symm
    subst w_v2
    have q_v2 : 0 ≤ (σ 7 l 6) ∧ (σ 7 l 6) ≤ 121 := o_v2.1 rfl
    refine r_iconst hC dX5_laneHolding_16 rfl ?_
    refine r_isubE hC (((σ 7 l 6) - 1)) dX5_laneHolding_17 (by omega) (by unfold inR; omega) ?_
    refine z_ins3 hM dX5_laneHolding_18 tl_RX5_59 rfl (Nat.le_of_ble_eq_true rfl) (Nat.le_of_ble_eq_true rfl) ?_
    refine s_within (fun h4 => ?_) (fun h4 => ?_)
    · refine r_if_eq (tgt := 28) hC dX5_laneHolding_21 rfl (fun h5 => by omega) (fun h5 => ?_)
      refine r_aload_n hC dX5_laneHolding_24 rfl ?_
      refine r_goto (tgt := 29) hC dX5_laneHolding_25 rfl ?_
      refine y_aret hK rfl dX5_laneHolding_29 ?_
      exact k1 (by omega)
    · refine r_if_eq (tgt := 28) hC dX5_laneHolding_21 rfl (fun h6 => ?_) (fun h6 => by omega)
      refine r_null hC dX5_laneHolding_28 ?_
      refine y_aret hK rfl dX5_laneHolding_29 ?_
      exact k0 (by omega)
  · -- h1
    refine r_astoreN_n hC dX5_laneHolding_5 rfl ?_
    refine r_aloadN_n hC dX5_laneHolding_6 rfl ?_
    refine r_ifnullN (tgt := 28) hC dX5_laneHolding_7 rfl ?_
    refine r_null hC dX5_laneHolding_28 ?_
    refine y_aret hK rfl dX5_laneHolding_29 ?_
    exact k0 (by omega)
theorem x_noteMost {eb ec : Bool} {d : Nat} {P : Option Vl → Mm → Prop} {σ : Mm}   (k : P none (ntM σ)) : WT (true, eb, ec) (d + 2) 71 [vR 2 0] σ P := by
  refine WT_in fun K hK => ?_
  have hK : StpY (true, eb, ec) cX5_noteMost RX5 (none) (WT (true, eb, ec) (d + 1)) P K := hK
  have hM := hK.1
  have hC := hK.1.1
  show K 0 [some (vR 2 0), none] [] σ
  refine r_iconst hC dX5_noteMost_0 rfl ?_
  refine r_istore_n hC dX5_noteMost_1 rfl ?_
  refine r_iload_n hC dX5_noteMost_2 rfl ?_
  refine r_iconst hC dX5_noteMost_3 rfl ?_
  refine r_icmp_ge (tgt := 43) hC dX5_noteMost_4 rfl (fun h1 => by omega) (fun h1 => ?_)
  refine r_aload_n hC dX5_noteMost_7 rfl ?_
  refine z_getR hM dX5_noteMost_8 fl_RX5_13 rfl rfl (vld_of (n := 1) rfl (by omega) (by omega)) ?_
  refine r_iload_n hC dX5_noteMost_11 rfl ?_
  refine z_aald hM dX5_noteMost_12 rfl (by decide) (by omega) (by omega) (vld_of (n := 7) rfl (by omega) (by omega)) ?_
  refine r_aload_n hC dX5_noteMost_13 rfl ?_
  refine z_getR hM dX5_noteMost_14 fl_RX5_13 rfl rfl (vld_of (n := 1) rfl (by omega) (by omega)) ?_
  refine r_iload_n hC dX5_noteMost_17 rfl ?_
  refine z_aald hM dX5_noteMost_18 rfl (by decide) (by omega) (by omega) (vld_of (n := 7) rfl (by omega) (by omega)) ?_
  refine z_getI (jz := 15) hM dX5_noteMost_19 fl_RX5_242 rfl rfl rfl (fun v2 h_v2 o_v2 t_v2 => ?_)
  have w_v2 := ((t_v2 (Or.inl (by simp [Tb]))).trans (rfl)).symm
  subst w_v2
  refine r_aload_n hC dX5_noteMost_22 rfl ?_
  refine z_getR hM dX5_noteMost_23 fl_RX5_13 rfl rfl (vld_of (n := 1) rfl (by omega) (by omega)) ?_
  refine r_iload_n hC dX5_noteMost_26 rfl ?_
  refine z_aald hM dX5_noteMost_27 rfl (by decide) (by omega) (by omega) (vld_of (n := 7) rfl (by omega) (by omega)) ?_
  refine z_getI (jz := 6) hM dX5_noteMost_28 fl_RX5_154 rfl rfl rfl (fun v3 h_v3 o_v3 t_v3 => ?_)
  have w_v3 := ((t_v3 (Or.inl (by simp [Tb]))).trans (rfl)).symm
  subst w_v3
  have q_v3 : 0 ≤ (σ 7 0 6) ∧ (σ 7 0 6) ≤ 121 := o_v3.1 rfl
  refine z_ins2 hM dX5_noteMost_31 tl_RX5_239 rfl (Nat.le_of_ble_eq_true rfl) (Nat.le_of_ble_eq_true rfl) ?_
  refine x_maxE ?_
  refine z_putIT (jz := 15) hM dX5_noteMost_34 fw_RX5_242 rfl rfl rfl ⟨Or.inr (by simp [DL]), Or.inr (by simp [DF])⟩ (by first | trivial | (simp only [Okv]; omega) | (simp [Okv]; try omega)) ?_
  refine r_iincE hC (1) dX5_noteMost_37 rfl rfl (by omega) (by unfold inR; omega) ?_
  refine r_goto (tgt := 2) hC dX5_noteMost_40 rfl ?_
  refine r_iload_n hC dX5_noteMost_2 rfl ?_
  refine r_iconst hC dX5_noteMost_3 rfl ?_
  refine r_icmp_ge (tgt := 43) hC dX5_noteMost_4 rfl (fun h4 => by omega) (fun h4 => ?_)
  refine r_aload_n hC dX5_noteMost_7 rfl ?_
  refine z_getR hM dX5_noteMost_8 fl_RX5_13 rfl rfl (vld_of (n := 1) rfl (by omega) (by omega)) ?_
  refine r_iload_n hC dX5_noteMost_11 rfl ?_
  refine z_aald hM dX5_noteMost_12 rfl (by decide) (by omega) (by omega) (vld_of (n := 7) rfl (by omega) (by omega)) ?_
  refine r_aload_n hC dX5_noteMost_13 rfl ?_
  refine z_getR hM dX5_noteMost_14 fl_RX5_13 rfl rfl (vld_of (n := 1) rfl (by omega) (by omega)) ?_
  refine r_iload_n hC dX5_noteMost_17 rfl ?_
  refine z_aald hM dX5_noteMost_18 rfl (by decide) (by omega) (by omega) (vld_of (n := 7) rfl (by omega) (by omega)) ?_
  refine z_getI (jz := 15) hM dX5_noteMost_19 fl_RX5_242 rfl rfl rfl (fun v5 h_v5 o_v5 t_v5 => ?_)
  have w_v5 := ((t_v5 (Or.inl (by simp [Tb]))).trans ((mu_ne (by omega)).trans (rfl))).symm
  subst w_v5
  refine r_aload_n hC dX5_noteMost_22 rfl ?_
  refine z_getR hM dX5_noteMost_23 fl_RX5_13 rfl rfl (vld_of (n := 1) rfl (by omega) (by omega)) ?_
  refine r_iload_n hC dX5_noteMost_26 rfl ?_
  refine z_aald hM dX5_noteMost_27 rfl (by decide) (by omega) (by omega) (vld_of (n := 7) rfl (by omega) (by omega)) ?_
  refine z_getI (jz := 6) hM dX5_noteMost_28 fl_RX5_154 rfl rfl rfl (fun v6 h_v6 o_v6 t_v6 => ?_)
  have w_v6 := ((t_v6 (Or.inl (by simp [Tb]))).trans ((mu_ne (by omega)).trans (rfl))).symm
  subst w_v6
  have q_v6 : 0 ≤ (σ 7 1 6) ∧ (σ 7 1 6) ≤ 121 := o_v6.1 rfl
  refine z_ins2 hM dX5_noteMost_31 tl_RX5_239 rfl (Nat.le_of_ble_eq_true rfl) (Nat.le_of_ble_eq_true rfl) ?_
  refine x_maxE ?_
  refine z_putIT (jz := 15) hM dX5_noteMost_34 fw_RX5_242 rfl rfl rfl ⟨Or.inr (by simp [DL]), Or.inr (by simp [DF])⟩ (by first | trivial | (simp only [Okv]; omega) | (simp [Okv]; try omega)) ?_
  refine r_iincE hC (2) dX5_noteMost_37 rfl rfl (by omega) (by unfold inR; omega) ?_
  show K _ [_, _] _ _
  refine r_goto (tgt := 2) hC dX5_noteMost_40 rfl ?_
  refine r_iload_n hC dX5_noteMost_2 rfl ?_
  refine r_iconst hC dX5_noteMost_3 rfl ?_
  refine r_icmp_ge (tgt := 43) hC dX5_noteMost_4 rfl (fun h7 => by omega) (fun h7 => ?_)
  refine r_aload_n hC dX5_noteMost_7 rfl ?_
  refine z_getR hM dX5_noteMost_8 fl_RX5_13 rfl rfl (vld_of (n := 1) rfl (by omega) (by omega)) ?_
  refine r_iload_n hC dX5_noteMost_11 rfl ?_
  refine z_aald hM dX5_noteMost_12 rfl (by decide) (by omega) (by omega) (vld_of (n := 7) rfl (by omega) (by omega)) ?_
  refine r_aload_n hC dX5_noteMost_13 rfl ?_
  refine z_getR hM dX5_noteMost_14 fl_RX5_13 rfl rfl (vld_of (n := 1) rfl (by omega) (by omega)) ?_
  refine r_iload_n hC dX5_noteMost_17 rfl ?_
  refine z_aald hM dX5_noteMost_18 rfl (by decide) (by omega) (by omega) (vld_of (n := 7) rfl (by omega) (by omega)) ?_
  refine z_getI (jz := 15) hM dX5_noteMost_19 fl_RX5_242 rfl rfl rfl (fun v8 h_v8 o_v8 t_v8 => ?_)
  have w_v8 := ((t_v8 (Or.inl (by simp [Tb]))).trans ((mu_ne (by omega)).trans ((mu_ne (by omega)).trans (rfl)))).symm
  subst w_v8
  refine r_aload_n hC dX5_noteMost_22 rfl ?_
  refine z_getR hM dX5_noteMost_23 fl_RX5_13 rfl rfl (vld_of (n := 1) rfl (by omega) (by omega)) ?_
  refine r_iload_n hC dX5_noteMost_26 rfl ?_
  refine z_aald hM dX5_noteMost_27 rfl (by decide) (by omega) (by omega) (vld_of (n := 7) rfl (by omega) (by omega)) ?_
  refine z_getI (jz := 6) hM dX5_noteMost_28 fl_RX5_154 rfl rfl rfl (fun v9 h_v9 o_v9 t_v9 => ?_)
  have w_v9 := ((t_v9 (Or.inl (by simp [Tb]))).trans ((mu_ne (by omega)).trans ((mu_ne (by omega)).trans (rfl)))).symm
  subst w_v9
  have q_v9 : 0 ≤ (σ 7 2 6) ∧ (σ 7 2 6) ≤ 121 := o_v9.1 rfl
  refine z_ins2 hM dX5_noteMost_31 tl_RX5_239 rfl (Nat.le_of_ble_eq_true rfl) (Nat.le_of_ble_eq_true rfl) ?_
  refine x_maxE ?_
  refine z_putIT (jz := 15) hM dX5_noteMost_34 fw_RX5_242 rfl rfl rfl ⟨Or.inr (by simp [DL]), Or.inr (by simp [DF])⟩ (by first | trivial | (simp only [Okv]; omega) | (simp [Okv]; try omega)) ?_
  refine r_iincE hC (3) dX5_noteMost_37 rfl rfl (by omega) (by unfold inR; omega) ?_
  refine r_goto (tgt := 2) hC dX5_noteMost_40 rfl ?_
  refine r_iload_n hC dX5_noteMost_2 rfl ?_
  refine r_iconst hC dX5_noteMost_3 rfl ?_
  refine r_icmp_ge (tgt := 43) hC dX5_noteMost_4 rfl (fun h10 => by omega) (fun h10 => ?_)
  refine r_aload_n hC dX5_noteMost_7 rfl ?_
  refine z_getR hM dX5_noteMost_8 fl_RX5_13 rfl rfl (vld_of (n := 1) rfl (by omega) (by omega)) ?_
  refine r_iload_n hC dX5_noteMost_11 rfl ?_
  refine z_aald hM dX5_noteMost_12 rfl (by decide) (by omega) (by omega) (vld_of (n := 7) rfl (by omega) (by omega)) ?_
  refine r_aload_n hC dX5_noteMost_13 rfl ?_
  refine z_getR hM dX5_noteMost_14 fl_RX5_13 rfl rfl (vld_of (n := 1) rfl (by omega) (by omega)) ?_
  refine r_iload_n hC dX5_noteMost_17 rfl ?_
  refine z_aald hM dX5_noteMost_18 rfl (by decide) (by omega) (by omega) (vld_of (n := 7) rfl (by omega) (by omega)) ?_
  refine z_getI (jz := 15) hM dX5_noteMost_19 fl_RX5_242 rfl rfl rfl (fun v11 h_v11 o_v11 t_v11 => ?_)
  have w_v11 := ((t_v11 (Or.inl (by simp [Tb]))).trans ((mu_ne (by omega)).trans ((mu_ne (by omega)).trans ((mu_ne (by omega)).trans (rfl))))).symm
  subst w_v11
  refine r_aload_n hC dX5_noteMost_22 rfl ?_
  refine z_getR hM dX5_noteMost_23 fl_RX5_13 rfl rfl (vld_of (n := 1) rfl (by omega) (by omega)) ?_
  refine r_iload_n hC dX5_noteMost_26 rfl ?_
  refine z_aald hM dX5_noteMost_27 rfl (by decide) (by omega) (by omega) (vld_of (n := 7) rfl (by omega) (by omega)) ?_
  refine z_getI (jz := 6) hM dX5_noteMost_28 fl_RX5_154 rfl rfl rfl (fun v12 h_v12 o_v12 t_v12 => ?_)
  have w_v12 := ((t_v12 (Or.inl (by simp [Tb]))).trans ((mu_ne (by omega)).trans ((mu_ne (by omega)).trans ((mu_ne (by omega)).trans (rfl))))).symm
  subst w_v12
  have q_v12 : 0 ≤ (σ 7 3 6) ∧ (σ 7 3 6) ≤ 121 := o_v12.1 rfl
  refine z_ins2 hM dX5_noteMost_31 tl_RX5_239 rfl (Nat.le_of_ble_eq_true rfl) (Nat.le_of_ble_eq_true rfl) ?_
  refine x_maxE ?_
  refine z_putIT (jz := 15) hM dX5_noteMost_34 fw_RX5_242 rfl rfl rfl ⟨Or.inr (by simp [DL]), Or.inr (by simp [DF])⟩ (by first | trivial | (simp only [Okv]; omega) | (simp [Okv]; try omega)) ?_
  refine r_iincE hC (4) dX5_noteMost_37 rfl rfl (by omega) (by unfold inR; omega) ?_
  refine r_goto (tgt := 2) hC dX5_noteMost_40 rfl ?_
  refine r_iload_n hC dX5_noteMost_2 rfl ?_
  refine r_iconst hC dX5_noteMost_3 rfl ?_
  refine r_icmp_ge (tgt := 43) hC dX5_noteMost_4 rfl (fun h13 => ?_) (fun h13 => by omega)
  refine y_vret hK rfl dX5_noteMost_43 ?_
  have hm : ntM σ = (mu (mu (mu (mu σ 7 0 15 (max (σ 7 0 15) (σ 7 0 6))) 7 1 15 (max (σ 7 1 15) (σ 7 1 6))) 7 2 15 (max (σ 7 2 15) (σ 7 2 6))) 7 3 15 (max (σ 7 3 15) (σ 7 3 6))) := ntM_eq
  rw [hm] at k
  exact k
theorem ses_no {T : Int → Int} {g n : Int} (h : 1 ≤ n) (hn : ¬ wr (T n - T (n - 1)) > g) : ses T g n.toNat = ses T g (n - 1).toNat := by
  rw [show n.toNat = (n - 1).toNat + 1 from by omega]
  show (if wr (T (((n - 1).toNat : Nat) + 1) - T ((n - 1).toNat : Nat)) > g then ((((n - 1).toNat : Nat) : Int) + 1) else ses T g (n - 1).toNat) = _
  rw [show (((n - 1).toNat : Nat) : Int) = n - 1 from by omega, show n - 1 + 1 = n from by omega, if_neg hn]
theorem ses_yes {T : Int → Int} {g n : Int} (h : 1 ≤ n) (hn : wr (T n - T (n - 1)) > g) : ses T g n.toNat = n := by
  rw [show n.toNat = (n - 1).toNat + 1 from by omega]
  show (if wr (T (((n - 1).toNat : Nat) + 1) - T ((n - 1).toNat : Nat)) > g then ((((n - 1).toNat : Nat) : Int) + 1) else ses T g (n - 1).toNat) = _
  rw [show (((n - 1).toNat : Nat) : Int) = n - 1 from by omega, show n - 1 + 1 = n from by omega, if_pos hn]
theorem ses_0 {T : Int → Int} {g n : Int} (h : n = 0) : ses T g n.toNat = n := by
  subst h
  rfl
theorem x_give {ec : Bool} {d : Nat} {P : Option Vl → Mm → Prop} {σ : Mm} {i t : Int} (b_i : 0 ≤ i ∧ i ≤ 3) (b_t : -2147483648 ≤ t ∧ t ≤ 2147483647) (hnL : ∀ l : Int, 0 ≤ l → l ≤ 3 → σ 7 l 0 = l) (hFL : ∀ l : Int, 0 ≤ l → l ≤ 3 → FI (σ 11 l) (σ 7 l 6)) (hhL : ∀ l : Int, 0 ≤ l → l ≤ 3 → 0 ≤ σ 7 l 6 ∧ σ 7 l 6 ≤ 120) (hto : σ 13 i 0 ≠ i)  (k : P none (gvM σ i t)) : WT (true, false, ec) (d + 7) 70 [vR 2 0, vR 7 i, vI t] σ P := by
  refine WT_in fun K hK => ?_
  have hK : StpY (true, false, ec) cX5_give RX5 (none) (WT (true, false, ec) (d + 6)) P K := hK
  have hM := hK.1
  have hC := hK.1.1
  show K 0 [some (vR 2 0), some (vR 7 i), some (vI t), none, none, none, none, none, none] [] σ
  refine r_aload_n hC dX5_give_0 rfl ?_
  refine z_getR hM dX5_give_1 fl_RX5_19 rfl rfl (vld_of (n := 1) rfl (by omega) (by omega)) ?_
  refine r_aload_n hC dX5_give_4 rfl ?_
  refine z_getI (jz := 0) hM dX5_give_5 fl_RX5_212 rfl rfl rfl (fun v1 h_v1 o_v1 t_v1 => ?_)
  have w_v1 := ((t_v1 (Or.inl (by simp [Tb]))).trans ((rfl).trans (hnL i (by omega) (by omega)))).symm
  subst w_v1
  refine z_aald hM dX5_give_8 rfl (by decide) (by omega) (by omega) (vld_of (n := 4) rfl (by omega) (by omega)) ?_
  refine r_astore_n hC dX5_give_9 rfl ?_
  refine r_aload_n hC dX5_give_10 rfl ?_
  refine r_aload_n hC dX5_give_11 rfl ?_
  refine z_getI (jz := 0) hM dX5_give_12 fl_RX5_215 rfl rfl rfl (fun v2 h_v2 o_v2 t_v2 => ?_)
  have w_v2 := ((t_v2 (Or.inl (by simp [Tb]))).trans (rfl)).symm
  subst w_v2
  refine z_inv1 hM dX5_give_15 vl_RX5_123 rfl rfl rfl (Nat.le_of_ble_eq_true rfl) (Nat.le_of_ble_eq_true rfl) ?_
  refine x_openLane (fun h3 => ?_) (fun h3 => ?_)
  · -- h3
    refine r_astore hC dX5_give_18 rfl ?_
    refine r_aload_n hC dX5_give_20 rfl ?_
    refine z_getI (jz := 6) hM dX5_give_21 fl_RX5_154 rfl rfl rfl (fun v4 h_v4 o_v4 t_v4 => ?_)
    have w_v4 := ((t_v4 (Or.inl (by simp [Tb]))).trans (rfl)).symm
    subst w_v4
    have q_v4 : 0 ≤ (σ 7 i 6) ∧ (σ 7 i 6) ≤ 121 := o_v4.1 rfl
    refine r_iconst hC dX5_give_24 rfl ?_
    refine r_isubE hC (((σ 7 i 6) - 1)) dX5_give_25 (by omega) (by unfold inR; omega) ?_
    refine r_istore hC dX5_give_26 rfl ?_
    refine r_aload hC dX5_give_28 rfl ?_
    refine r_ifnullR hC dX5_give_30 ?_
    refine r_iload hC dX5_give_33 rfl ?_
    refine r_if_lt (tgt := 62) hC dX5_give_35 rfl (fun h5 => ?_) (fun h5 => ?_)
    · refine y_vret hK rfl dX5_give_62 ?_
      have hm : gvM σ i t = σ := if_neg (fun q => by have q1 := q.1; have q2 := q.2.1; have q3 := q.2.2.1; have q4 := q.2.2.2.1; have q5 := q.2.2.2.2.1; have q6 := q.2.2.2.2.2; unfold fuV at *; unfold ltV at *; omega)
      rw [hm] at k
      exact k
    · refine r_iload_n hC dX5_give_38 rfl ?_
      refine r_aload_n hC dX5_give_39 rfl ?_
      refine z_getR hM dX5_give_40 fl_RX5_198 rfl rfl (vld_of (n := 7) rfl (by omega) (by omega)) ?_
      refine r_iload hC dX5_give_43 rfl ?_
      refine z_iald hM dX5_give_45 rfl (by omega) (by omega) (fun v6 h_v6 o_v6 t_v6 => ?_)
      have w_v6 := ((t_v6 (Or.inl (by simp [Tb]))).trans (rfl)).symm
      subst w_v6
      refine r_isub hC dX5_give_46 ?_
      have f7 := inR_le (inR_wr (t - (σ 8 i ((σ 7 i 6) - 1))))
      refine r_aload_n hC dX5_give_47 rfl ?_
      refine z_getI (jz := 1) hM dX5_give_48 fl_RX5_218 rfl rfl rfl (fun v8 h_v8 o_v8 t_v8 => ?_)
      have w_v8 := ((t_v8 (Or.inl (by simp [Tb]))).trans (rfl)).symm
      subst w_v8
      refine r_icmp_le (tgt := 62) hC dX5_give_51 rfl (fun h9 => ?_) (fun h9 => ?_)
      · refine y_vret hK rfl dX5_give_62 ?_
        have hm : gvM σ i t = σ := if_neg (fun q => by have q1 := q.1; have q2 := q.2.1; have q3 := q.2.2.1; have q4 := q.2.2.2.1; have q5 := q.2.2.2.2.1; have q6 := q.2.2.2.2.2; unfold fuV at *; unfold ltV at *; omega)
        rw [hm] at k
        exact k
      · refine r_aload hC dX5_give_54 rfl ?_
        refine z_inv0 hM dX5_give_56 vl_RX5_139 rfl rfl rfl (Nat.le_of_ble_eq_true rfl) (Nat.le_of_ble_eq_true rfl) ?_
        refine x_isFull (by omega) (fun h10 => ?_) (fun h10 => ?_)
        · have y3_h10 : σ 7 (σ 13 i 0) 3 = (σ 7 (σ 13 i 0) 3) := (rfl)
          have y6_h10 : σ 7 (σ 13 i 0) 6 = (σ 7 (σ 13 i 0) 6) := (rfl)
          refine r_if_eq (tgt := 63) hC dX5_give_59 rfl (fun h11 => by omega) (fun h11 => ?_)
          refine y_vret hK rfl dX5_give_62 ?_
          have hm : gvM σ i t = σ := if_neg (fun q => by have q1 := q.1; have q2 := q.2.1; have q3 := q.2.2.1; have q4 := q.2.2.2.1; have q5 := q.2.2.2.2.1; have q6 := q.2.2.2.2.2; unfold fuV at *; unfold ltV at *; omega)
          rw [hm] at k
          exact k
        · have y3_h10 : σ 7 (σ 13 i 0) 3 = (σ 7 (σ 13 i 0) 3) := (rfl)
          have y6_h10 : σ 7 (σ 13 i 0) 6 = (σ 7 (σ 13 i 0) 6) := (rfl)
          refine r_if_eq (tgt := 63) hC dX5_give_59 rfl (fun h12 => ?_) (fun h12 => by omega)
          refine r_iload hC dX5_give_63 rfl ?_
          refine r_istore hC dX5_give_65 rfl ?_
          have L67 : ∀ (n67 : Nat) (w13 : Int), 0 ≤ w13 ∧ w13 ≤ 120 → (ses (σ 8 i) (σ 13 i 1) ((w13)).toNat = ses (σ 8 i) (σ 13 i 1) (σ 7 i 6 - 1).toNat) → w13 - 0 < (n67 : Int) → K 67 [some (vR 2 0), some (vR 7 i), some (vI t), some (vR 13 i), some (vR 7 (σ 13 i 0)), some (vI ((σ 7 i 6) - 1)), some (vI w13), none, none] [] σ := by
            intro n67
            induction n67 with
            | zero => intro w13  f_w13 i0_67 hm  ; omega
            | succ n67 ih67 =>
              intro w13  f_w13 i0_67 hm67  
              refine r_iload hC dX5_give_67 rfl ?_
              refine r_if_le (tgt := 91) hC dX5_give_69 rfl (fun h14 => ?_) (fun h14 => ?_)
              · have hs_ : ses (σ 8 i) (σ 13 i 1) (σ 7 i 6 - 1).toNat = w13 := by rw [← i0_67]; first | exact ses_0 (by omega) | exact ses_yes (by omega) (by omega)
                refine r_aload_n hC dX5_give_91 rfl ?_
                refine r_aload_n hC dX5_give_92 rfl ?_
                refine r_iload hC dX5_give_93 rfl ?_
                refine r_aload_n hC dX5_give_95 rfl ?_
                refine z_getI (jz := 6) hM dX5_give_96 fl_RX5_154 rfl rfl rfl (fun v15 h_v15 o_v15 t_v15 => ?_)
                have w_v15 := ((t_v15 (Or.inl (by simp [Tb]))).trans (rfl)).symm
                subst w_v15
                have q_v15 : 0 ≤ (σ 7 i 6) ∧ (σ 7 i 6) ≤ 121 := o_v15.1 rfl
                refine r_aload_n hC dX5_give_99 rfl ?_
                refine z_getI (jz := 2) hM dX5_give_100 fl_RX5_224 rfl rfl rfl (fun v16 h_v16 o_v16 t_v16 => ?_)
                have w_v16 := ((t_v16 (Or.inl (by simp [Tb]))).trans (rfl)).symm
                subst w_v16
                refine z_inv4 hM dX5_give_103 vl_RX5_227 rfl rfl rfl (Nat.le_of_ble_eq_true rfl) (Nat.le_of_ble_eq_true rfl) ?_
                refine x_comesTo (by omega) (by omega) (by omega) ?_
                refine r_istore hC dX5_give_106 rfl ?_
                refine r_iload hC dX5_give_108 rfl ?_
                refine r_ldc hC dX5_give_110 co_RX5_175 rfl ?_
                refine r_icmp_ne (tgt := 116) hC dX5_give_112 rfl (fun h17 => ?_) (fun h17 => ?_)
                · refine r_aload_n hC dX5_give_116 rfl ?_
                  refine z_getR hM dX5_give_117 fl_RX5_198 rfl rfl (vld_of (n := 7) rfl (by omega) (by omega)) ?_
                  refine r_iload hC dX5_give_120 rfl ?_
                  refine z_iald hM dX5_give_122 rfl (by omega) (by omega) (fun v18 h_v18 o_v18 t_v18 => ?_)
                  have w_v18 := ((t_v18 (Or.inl (by simp [Tb]))).trans (rfl)).symm
                  subst w_v18
                  refine r_istore hC dX5_give_123 rfl ?_
                  refine r_aload hC dX5_give_125 rfl ?_
                  refine r_iload hC dX5_give_127 rfl ?_
                  refine z_inv1 hM dX5_give_129 vl_RX5_133 rfl rfl rfl (Nat.le_of_ble_eq_true rfl) (Nat.le_of_ble_eq_true rfl) ?_
                  refine x_isTooLate (by omega) (fun h19 => ?_) (fun h19 => ?_)
                  · have y5_h19 : σ 7 (σ 13 i 0) 5 = (σ 7 (σ 13 i 0) 5) := (rfl)
                    have y10_h19 : σ 7 (σ 13 i 0) 10 = (σ 7 (σ 13 i 0) 10) := (rfl)
                    refine r_if_eq (tgt := 147) hC dX5_give_132 rfl (fun h20 => by omega) (fun h20 => ?_)
                    refine r_aload hC dX5_give_135 rfl ?_
                    refine r_dup hC dX5_give_137 rfl ?_
                    refine z_getI (jz := 11) hM dX5_give_138 fl_RX5_136 rfl rfl rfl (fun v21 h_v21 o_v21 t_v21 => ?_)
                    refine r_iconst hC dX5_give_141 rfl ?_
                    refine r_iadd hC dX5_give_142 ?_
                    have f22 := inR_le (inR_wr (v21 + 1))
                    refine z_putIU (jz := 11) hM dX5_give_143 fw_RX5_136 rfl rfl rfl (by simp [Un, Tb, DL, DF, DR]) (by simp [Okv]) ?_
                    refine y_vret hK rfl dX5_give_146 ?_
                    have hm : gvM σ i t = σ := if_neg (fun q => by have q1 := q.1; have q2 := q.2.1; have q3 := q.2.2.1; have q4 := q.2.2.2.1; have q5 := q.2.2.2.2.1; have q6 := q.2.2.2.2.2; have hses := hs_; unfold gvN at q5; rw [hses] at q5; unfold NO at q5; unfold fuV at *; unfold ltV at *; omega)
                    rw [hm] at k
                    exact k
                  · have y5_h19 : σ 7 (σ 13 i 0) 5 = (σ 7 (σ 13 i 0) 5) := (rfl)
                    have y10_h19 : σ 7 (σ 13 i 0) 10 = (σ 7 (σ 13 i 0) 10) := (rfl)
                    refine r_if_eq (tgt := 147) hC dX5_give_132 rfl (fun h23 => ?_) (fun h23 => by omega)
                    refine r_aload_n hC dX5_give_147 rfl ?_
                    refine r_dup hC dX5_give_148 rfl ?_
                    refine z_getI (jz := 3) hM dX5_give_149 fl_RX5_231 rfl rfl rfl (fun v24 h_v24 o_v24 t_v24 => ?_)
                    have w_v24 := ((t_v24 (Or.inl (by simp [Tb]))).trans (rfl)).symm
                    subst w_v24
                    refine r_iconst hC dX5_give_152 rfl ?_
                    refine r_iadd hC dX5_give_153 ?_
                    have f25 := inR_le (inR_wr ((σ 13 i 3) + 1))
                    refine z_putIT (jz := 3) hM dX5_give_154 fw_RX5_231 rfl rfl rfl ⟨Or.inr (by simp [DL]), Or.inr (by simp [DF])⟩ (by first | trivial | (simp only [Okv]; omega) | (simp [Okv]; try omega)) ?_
                    refine r_aload_n hC dX5_give_157 rfl ?_
                    refine r_aload hC dX5_give_158 rfl ?_
                    refine r_iload hC dX5_give_160 rfl ?_
                    refine r_sipush hC dX5_give_162 rfl ?_
                    refine r_sipush hC dX5_give_165 rfl ?_
                    refine r_iload hC dX5_give_168 rfl ?_
                    refine z_ins2 hM dX5_give_170 tl_RX5_234 rfl (Nat.le_of_ble_eq_true rfl) (Nat.le_of_ble_eq_true rfl) ?_
                    refine x_minE ?_
                    refine z_ins2 hM dX5_give_173 tl_RX5_239 rfl (Nat.le_of_ble_eq_true rfl) (Nat.le_of_ble_eq_true rfl) ?_
                    refine x_maxE ?_
                    refine z_inv3 hM dX5_give_176 vl_RX5_147 rfl rfl rfl (Nat.le_of_ble_eq_true rfl) (Nat.le_of_ble_eq_true rfl) ?_
                    have e7 : ∀ y : Int, (mu σ 13 i 3 (wr ((σ 13 i 3) + 1))) 7 (σ 13 i 0) y = σ 7 (σ 13 i 0) y := fun y => mu_ne (by omega)
                    have pl0 : (mu σ 13 i 3 (wr ((σ 13 i 3) + 1))) 7 (σ 13 i 0) 0 = (σ 13 i 0) := (e7 0).trans (hnL (σ 13 i 0) (by omega) (by omega))
                    have e6 := e7 6
                    have hh6 := hhL (σ 13 i 0) (by omega) (by omega)
                    have plF : FI ((mu σ 13 i 3 (wr ((σ 13 i 3) + 1))) 11 (σ 13 i 0)) ((mu σ 13 i 3 (wr ((σ 13 i 3) + 1))) 7 (σ 13 i 0) 6) := by rw [e6, show (mu σ 13 i 3 (wr ((σ 13 i 3) + 1))) 11 (σ 13 i 0) = σ 11 (σ 13 i 0) from funext fun y => mu_ne (by omega)]; exact hFL (σ 13 i 0) (by omega) (by omega)
                    refine x_place (by omega) (by omega) (by omega) pl0 plF (by omega) ?_
                    refine y_vret hK rfl dX5_give_179 ?_
                    have hN : gvN σ i = (cm (σ 16 0) (σ 15 0) (σ 7 i 2) (fun j => σ 9 i (w13 + j)) ((σ 7 i 6) - w13).toNat (σ 13 i 2)) := by unfold gvN; rw [hs_]
                    have hm : gvM σ i t = (plM (mu σ 13 i 3 (wr ((σ 13 i 3) + 1))) (σ 13 i 0) (σ 8 i ((σ 7 i 6) - 1)) (max (-1000) (min 1000 (cm (σ 16 0) (σ 15 0) (σ 7 i 2) (fun j => σ 9 i (w13 + j)) ((σ 7 i 6) - w13).toNat (σ 13 i 2))))) := by
                      unfold gvM
                      rw [if_pos ⟨by omega, by omega, by omega, by unfold fuV; omega, by rw [hN]; unfold NO; omega, by unfold ltV; omega⟩, hN]
                    rw [hm] at k
                    exact k
                · refine y_vret hK rfl dX5_give_115 ?_
                  have hm : gvM σ i t = σ := if_neg (fun q => by have q1 := q.1; have q2 := q.2.1; have q3 := q.2.2.1; have q4 := q.2.2.2.1; have q5 := q.2.2.2.2.1; have q6 := q.2.2.2.2.2; have hses := hs_; unfold gvN at q5; rw [hses] at q5; unfold NO at q5; unfold fuV at *; unfold ltV at *; omega)
                  rw [hm] at k
                  exact k
              · refine r_aload_n hC dX5_give_72 rfl ?_
                refine r_iload hC dX5_give_73 rfl ?_
                refine r_aload_n hC dX5_give_75 rfl ?_
                refine z_getI (jz := 1) hM dX5_give_76 fl_RX5_218 rfl rfl rfl (fun v26 h_v26 o_v26 t_v26 => ?_)
                have w_v26 := ((t_v26 (Or.inl (by simp [Tb]))).trans (rfl)).symm
                subst w_v26
                refine z_inv2 hM dX5_give_79 vl_RX5_221 rfl rfl rfl (Nat.le_of_ble_eq_true rfl) (Nat.le_of_ble_eq_true rfl) ?_
                refine x_startsSession (by omega) (by omega) (fun h27 => ?_) (fun h27 => ?_)
                · refine r_if_ne (tgt := 91) hC dX5_give_82 rfl (fun h28 => ?_) (fun h28 => by omega)
                  have hs_ : ses (σ 8 i) (σ 13 i 1) (σ 7 i 6 - 1).toNat = w13 := by rw [← i0_67]; first | exact ses_0 (by omega) | exact ses_yes (by omega) (by omega)
                  refine r_aload_n hC dX5_give_91 rfl ?_
                  refine r_aload_n hC dX5_give_92 rfl ?_
                  refine r_iload hC dX5_give_93 rfl ?_
                  refine r_aload_n hC dX5_give_95 rfl ?_
                  refine z_getI (jz := 6) hM dX5_give_96 fl_RX5_154 rfl rfl rfl (fun v29 h_v29 o_v29 t_v29 => ?_)
                  have w_v29 := ((t_v29 (Or.inl (by simp [Tb]))).trans (rfl)).symm
                  subst w_v29
                  have q_v29 : 0 ≤ (σ 7 i 6) ∧ (σ 7 i 6) ≤ 121 := o_v29.1 rfl
                  refine r_aload_n hC dX5_give_99 rfl ?_
                  refine z_getI (jz := 2) hM dX5_give_100 fl_RX5_224 rfl rfl rfl (fun v30 h_v30 o_v30 t_v30 => ?_)
                  have w_v30 := ((t_v30 (Or.inl (by simp [Tb]))).trans (rfl)).symm
                  subst w_v30
                  refine z_inv4 hM dX5_give_103 vl_RX5_227 rfl rfl rfl (Nat.le_of_ble_eq_true rfl) (Nat.le_of_ble_eq_true rfl) ?_
                  refine x_comesTo (by omega) (by omega) (by omega) ?_
                  refine r_istore hC dX5_give_106 rfl ?_
                  refine r_iload hC dX5_give_108 rfl ?_
                  refine r_ldc hC dX5_give_110 co_RX5_175 rfl ?_
                  refine r_icmp_ne (tgt := 116) hC dX5_give_112 rfl (fun h31 => ?_) (fun h31 => ?_)
                  · refine r_aload_n hC dX5_give_116 rfl ?_
                    refine z_getR hM dX5_give_117 fl_RX5_198 rfl rfl (vld_of (n := 7) rfl (by omega) (by omega)) ?_
                    refine r_iload hC dX5_give_120 rfl ?_
                    refine z_iald hM dX5_give_122 rfl (by omega) (by omega) (fun v32 h_v32 o_v32 t_v32 => ?_)
                    have w_v32 := ((t_v32 (Or.inl (by simp [Tb]))).trans (rfl)).symm
                    subst w_v32
                    refine r_istore hC dX5_give_123 rfl ?_
                    refine r_aload hC dX5_give_125 rfl ?_
                    refine r_iload hC dX5_give_127 rfl ?_
                    refine z_inv1 hM dX5_give_129 vl_RX5_133 rfl rfl rfl (Nat.le_of_ble_eq_true rfl) (Nat.le_of_ble_eq_true rfl) ?_
                    refine x_isTooLate (by omega) (fun h33 => ?_) (fun h33 => ?_)
                    · have y5_h33 : σ 7 (σ 13 i 0) 5 = (σ 7 (σ 13 i 0) 5) := (rfl)
                      have y10_h33 : σ 7 (σ 13 i 0) 10 = (σ 7 (σ 13 i 0) 10) := (rfl)
                      refine r_if_eq (tgt := 147) hC dX5_give_132 rfl (fun h34 => by omega) (fun h34 => ?_)
                      refine r_aload hC dX5_give_135 rfl ?_
                      refine r_dup hC dX5_give_137 rfl ?_
                      refine z_getI (jz := 11) hM dX5_give_138 fl_RX5_136 rfl rfl rfl (fun v35 h_v35 o_v35 t_v35 => ?_)
                      refine r_iconst hC dX5_give_141 rfl ?_
                      refine r_iadd hC dX5_give_142 ?_
                      have f36 := inR_le (inR_wr (v35 + 1))
                      refine z_putIU (jz := 11) hM dX5_give_143 fw_RX5_136 rfl rfl rfl (by simp [Un, Tb, DL, DF, DR]) (by simp [Okv]) ?_
                      refine y_vret hK rfl dX5_give_146 ?_
                      have hm : gvM σ i t = σ := if_neg (fun q => by have q1 := q.1; have q2 := q.2.1; have q3 := q.2.2.1; have q4 := q.2.2.2.1; have q5 := q.2.2.2.2.1; have q6 := q.2.2.2.2.2; have hses := hs_; unfold gvN at q5; rw [hses] at q5; unfold NO at q5; unfold fuV at *; unfold ltV at *; omega)
                      rw [hm] at k
                      exact k
                    · have y5_h33 : σ 7 (σ 13 i 0) 5 = (σ 7 (σ 13 i 0) 5) := (rfl)
                      have y10_h33 : σ 7 (σ 13 i 0) 10 = (σ 7 (σ 13 i 0) 10) := (rfl)
                      refine r_if_eq (tgt := 147) hC dX5_give_132 rfl (fun h37 => ?_) (fun h37 => by omega)
                      refine r_aload_n hC dX5_give_147 rfl ?_
                      refine r_dup hC dX5_give_148 rfl ?_
                      refine z_getI (jz := 3) hM dX5_give_149 fl_RX5_231 rfl rfl rfl (fun v38 h_v38 o_v38 t_v38 => ?_)
                      have w_v38 := ((t_v38 (Or.inl (by simp [Tb]))).trans (rfl)).symm
                      subst w_v38
                      refine r_iconst hC dX5_give_152 rfl ?_
                      refine r_iadd hC dX5_give_153 ?_
                      have f39 := inR_le (inR_wr ((σ 13 i 3) + 1))
                      refine z_putIT (jz := 3) hM dX5_give_154 fw_RX5_231 rfl rfl rfl ⟨Or.inr (by simp [DL]), Or.inr (by simp [DF])⟩ (by first | trivial | (simp only [Okv]; omega) | (simp [Okv]; try omega)) ?_
                      refine r_aload_n hC dX5_give_157 rfl ?_
                      refine r_aload hC dX5_give_158 rfl ?_
                      refine r_iload hC dX5_give_160 rfl ?_
                      refine r_sipush hC dX5_give_162 rfl ?_
                      refine r_sipush hC dX5_give_165 rfl ?_
                      refine r_iload hC dX5_give_168 rfl ?_
                      refine z_ins2 hM dX5_give_170 tl_RX5_234 rfl (Nat.le_of_ble_eq_true rfl) (Nat.le_of_ble_eq_true rfl) ?_
                      refine x_minE ?_
                      refine z_ins2 hM dX5_give_173 tl_RX5_239 rfl (Nat.le_of_ble_eq_true rfl) (Nat.le_of_ble_eq_true rfl) ?_
                      refine x_maxE ?_
                      refine z_inv3 hM dX5_give_176 vl_RX5_147 rfl rfl rfl (Nat.le_of_ble_eq_true rfl) (Nat.le_of_ble_eq_true rfl) ?_
                      have e7 : ∀ y : Int, (mu σ 13 i 3 (wr ((σ 13 i 3) + 1))) 7 (σ 13 i 0) y = σ 7 (σ 13 i 0) y := fun y => mu_ne (by omega)
                      have pl0 : (mu σ 13 i 3 (wr ((σ 13 i 3) + 1))) 7 (σ 13 i 0) 0 = (σ 13 i 0) := (e7 0).trans (hnL (σ 13 i 0) (by omega) (by omega))
                      have e6 := e7 6
                      have hh6 := hhL (σ 13 i 0) (by omega) (by omega)
                      have plF : FI ((mu σ 13 i 3 (wr ((σ 13 i 3) + 1))) 11 (σ 13 i 0)) ((mu σ 13 i 3 (wr ((σ 13 i 3) + 1))) 7 (σ 13 i 0) 6) := by rw [e6, show (mu σ 13 i 3 (wr ((σ 13 i 3) + 1))) 11 (σ 13 i 0) = σ 11 (σ 13 i 0) from funext fun y => mu_ne (by omega)]; exact hFL (σ 13 i 0) (by omega) (by omega)
                      refine x_place (by omega) (by omega) (by omega) pl0 plF (by omega) ?_
                      refine y_vret hK rfl dX5_give_179 ?_
                      have hN : gvN σ i = (cm (σ 16 0) (σ 15 0) (σ 7 i 2) (fun j => σ 9 i (w13 + j)) ((σ 7 i 6) - w13).toNat (σ 13 i 2)) := by unfold gvN; rw [hs_]
                      have hm : gvM σ i t = (plM (mu σ 13 i 3 (wr ((σ 13 i 3) + 1))) (σ 13 i 0) (σ 8 i ((σ 7 i 6) - 1)) (max (-1000) (min 1000 (cm (σ 16 0) (σ 15 0) (σ 7 i 2) (fun j => σ 9 i (w13 + j)) ((σ 7 i 6) - w13).toNat (σ 13 i 2))))) := by
                        unfold gvM
                        rw [if_pos ⟨by omega, by omega, by omega, by unfold fuV; omega, by rw [hN]; unfold NO; omega, by unfold ltV; omega⟩, hN]
                      rw [hm] at k
                      exact k
                  · refine y_vret hK rfl dX5_give_115 ?_
                    have hm : gvM σ i t = σ := if_neg (fun q => by have q1 := q.1; have q2 := q.2.1; have q3 := q.2.2.1; have q4 := q.2.2.2.1; have q5 := q.2.2.2.2.1; have q6 := q.2.2.2.2.2; have hses := hs_; unfold gvN at q5; rw [hses] at q5; unfold NO at q5; unfold fuV at *; unfold ltV at *; omega)
                    rw [hm] at k
                    exact k
                · refine r_if_ne (tgt := 91) hC dX5_give_82 rfl (fun h40 => by omega) (fun h40 => ?_)
                  refine r_iincE hC ((w13 - 1)) dX5_give_85 rfl rfl (by omega) (by unfold inR; omega) ?_
                  refine r_goto (tgt := 67) hC dX5_give_88 rfl ?_
                  exact ih67 ((w13 - 1))  (by omega) (by first | rfl | (rw [← ses_no (by omega) (by omega)]; exact i0_67)) (by omega)  
          exact L67 122 (((σ 7 i 6) - 1))  (by omega) (by first | rfl | (rw [← ses_no (by omega) (by omega)]; exact i0_67)) (by omega)  
  · -- h3
    refine r_astoreN hC dX5_give_18 rfl ?_
    refine r_aload_n hC dX5_give_20 rfl ?_
    refine z_getI (jz := 6) hM dX5_give_21 fl_RX5_154 rfl rfl rfl (fun v41 h_v41 o_v41 t_v41 => ?_)
    have w_v41 := ((t_v41 (Or.inl (by simp [Tb]))).trans (rfl)).symm
    subst w_v41
    have q_v41 : 0 ≤ (σ 7 i 6) ∧ (σ 7 i 6) ≤ 121 := o_v41.1 rfl
    refine r_iconst hC dX5_give_24 rfl ?_
    refine r_isubE hC (((σ 7 i 6) - 1)) dX5_give_25 (by omega) (by unfold inR; omega) ?_
    refine r_istore hC dX5_give_26 rfl ?_
    refine r_aloadN hC dX5_give_28 rfl ?_
    refine r_ifnullN (tgt := 62) hC dX5_give_30 rfl ?_
    refine y_vret hK rfl dX5_give_62 ?_
    have hm : gvM σ i t = σ := if_neg (fun q => by have q1 := q.1; have q2 := q.2.1; have q3 := q.2.2.1; have q4 := q.2.2.2.1; have q5 := q.2.2.2.2.1; have q6 := q.2.2.2.2.2; unfold fuV at *; unfold ltV at *; omega)
    rw [hm] at k
    exact k
