-- safety: first group
theorem s_within {e : Ev} {d : Nat} {P : Option Vl → Mm → Prop} {σ : Mm} {a lo hi : Int}   (k1 : (lo ≤ a ∧ a ≤ hi) → P (some (vI 1)) σ) (k0 : ¬ (lo ≤ a ∧ a ≤ hi) → P (some (vI 0)) σ) : WT e (d + 1) 124 [vI a, vI lo, vI hi] σ P := by
  refine WT_in fun K hK => ?_
  have hK : StpY e cX5_within RX5 (some .boolean) (WT e (d + 0)) P K := hK
  have hM := hK.1
  have hC := hK.1.1
  show K 0 [some (vI a), some (vI lo), some (vI hi)] [] σ
  refine r_rngz hC (fun g0 => ?_)
  have r_a : -2147483648 ≤ a ∧ a ≤ 2147483647 := inR_le (g0 (vI a) (by simp))
  have r_lo : -2147483648 ≤ lo ∧ lo ≤ 2147483647 := inR_le (g0 (vI lo) (by simp))
  have r_hi : -2147483648 ≤ hi ∧ hi ≤ 2147483647 := inR_le (g0 (vI hi) (by simp))
  refine r_iload_n hC dX5_within_0 rfl ?_
  refine r_iload_n hC dX5_within_1 rfl ?_
  refine r_icmp_gt (tgt := 14) hC dX5_within_2 rfl (fun h1 => ?_) (fun h1 => ?_)
  · refine r_iconst hC dX5_within_14 rfl ?_
    refine y_zret hK rfl dX5_within_15 (by omega) ?_
    exact k0 (by omega)
  · refine r_iload_n hC dX5_within_5 rfl ?_
    refine r_iload_n hC dX5_within_6 rfl ?_
    refine r_icmp_gt (tgt := 14) hC dX5_within_7 rfl (fun h2 => ?_) (fun h2 => ?_)
    · refine r_iconst hC dX5_within_14 rfl ?_
      refine y_zret hK rfl dX5_within_15 (by omega) ?_
      exact k0 (by omega)
    · refine r_iconst hC dX5_within_10 rfl ?_
      refine r_goto (tgt := 15) hC dX5_within_11 rfl ?_
      refine y_zret hK rfl dX5_within_15 (by omega) ?_
      exact k1 (by omega)
theorem s_isLane {e : Ev} {d : Nat} {P : Option Vl → Mm → Prop} {σ : Mm} {a : Int}   (k1 : (0 ≤ a ∧ a ≤ 3) → P (some (vI 1)) σ) (k0 : ¬ (0 ≤ a ∧ a ≤ 3) → P (some (vI 0)) σ) : WT e (d + 2) 125 [vI a] σ P := by
  refine WT_in fun K hK => ?_
  have hK : StpY e cX5_isLane RX5 (some .boolean) (WT e (d + 1)) P K := hK
  have hM := hK.1
  have hC := hK.1.1
  show K 0 [some (vI a)] [] σ
  refine r_rngz hC (fun g0 => ?_)
  have r_a : -2147483648 ≤ a ∧ a ≤ 2147483647 := inR_le (g0 (vI a) (by simp))
  refine r_iload_n hC dX5_isLane_0 rfl ?_
  refine r_iconst hC dX5_isLane_1 rfl ?_
  refine r_iconst hC dX5_isLane_2 rfl ?_
  refine z_ins3 hM dX5_isLane_3 tl_RX5_59 rfl (Nat.le_of_ble_eq_true rfl) (Nat.le_of_ble_eq_true rfl) ?_
  refine s_within (fun h2 => ?_) (fun h2 => ?_)
  · refine y_zret hK rfl dX5_isLane_6 (by omega) ?_
    exact k1 (by omega)
  · refine y_zret hK rfl dX5_isLane_6 (by omega) ?_
    exact k0 (by omega)
theorem s_isTime {e : Ev} {d : Nat} {P : Option Vl → Mm → Prop} {σ : Mm} {a : Int}   (k1 : (0 ≤ a ∧ a ≤ 100000) → P (some (vI 1)) σ) (k0 : ¬ (0 ≤ a ∧ a ≤ 100000) → P (some (vI 0)) σ) : WT e (d + 2) 126 [vI a] σ P := by
  refine WT_in fun K hK => ?_
  have hK : StpY e cX5_isTime RX5 (some .boolean) (WT e (d + 1)) P K := hK
  have hM := hK.1
  have hC := hK.1.1
  show K 0 [some (vI a)] [] σ
  refine r_rngz hC (fun g0 => ?_)
  have r_a : -2147483648 ≤ a ∧ a ≤ 2147483647 := inR_le (g0 (vI a) (by simp))
  refine r_iload_n hC dX5_isTime_0 rfl ?_
  refine r_iconst hC dX5_isTime_1 rfl ?_
  refine r_ldcw hC dX5_isTime_2 co_RX5_284 rfl ?_
  refine z_ins3 hM dX5_isTime_5 tl_RX5_59 rfl (Nat.le_of_ble_eq_true rfl) (Nat.le_of_ble_eq_true rfl) ?_
  refine s_within (fun h2 => ?_) (fun h2 => ?_)
  · refine y_zret hK rfl dX5_isTime_8 (by omega) ?_
    exact k1 (by omega)
  · refine y_zret hK rfl dX5_isTime_8 (by omega) ?_
    exact k0 (by omega)
theorem s_isValue {e : Ev} {d : Nat} {P : Option Vl → Mm → Prop} {σ : Mm} {a : Int}   (k1 : (-1000 ≤ a ∧ a ≤ 1000) → P (some (vI 1)) σ) (k0 : ¬ (-1000 ≤ a ∧ a ≤ 1000) → P (some (vI 0)) σ) : WT e (d + 2) 127 [vI a] σ P := by
  refine WT_in fun K hK => ?_
  have hK : StpY e cX5_isValue RX5 (some .boolean) (WT e (d + 1)) P K := hK
  have hM := hK.1
  have hC := hK.1.1
  show K 0 [some (vI a)] [] σ
  refine r_rngz hC (fun g0 => ?_)
  have r_a : -2147483648 ≤ a ∧ a ≤ 2147483647 := inR_le (g0 (vI a) (by simp))
  refine r_iload_n hC dX5_isValue_0 rfl ?_
  refine r_sipush hC dX5_isValue_1 rfl ?_
  refine r_sipush hC dX5_isValue_4 rfl ?_
  refine z_ins3 hM dX5_isValue_7 tl_RX5_59 rfl (Nat.le_of_ble_eq_true rfl) (Nat.le_of_ble_eq_true rfl) ?_
  refine s_within (fun h2 => ?_) (fun h2 => ?_)
  · refine y_zret hK rfl dX5_isValue_10 (by omega) ?_
    exact k1 (by omega)
  · refine y_zret hK rfl dX5_isValue_10 (by omega) ?_
    exact k0 (by omega)
theorem s_isGap {e : Ev} {d : Nat} {P : Option Vl → Mm → Prop} {σ : Mm} {a : Int}   (k1 : (0 ≤ a ∧ a ≤ 100000) → P (some (vI 1)) σ) (k0 : ¬ (0 ≤ a ∧ a ≤ 100000) → P (some (vI 0)) σ) : WT e (d + 2) 128 [vI a] σ P := by
  refine WT_in fun K hK => ?_
  have hK : StpY e cX5_isGap RX5 (some .boolean) (WT e (d + 1)) P K := hK
  have hM := hK.1
  have hC := hK.1.1
  show K 0 [some (vI a)] [] σ
  refine r_rngz hC (fun g0 => ?_)
  have r_a : -2147483648 ≤ a ∧ a ≤ 2147483647 := inR_le (g0 (vI a) (by simp))
  refine r_iload_n hC dX5_isGap_0 rfl ?_
  refine r_iconst hC dX5_isGap_1 rfl ?_
  refine r_ldcw hC dX5_isGap_2 co_RX5_284 rfl ?_
  refine z_ins3 hM dX5_isGap_5 tl_RX5_59 rfl (Nat.le_of_ble_eq_true rfl) (Nat.le_of_ble_eq_true rfl) ?_
  refine s_within (fun h2 => ?_) (fun h2 => ?_)
  · refine y_zret hK rfl dX5_isGap_8 (by omega) ?_
    exact k1 (by omega)
  · refine y_zret hK rfl dX5_isGap_8 (by omega) ?_
    exact k0 (by omega)
theorem s_product {e : Ev} {d : Nat} {P : Option Vl → Mm → Prop} {σ : Mm} {x y : Int} (b_x : 0 ≤ x ∧ x ≤ 3) (b_y : 0 ≤ y ∧ y ≤ 3)  (k : ∀ r : Int, 0 ≤ r ∧ r ≤ 3 → P (some (vI r)) σ) : WT e (d + 1) 51 [vR 2 0, vI x, vI y] σ P := by
  refine WT_in fun K hK => ?_
  have hK : StpY e cX5_product RX5 (some .int) (WT e (d + 0)) P K := hK
  have hM := hK.1
  have hC := hK.1.1
  show K 0 [some (vR 2 0), some (vI x), some (vI y)] [] σ
  refine r_aload_n hC dX5_product_0 rfl ?_
  refine z_getR hM dX5_product_1 fl_RX5_40 rfl rfl (vld_of (n := 1) rfl (by omega) (by omega)) ?_
  refine z_getR hM dX5_product_4 fl_RX5_67 rfl rfl (vld_of (n := 1) rfl (by omega) (by omega)) ?_
  refine r_iconst hC dX5_product_7 rfl ?_
  refine r_iload_n hC dX5_product_8 rfl ?_
  refine r_imulE hC ((4 * x)) dX5_product_9 (by omega) (by unfold inR; omega) ?_
  refine r_iload_n hC dX5_product_10 rfl ?_
  refine r_iaddE hC (((4 * x) + y)) dX5_product_11 (by omega) (by unfold inR; omega) ?_
  refine z_iald hM dX5_product_12 rfl (by omega) (by omega) (fun v1 h_v1 o_v1 t_v1 => ?_)
  have q_v1 : 0 ≤ v1 ∧ v1 ≤ 3 := o_v1
  refine y_iret hK rfl dX5_product_13 ?_
  exact k _ (by omega)
theorem s_associates {e : Ev} {d : Nat} {P : Option Vl → Mm → Prop} {σ : Mm} {x y z : Int} (b_x : 0 ≤ x ∧ x ≤ 3) (b_y : 0 ≤ y ∧ y ≤ 3) (b_z : 0 ≤ z ∧ z ≤ 3)  (k : ∀ r : Int, 0 ≤ r ∧ r ≤ 1 → P (some (vI r)) σ) : WT e (d + 2) 52 [vR 2 0, vI x, vI y, vI z] σ P := by
  refine WT_in fun K hK => ?_
  have hK : StpY e cX5_associates RX5 (some .boolean) (WT e (d + 1)) P K := hK
  have hM := hK.1
  have hC := hK.1.1
  show K 0 [some (vR 2 0), some (vI x), some (vI y), some (vI z)] [] σ
  refine r_aload_n hC dX5_associates_0 rfl ?_
  refine r_aload_n hC dX5_associates_1 rfl ?_
  refine r_iload_n hC dX5_associates_2 rfl ?_
  refine r_iload_n hC dX5_associates_3 rfl ?_
  refine z_inv2 hM dX5_associates_4 vl_RX5_90 rfl rfl rfl (Nat.le_of_ble_eq_true rfl) (Nat.le_of_ble_eq_true rfl) ?_
  refine s_product (by omega) (by omega) (fun v1 h_v1 => ?_)
  refine r_iload_n hC dX5_associates_7 rfl ?_
  refine z_inv2 hM dX5_associates_8 vl_RX5_90 rfl rfl rfl (Nat.le_of_ble_eq_true rfl) (Nat.le_of_ble_eq_true rfl) ?_
  refine s_product (by omega) (by omega) (fun v2 h_v2 => ?_)
  refine r_aload_n hC dX5_associates_11 rfl ?_
  refine r_iload_n hC dX5_associates_12 rfl ?_
  refine r_aload_n hC dX5_associates_13 rfl ?_
  refine r_iload_n hC dX5_associates_14 rfl ?_
  refine r_iload_n hC dX5_associates_15 rfl ?_
  refine z_inv2 hM dX5_associates_16 vl_RX5_90 rfl rfl rfl (Nat.le_of_ble_eq_true rfl) (Nat.le_of_ble_eq_true rfl) ?_
  refine s_product (by omega) (by omega) (fun v3 h_v3 => ?_)
  refine z_inv2 hM dX5_associates_19 vl_RX5_90 rfl rfl rfl (Nat.le_of_ble_eq_true rfl) (Nat.le_of_ble_eq_true rfl) ?_
  refine s_product (by omega) (by omega) (fun v4 h_v4 => ?_)
  have J30_6 : ∀ (w6 : Int), 0 ≤ w6 ∧ w6 ≤ 1 → K 30 [some (vR 2 0), some (vI x), some (vI y), some (vI z)] [vI w6] σ := by
    intro w6  f_w6 
    refine y_zret hK rfl dX5_associates_30 (by omega) ?_
    exact k _ (by omega)
  refine r_icmp_ne (tgt := 29) hC dX5_associates_22 rfl (fun h5 => ?_) (fun h5 => ?_)
  · refine r_iconst hC dX5_associates_29 rfl ?_
    exact J30_6 (0)  (by omega) 
  · refine r_iconst hC dX5_associates_25 rfl ?_
    refine r_goto (tgt := 30) hC dX5_associates_26 rfl ?_
    exact J30_6 (1)  (by omega) 
theorem s_triple {e : Ev} {d : Nat} {P : Option Vl → Mm → Prop} {σ : Mm} {w : Int}   (k : ∀ r : Int, -2147483648 ≤ r ∧ r ≤ 2147483647 → P (some (vI r)) σ) : WT e (d + 3) 49 [vR 2 0, vI w] σ P := by
  refine WT_in fun K hK => ?_
  have hK : StpY e cX5_triple RX5 (some .int) (WT e (d + 2)) P K := hK
  have hM := hK.1
  have hC := hK.1.1
  show K 0 [some (vR 2 0), some (vI w), none, none, none] [] σ
  refine r_rngz hC (fun g0 => ?_)
  have r_w : -2147483648 ≤ w ∧ w ≤ 2147483647 := inR_le (g0 (vI w) (by simp))
  refine r_iload_n hC dX5_triple_0 rfl ?_
  refine r_iconst hC dX5_triple_1 rfl ?_
  refine r_iconst hC dX5_triple_2 rfl ?_
  refine z_ins3 hM dX5_triple_3 tl_RX5_59 rfl (Nat.le_of_ble_eq_true rfl) (Nat.le_of_ble_eq_true rfl) ?_
  refine s_within (fun h2 => ?_) (fun h2 => ?_)
  · refine r_if_ne (tgt := 11) hC dX5_triple_6 rfl (fun h3 => ?_) (fun h3 => by omega)
    refine r_iconst hC dX5_triple_11 rfl ?_
    refine r_istore_n hC dX5_triple_12 rfl ?_
    refine r_iconst hC dX5_triple_13 rfl ?_
    refine r_istore_n hC dX5_triple_14 rfl ?_
    refine r_iconst hC dX5_triple_15 rfl ?_
    refine r_istore hC dX5_triple_16 rfl ?_
    have L18 : ∀ (n18 : Nat) (w4 w5 w6 : Int), -1 ≤ w4 ∧ w4 ≤ 63 → -2147483648 ≤ w5 ∧ w5 ≤ 2147483647 → 0 ≤ w6 ∧ w6 ≤ 64 → 64 - w6 < (n18 : Int) → K 18 [some (vR 2 0), some (vI w), some (vI w4), some (vI w5), some (vI w6)] [] σ := by
      intro n18
      induction n18 with
      | zero => intro w4 w5 w6  f_w4 f_w5 f_w6  hm ; omega
      | succ n18 ih18 =>
        intro w4 w5 w6  f_w4 f_w5 f_w6  hm18 
        refine r_iload hC dX5_triple_18 rfl ?_
        refine r_bipush hC dX5_triple_20 rfl ?_
        refine r_icmp_ge (tgt := 67) hC dX5_triple_22 rfl (fun h7 => ?_) (fun h7 => ?_)
        · refine r_iload_n hC dX5_triple_67 rfl ?_
          refine r_iconst hC dX5_triple_68 rfl ?_
          refine r_icmp_ne (tgt := 74) hC dX5_triple_69 rfl (fun h8 => ?_) (fun h8 => ?_)
          · refine r_iload_n hC dX5_triple_74 rfl ?_
            refine r_iconst hC dX5_triple_75 rfl ?_
            refine r_icmp_ne (tgt := 81) hC dX5_triple_76 rfl (fun h9 => ?_) (fun h9 => ?_)
            · refine r_iload_n hC dX5_triple_81 rfl ?_
              have J108_11 : ∀ (w11 : Int), 0 ≤ w11 ∧ w11 ≤ 3 → K 108 [some (vR 2 0), some (vI w), some (vI w4), some (vI w5), some (vI w6)] [vI w11] σ := by
                intro w11  f_w11 
                refine y_iret hK rfl dX5_triple_108 ?_
                exact k _ (by omega)
              refine r_if_ne (tgt := 92) hC dX5_triple_82 rfl (fun h10 => ?_) (fun h10 => ?_)
              · refine r_iload_n hC dX5_triple_92 rfl ?_
                refine r_iconst hC dX5_triple_93 rfl ?_
                refine r_icmp_ne (tgt := 105) hC dX5_triple_94 rfl (fun h13 => ?_) (fun h13 => ?_)
                · refine r_iload_n hC dX5_triple_105 rfl ?_
                  refine r_iconst hC dX5_triple_106 rfl ?_
                  refine r_iremN hC dX5_triple_107 (by omega) (by omega) ?_
                  exact J108_11 ((w4 % 4))  (by omega) 
                · refine r_iload_n hC dX5_triple_97 rfl ?_
                  refine r_iconst hC dX5_triple_98 rfl ?_
                  refine r_idivN hC dX5_triple_99 (by omega) (by omega) ?_
                  refine r_iconst hC dX5_triple_100 rfl ?_
                  refine r_iremN hC dX5_triple_101 (by omega) (by omega) ?_
                  refine r_goto (tgt := 108) hC dX5_triple_102 rfl ?_
                  exact J108_11 (((w4 / 4) % 4))  (by omega) 
              · refine r_iload_n hC dX5_triple_85 rfl ?_
                refine r_bipush hC dX5_triple_86 rfl ?_
                refine r_idivN hC dX5_triple_88 (by omega) (by omega) ?_
                refine r_goto (tgt := 108) hC dX5_triple_89 rfl ?_
                exact J108_11 ((w4 / 16))  (by omega) 
            · refine r_iconst hC dX5_triple_79 rfl ?_
              refine y_iret hK rfl dX5_triple_80 ?_
              exact k _ (by omega)
          · refine r_iload_n hC dX5_triple_72 rfl ?_
            refine y_iret hK rfl dX5_triple_73 ?_
            exact k _ (by omega)
        · refine r_aload_n hC dX5_triple_25 rfl ?_
          refine r_iload hC dX5_triple_26 rfl ?_
          refine r_bipush hC dX5_triple_28 rfl ?_
          refine r_idivN hC dX5_triple_30 (by omega) (by omega) ?_
          refine r_iload hC dX5_triple_31 rfl ?_
          refine r_iconst hC dX5_triple_33 rfl ?_
          refine r_idivN hC dX5_triple_34 (by omega) (by omega) ?_
          refine r_iconst hC dX5_triple_35 rfl ?_
          refine r_iremN hC dX5_triple_36 (by omega) (by omega) ?_
          refine r_iload hC dX5_triple_37 rfl ?_
          refine r_iconst hC dX5_triple_39 rfl ?_
          refine r_iremN hC dX5_triple_40 (by omega) (by omega) ?_
          refine z_inv3 hM dX5_triple_41 vl_RX5_74 rfl rfl rfl (Nat.le_of_ble_eq_true rfl) (Nat.le_of_ble_eq_true rfl) ?_
          refine s_associates (by omega) (by omega) (by omega) (fun v14 h_v14 => ?_)
          have J61_17 : ∀ (w16 w17 : Int), -1 ≤ w16 ∧ w16 ≤ 63 → -2147483648 ≤ w17 ∧ w17 ≤ 2147483647 → K 61 [some (vR 2 0), some (vI w), some (vI w16), some (vI w17), some (vI w6)] [] σ := by
            intro w16 w17  f_w16 f_w17 
            refine r_iincE hC ((w6 + 1)) dX5_triple_61 rfl rfl (by omega) (by unfold inR; omega) ?_
            refine r_goto (tgt := 18) hC dX5_triple_64 rfl ?_
            exact ih18 (w16) (w17) ((w6 + 1))  (by omega) (by omega) (by omega)  (by omega) 
          refine r_if_eq (tgt := 53) hC dX5_triple_44 rfl (fun h15 => ?_) (fun h15 => ?_)
          · refine r_iload_n hC dX5_triple_53 rfl ?_
            refine r_iconst hC dX5_triple_54 rfl ?_
            refine r_icmp_ne (tgt := 61) hC dX5_triple_55 rfl (fun h19 => ?_) (fun h19 => ?_)
            · exact J61_17 (w4) (w5)  (by omega) (by omega)
            · refine r_iload hC dX5_triple_58 rfl ?_
              refine r_istore_n hC dX5_triple_60 rfl ?_
              exact J61_17 (w6) (w5)  (by omega) (by omega) 
          · refine r_iincG hC dX5_triple_47 rfl rfl (fun v20 h_v20 => ?_)
            refine r_goto (tgt := 61) hC dX5_triple_50 rfl ?_
            exact J61_17 (w4) (v20)  (by omega) (by omega) 
    exact L18 66 ((-1)) (0) (0)  (by omega) (by omega) (by omega)  (by omega) 
  · refine r_if_ne (tgt := 11) hC dX5_triple_6 rfl (fun h21 => by omega) (fun h21 => ?_)
    refine r_iconst hC dX5_triple_9 rfl ?_
    refine y_iret hK rfl dX5_triple_10 ?_
    exact k _ (by omega)
theorem s_firstNeutral {e : Ev} {d : Nat} {P : Option Vl → Mm → Prop} {σ : Mm}   (k : ∀ r : Int, -1 ≤ r ∧ r ≤ 3 → P (some (vI r)) σ) : WT e (d + 2) 53 [vR 2 0] σ P := by
  refine WT_in fun K hK => ?_
  have hK : StpY e cX5_firstNeutral RX5 (some .int) (WT e (d + 1)) P K := hK
  have hM := hK.1
  have hC := hK.1.1
  show K 0 [some (vR 2 0), none, none, none] [] σ
  refine r_iconst hC dX5_firstNeutral_0 rfl ?_
  refine r_istore_n hC dX5_firstNeutral_1 rfl ?_
  have L2 : ∀ (n2 : Nat) (w1 : Int), 0 ≤ w1 ∧ w1 ≤ 4 → 4 - w1 < (n2 : Int) → K 2 [some (vR 2 0), some (vI w1), none, none] [] σ := by
    intro n2
    induction n2 with
    | zero => intro w1  f_w1  hm ; omega
    | succ n2 ih2 =>
      intro w1  f_w1  hm2 
      refine r_iload_n hC dX5_firstNeutral_2 rfl ?_
      refine r_iconst hC dX5_firstNeutral_3 rfl ?_
      refine r_icmp_ge (tgt := 63) hC dX5_firstNeutral_4 rfl (fun h2 => ?_) (fun h2 => ?_)
      · refine r_iconst hC dX5_firstNeutral_63 rfl ?_
        refine y_iret hK rfl dX5_firstNeutral_64 ?_
        exact k _ (by omega)
      · refine r_iconst hC dX5_firstNeutral_7 rfl ?_
        refine r_istore_n hC dX5_firstNeutral_8 rfl ?_
        refine r_iconst hC dX5_firstNeutral_9 rfl ?_
        refine r_istore_n hC dX5_firstNeutral_10 rfl ?_
        have L11 : ∀ (n11 : Nat) (w3 w4 : Int), -2147483648 ≤ w3 ∧ w3 ≤ 2147483647 → 0 ≤ w4 ∧ w4 ≤ 4 → 4 - w4 < (n11 : Int) → K 11 [some (vR 2 0), some (vI w1), some (vI w3), some (vI w4)] [] σ := by
          intro n11
          induction n11 with
          | zero => intro w3 w4  f_w3 f_w4  hm ; omega
          | succ n11 ih11 =>
            intro w3 w4  f_w3 f_w4  hm11 
            refine r_iload_n hC dX5_firstNeutral_11 rfl ?_
            refine r_iconst hC dX5_firstNeutral_12 rfl ?_
            refine r_icmp_ge (tgt := 50) hC dX5_firstNeutral_13 rfl (fun h5 => ?_) (fun h5 => ?_)
            · refine r_iload_n hC dX5_firstNeutral_50 rfl ?_
              refine r_iconst hC dX5_firstNeutral_51 rfl ?_
              refine r_icmp_ne (tgt := 57) hC dX5_firstNeutral_52 rfl (fun h6 => ?_) (fun h6 => ?_)
              · refine r_iincE hC ((w1 + 1)) dX5_firstNeutral_57 rfl rfl (by omega) (by unfold inR; omega) ?_
                refine r_goto (tgt := 2) hC dX5_firstNeutral_60 rfl ?_
                refine r_forget hC (ls2 := [some (vR 2 0), some (vI (w1 + 1)), none, none]) (lsub_some (lsub_some (lsub_none (lsub_none lsub_nil)))) ?_
                exact ih2 ((w1 + 1))  (by omega)  (by omega) 
              · refine r_iload_n hC dX5_firstNeutral_55 rfl ?_
                refine y_iret hK rfl dX5_firstNeutral_56 ?_
                exact k _ (by omega)
            · refine r_iload_n hC dX5_firstNeutral_16 rfl ?_
              refine r_aload_n hC dX5_firstNeutral_17 rfl ?_
              refine r_iload_n hC dX5_firstNeutral_18 rfl ?_
              refine r_iload_n hC dX5_firstNeutral_19 rfl ?_
              refine z_inv2 hM dX5_firstNeutral_20 vl_RX5_90 rfl rfl rfl (Nat.le_of_ble_eq_true rfl) (Nat.le_of_ble_eq_true rfl) ?_
              refine s_product (by omega) (by omega) (fun v7 h_v7 => ?_)
              refine r_iload_n hC dX5_firstNeutral_23 rfl ?_
              have J42_9 : ∀ (w9 : Int), 0 ≤ w9 ∧ w9 ≤ 1 → K 42 [some (vR 2 0), some (vI w1), some (vI w3), some (vI w4)] [vI w9, vI w3] σ := by
                intro w9  f_w9 
                refine r_iaddG hC dX5_firstNeutral_42 (fun v11 h_v11 => ?_)
                refine r_istore_n hC dX5_firstNeutral_43 rfl ?_
                refine r_iincE hC ((w4 + 1)) dX5_firstNeutral_44 rfl rfl (by omega) (by unfold inR; omega) ?_
                refine r_goto (tgt := 11) hC dX5_firstNeutral_47 rfl ?_
                exact ih11 (v11) ((w4 + 1))  (by omega) (by omega)  (by omega) 
              refine r_icmp_ne (tgt := 41) hC dX5_firstNeutral_24 rfl (fun h8 => ?_) (fun h8 => ?_)
              · refine r_iconst hC dX5_firstNeutral_41 rfl ?_
                exact J42_9 (0)  (by omega) 
              · refine r_aload_n hC dX5_firstNeutral_27 rfl ?_
                refine r_iload_n hC dX5_firstNeutral_28 rfl ?_
                refine r_iload_n hC dX5_firstNeutral_29 rfl ?_
                refine z_inv2 hM dX5_firstNeutral_30 vl_RX5_90 rfl rfl rfl (Nat.le_of_ble_eq_true rfl) (Nat.le_of_ble_eq_true rfl) ?_
                refine s_product (by omega) (by omega) (fun v12 h_v12 => ?_)
                refine r_iload_n hC dX5_firstNeutral_33 rfl ?_
                refine r_icmp_ne (tgt := 41) hC dX5_firstNeutral_34 rfl (fun h13 => ?_) (fun h13 => ?_)
                · refine r_iconst hC dX5_firstNeutral_41 rfl ?_
                  exact J42_9 (0)  (by omega) 
                · refine r_iconst hC dX5_firstNeutral_37 rfl ?_
                  refine r_goto (tgt := 42) hC dX5_firstNeutral_38 rfl ?_
                  exact J42_9 (1)  (by omega) 
        exact L11 6 (0) (0)  (by omega) (by omega)  (by omega) 
  exact L2 6 (0)  (by omega)  (by omega) 
theorem s_firstAbsorbing {e : Ev} {d : Nat} {P : Option Vl → Mm → Prop} {σ : Mm}   (k : ∀ r : Int, -1 ≤ r ∧ r ≤ 3 → P (some (vI r)) σ) : WT e (d + 2) 54 [vR 2 0] σ P := by
  refine WT_in fun K hK => ?_
  have hK : StpY e cX5_firstAbsorbing RX5 (some .int) (WT e (d + 1)) P K := hK
  have hM := hK.1
  have hC := hK.1.1
  show K 0 [some (vR 2 0), none, none, none] [] σ
  refine r_iconst hC dX5_firstAbsorbing_0 rfl ?_
  refine r_istore_n hC dX5_firstAbsorbing_1 rfl ?_
  have L2 : ∀ (n2 : Nat) (w1 : Int), 0 ≤ w1 ∧ w1 ≤ 4 → 4 - w1 < (n2 : Int) → K 2 [some (vR 2 0), some (vI w1), none, none] [] σ := by
    intro n2
    induction n2 with
    | zero => intro w1  f_w1  hm ; omega
    | succ n2 ih2 =>
      intro w1  f_w1  hm2 
      refine r_iload_n hC dX5_firstAbsorbing_2 rfl ?_
      refine r_iconst hC dX5_firstAbsorbing_3 rfl ?_
      refine r_icmp_ge (tgt := 63) hC dX5_firstAbsorbing_4 rfl (fun h2 => ?_) (fun h2 => ?_)
      · refine r_iconst hC dX5_firstAbsorbing_63 rfl ?_
        refine y_iret hK rfl dX5_firstAbsorbing_64 ?_
        exact k _ (by omega)
      · refine r_iconst hC dX5_firstAbsorbing_7 rfl ?_
        refine r_istore_n hC dX5_firstAbsorbing_8 rfl ?_
        refine r_iconst hC dX5_firstAbsorbing_9 rfl ?_
        refine r_istore_n hC dX5_firstAbsorbing_10 rfl ?_
        have L11 : ∀ (n11 : Nat) (w3 w4 : Int), -2147483648 ≤ w3 ∧ w3 ≤ 2147483647 → 0 ≤ w4 ∧ w4 ≤ 4 → 4 - w4 < (n11 : Int) → K 11 [some (vR 2 0), some (vI w1), some (vI w3), some (vI w4)] [] σ := by
          intro n11
          induction n11 with
          | zero => intro w3 w4  f_w3 f_w4  hm ; omega
          | succ n11 ih11 =>
            intro w3 w4  f_w3 f_w4  hm11 
            refine r_iload_n hC dX5_firstAbsorbing_11 rfl ?_
            refine r_iconst hC dX5_firstAbsorbing_12 rfl ?_
            refine r_icmp_ge (tgt := 50) hC dX5_firstAbsorbing_13 rfl (fun h5 => ?_) (fun h5 => ?_)
            · refine r_iload_n hC dX5_firstAbsorbing_50 rfl ?_
              refine r_iconst hC dX5_firstAbsorbing_51 rfl ?_
              refine r_icmp_ne (tgt := 57) hC dX5_firstAbsorbing_52 rfl (fun h6 => ?_) (fun h6 => ?_)
              · refine r_iincE hC ((w1 + 1)) dX5_firstAbsorbing_57 rfl rfl (by omega) (by unfold inR; omega) ?_
                refine r_goto (tgt := 2) hC dX5_firstAbsorbing_60 rfl ?_
                refine r_forget hC (ls2 := [some (vR 2 0), some (vI (w1 + 1)), none, none]) (lsub_some (lsub_some (lsub_none (lsub_none lsub_nil)))) ?_
                exact ih2 ((w1 + 1))  (by omega)  (by omega) 
              · refine r_iload_n hC dX5_firstAbsorbing_55 rfl ?_
                refine y_iret hK rfl dX5_firstAbsorbing_56 ?_
                exact k _ (by omega)
            · refine r_iload_n hC dX5_firstAbsorbing_16 rfl ?_
              refine r_aload_n hC dX5_firstAbsorbing_17 rfl ?_
              refine r_iload_n hC dX5_firstAbsorbing_18 rfl ?_
              refine r_iload_n hC dX5_firstAbsorbing_19 rfl ?_
              refine z_inv2 hM dX5_firstAbsorbing_20 vl_RX5_90 rfl rfl rfl (Nat.le_of_ble_eq_true rfl) (Nat.le_of_ble_eq_true rfl) ?_
              refine s_product (by omega) (by omega) (fun v7 h_v7 => ?_)
              refine r_iload_n hC dX5_firstAbsorbing_23 rfl ?_
              have J42_9 : ∀ (w9 : Int), 0 ≤ w9 ∧ w9 ≤ 1 → K 42 [some (vR 2 0), some (vI w1), some (vI w3), some (vI w4)] [vI w9, vI w3] σ := by
                intro w9  f_w9 
                refine r_iaddG hC dX5_firstAbsorbing_42 (fun v11 h_v11 => ?_)
                refine r_istore_n hC dX5_firstAbsorbing_43 rfl ?_
                refine r_iincE hC ((w4 + 1)) dX5_firstAbsorbing_44 rfl rfl (by omega) (by unfold inR; omega) ?_
                refine r_goto (tgt := 11) hC dX5_firstAbsorbing_47 rfl ?_
                exact ih11 (v11) ((w4 + 1))  (by omega) (by omega)  (by omega) 
              refine r_icmp_ne (tgt := 41) hC dX5_firstAbsorbing_24 rfl (fun h8 => ?_) (fun h8 => ?_)
              · refine r_iconst hC dX5_firstAbsorbing_41 rfl ?_
                exact J42_9 (0)  (by omega) 
              · refine r_aload_n hC dX5_firstAbsorbing_27 rfl ?_
                refine r_iload_n hC dX5_firstAbsorbing_28 rfl ?_
                refine r_iload_n hC dX5_firstAbsorbing_29 rfl ?_
                refine z_inv2 hM dX5_firstAbsorbing_30 vl_RX5_90 rfl rfl rfl (Nat.le_of_ble_eq_true rfl) (Nat.le_of_ble_eq_true rfl) ?_
                refine s_product (by omega) (by omega) (fun v12 h_v12 => ?_)
                refine r_iload_n hC dX5_firstAbsorbing_33 rfl ?_
                refine r_icmp_ne (tgt := 41) hC dX5_firstAbsorbing_34 rfl (fun h13 => ?_) (fun h13 => ?_)
                · refine r_iconst hC dX5_firstAbsorbing_41 rfl ?_
                  exact J42_9 (0)  (by omega) 
                · refine r_iconst hC dX5_firstAbsorbing_37 rfl ?_
                  refine r_goto (tgt := 42) hC dX5_firstAbsorbing_38 rfl ?_
                  exact J42_9 (1)  (by omega) 
        exact L11 6 (0) (0)  (by omega) (by omega)  (by omega) 
  exact L2 6 (0)  (by omega)  (by omega) 
theorem s_idempotents {e : Ev} {d : Nat} {P : Option Vl → Mm → Prop} {σ : Mm}   (k : ∀ r : Int, -2147483648 ≤ r ∧ r ≤ 2147483647 → P (some (vI r)) σ) : WT e (d + 2) 55 [vR 2 0] σ P := by
  refine WT_in fun K hK => ?_
  have hK : StpY e cX5_idempotents RX5 (some .int) (WT e (d + 1)) P K := hK
  have hM := hK.1
  have hC := hK.1.1
  show K 0 [some (vR 2 0), none, none] [] σ
  refine r_iconst hC dX5_idempotents_0 rfl ?_
  refine r_istore_n hC dX5_idempotents_1 rfl ?_
  refine r_iconst hC dX5_idempotents_2 rfl ?_
  refine r_istore_n hC dX5_idempotents_3 rfl ?_
  have L4 : ∀ (n4 : Nat) (w1 w2 : Int), -2147483648 ≤ w1 ∧ w1 ≤ 2147483647 → 0 ≤ w2 ∧ w2 ≤ 4 → 4 - w2 < (n4 : Int) → K 4 [some (vR 2 0), some (vI w1), some (vI w2)] [] σ := by
    intro n4
    induction n4 with
    | zero => intro w1 w2  f_w1 f_w2  hm ; omega
    | succ n4 ih4 =>
      intro w1 w2  f_w1 f_w2  hm4 
      refine r_iload_n hC dX5_idempotents_4 rfl ?_
      refine r_iconst hC dX5_idempotents_5 rfl ?_
      refine r_icmp_ge (tgt := 33) hC dX5_idempotents_6 rfl (fun h3 => ?_) (fun h3 => ?_)
      · refine r_iload_n hC dX5_idempotents_33 rfl ?_
        refine y_iret hK rfl dX5_idempotents_34 ?_
        exact k _ (by omega)
      · refine r_iload_n hC dX5_idempotents_9 rfl ?_
        refine r_aload_n hC dX5_idempotents_10 rfl ?_
        refine r_iload_n hC dX5_idempotents_11 rfl ?_
        refine r_iload_n hC dX5_idempotents_12 rfl ?_
        refine z_inv2 hM dX5_idempotents_13 vl_RX5_90 rfl rfl rfl (Nat.le_of_ble_eq_true rfl) (Nat.le_of_ble_eq_true rfl) ?_
        refine s_product (by omega) (by omega) (fun v4 h_v4 => ?_)
        refine r_iload_n hC dX5_idempotents_16 rfl ?_
        have J25_6 : ∀ (w6 : Int), 0 ≤ w6 ∧ w6 ≤ 1 → K 25 [some (vR 2 0), some (vI w1), some (vI w2)] [vI w6, vI w1] σ := by
          intro w6  f_w6 
          refine r_iaddG hC dX5_idempotents_25 (fun v8 h_v8 => ?_)
          refine r_istore_n hC dX5_idempotents_26 rfl ?_
          refine r_iincE hC ((w2 + 1)) dX5_idempotents_27 rfl rfl (by omega) (by unfold inR; omega) ?_
          refine r_goto (tgt := 4) hC dX5_idempotents_30 rfl ?_
          exact ih4 (v8) ((w2 + 1))  (by omega) (by omega)  (by omega) 
        refine r_icmp_ne (tgt := 24) hC dX5_idempotents_17 rfl (fun h5 => ?_) (fun h5 => ?_)
        · refine r_iconst hC dX5_idempotents_24 rfl ?_
          exact J25_6 (0)  (by omega) 
        · refine r_iconst hC dX5_idempotents_20 rfl ?_
          refine r_goto (tgt := 25) hC dX5_idempotents_21 rfl ?_
          exact J25_6 (1)  (by omega) 
  exact L4 6 (0) (0)  (by omega) (by omega)  (by omega) 
theorem s_commutingPairs {e : Ev} {d : Nat} {P : Option Vl → Mm → Prop} {σ : Mm}   (k : ∀ r : Int, -2147483648 ≤ r ∧ r ≤ 2147483647 → P (some (vI r)) σ) : WT e (d + 2) 56 [vR 2 0] σ P := by
  refine WT_in fun K hK => ?_
  have hK : StpY e cX5_commutingPairs RX5 (some .int) (WT e (d + 1)) P K := hK
  have hM := hK.1
  have hC := hK.1.1
  show K 0 [some (vR 2 0), none, none, none] [] σ
  refine r_iconst hC dX5_commutingPairs_0 rfl ?_
  refine r_istore_n hC dX5_commutingPairs_1 rfl ?_
  refine r_iconst hC dX5_commutingPairs_2 rfl ?_
  refine r_istore_n hC dX5_commutingPairs_3 rfl ?_
  have L4 : ∀ (n4 : Nat) (w1 w2 : Int), -2147483648 ≤ w1 ∧ w1 ≤ 2147483647 → 0 ≤ w2 ∧ w2 ≤ 4 → 4 - w2 < (n4 : Int) → K 4 [some (vR 2 0), some (vI w1), some (vI w2), none] [] σ := by
    intro n4
    induction n4 with
    | zero => intro w1 w2  f_w1 f_w2  hm ; omega
    | succ n4 ih4 =>
      intro w1 w2  f_w1 f_w2  hm4 
      refine r_iload_n hC dX5_commutingPairs_4 rfl ?_
      refine r_iconst hC dX5_commutingPairs_5 rfl ?_
      refine r_icmp_ge (tgt := 51) hC dX5_commutingPairs_6 rfl (fun h3 => ?_) (fun h3 => ?_)
      · refine r_iload_n hC dX5_commutingPairs_51 rfl ?_
        refine y_iret hK rfl dX5_commutingPairs_52 ?_
        exact k _ (by omega)
      · refine r_iconst hC dX5_commutingPairs_9 rfl ?_
        refine r_istore_n hC dX5_commutingPairs_10 rfl ?_
        have L11 : ∀ (n11 : Nat) (w4 w5 : Int), -2147483648 ≤ w4 ∧ w4 ≤ 2147483647 → 0 ≤ w5 ∧ w5 ≤ 4 → 4 - w5 < (n11 : Int) → K 11 [some (vR 2 0), some (vI w4), some (vI w2), some (vI w5)] [] σ := by
          intro n11
          induction n11 with
          | zero => intro w4 w5  f_w4 f_w5  hm ; omega
          | succ n11 ih11 =>
            intro w4 w5  f_w4 f_w5  hm11 
            refine r_iload_n hC dX5_commutingPairs_11 rfl ?_
            refine r_iconst hC dX5_commutingPairs_12 rfl ?_
            refine r_icmp_ge (tgt := 45) hC dX5_commutingPairs_13 rfl (fun h6 => ?_) (fun h6 => ?_)
            · refine r_iincE hC ((w2 + 1)) dX5_commutingPairs_45 rfl rfl (by omega) (by unfold inR; omega) ?_
              refine r_goto (tgt := 4) hC dX5_commutingPairs_48 rfl ?_
              refine r_forget hC (ls2 := [some (vR 2 0), some (vI w4), some (vI (w2 + 1)), none]) (lsub_some (lsub_some (lsub_some (lsub_none lsub_nil)))) ?_
              exact ih4 (w4) ((w2 + 1))  (by omega) (by omega)  (by omega) 
            · refine r_iload_n hC dX5_commutingPairs_16 rfl ?_
              refine r_aload_n hC dX5_commutingPairs_17 rfl ?_
              refine r_iload_n hC dX5_commutingPairs_18 rfl ?_
              refine r_iload_n hC dX5_commutingPairs_19 rfl ?_
              refine z_inv2 hM dX5_commutingPairs_20 vl_RX5_90 rfl rfl rfl (Nat.le_of_ble_eq_true rfl) (Nat.le_of_ble_eq_true rfl) ?_
              refine s_product (by omega) (by omega) (fun v7 h_v7 => ?_)
              refine r_aload_n hC dX5_commutingPairs_23 rfl ?_
              refine r_iload_n hC dX5_commutingPairs_24 rfl ?_
              refine r_iload_n hC dX5_commutingPairs_25 rfl ?_
              refine z_inv2 hM dX5_commutingPairs_26 vl_RX5_90 rfl rfl rfl (Nat.le_of_ble_eq_true rfl) (Nat.le_of_ble_eq_true rfl) ?_
              refine s_product (by omega) (by omega) (fun v8 h_v8 => ?_)
              have J37_10 : ∀ (w10 : Int), 0 ≤ w10 ∧ w10 ≤ 1 → K 37 [some (vR 2 0), some (vI w4), some (vI w2), some (vI w5)] [vI w10, vI w4] σ := by
                intro w10  f_w10 
                refine r_iaddG hC dX5_commutingPairs_37 (fun v12 h_v12 => ?_)
                refine r_istore_n hC dX5_commutingPairs_38 rfl ?_
                refine r_iincE hC ((w5 + 1)) dX5_commutingPairs_39 rfl rfl (by omega) (by unfold inR; omega) ?_
                refine r_goto (tgt := 11) hC dX5_commutingPairs_42 rfl ?_
                exact ih11 (v12) ((w5 + 1))  (by omega) (by omega)  (by omega) 
              refine r_icmp_ne (tgt := 36) hC dX5_commutingPairs_29 rfl (fun h9 => ?_) (fun h9 => ?_)
              · refine r_iconst hC dX5_commutingPairs_36 rfl ?_
                exact J37_10 (0)  (by omega) 
              · refine r_iconst hC dX5_commutingPairs_32 rfl ?_
                refine r_goto (tgt := 37) hC dX5_commutingPairs_33 rfl ?_
                exact J37_10 (1)  (by omega) 
        exact L11 6 (w1) (0)  (by omega) (by omega)  (by omega) 
  exact L4 6 (0) (0)  (by omega) (by omega)  (by omega) 
theorem s_element {e : Ev} {d : Nat} {P : Option Vl → Mm → Prop} {σ : Mm} {w : Int}   (k : ∀ r : Int, -2147483648 ≤ r ∧ r ≤ 2147483647 → P (some (vI r)) σ) : WT e (d + 3) 50 [vR 2 0, vI w] σ P := by
  refine WT_in fun K hK => ?_
  have hK : StpY e cX5_element RX5 (some .int) (WT e (d + 2)) P K := hK
  have hM := hK.1
  have hC := hK.1.1
  show K 0 [some (vR 2 0), some (vI w)] [] σ
  refine r_rngz hC (fun g0 => ?_)
  have r_w : -2147483648 ≤ w ∧ w ≤ 2147483647 := inR_le (g0 (vI w) (by simp))
  refine r_iload_n hC dX5_element_0 rfl ?_
  rcases (by omega : (w < 0 ∨ 3 < w) ∨ w = 0 ∨ w = 1 ∨ w = 2 ∨ w = 3) with h1 | h1 | h1 | h1 | h1
  · refine r_tableOut (tgt := 52) hC dX5_element_1 h1 rfl ?_
    refine r_iconst hC dX5_element_52 rfl ?_
    refine y_iret hK rfl dX5_element_53 ?_
    exact k _ (by omega)
  · refine r_tableIn (tgt := 32) (off := 31) hC dX5_element_1 (by omega) (by omega) (by rw [h1]; rfl) rfl ?_
    refine r_aload_n hC dX5_element_32 rfl ?_
    refine z_inv0 hM dX5_element_33 vl_RX5_77 rfl rfl rfl (Nat.le_of_ble_eq_true rfl) (Nat.le_of_ble_eq_true rfl) ?_
    refine s_firstNeutral (fun v2 h_v2 => ?_)
    refine y_iret hK rfl dX5_element_36 ?_
    exact k _ (by omega)
  · refine r_tableIn (tgt := 37) (off := 36) hC dX5_element_1 (by omega) (by omega) (by rw [h1]; rfl) rfl ?_
    refine r_aload_n hC dX5_element_37 rfl ?_
    refine z_inv0 hM dX5_element_38 vl_RX5_81 rfl rfl rfl (Nat.le_of_ble_eq_true rfl) (Nat.le_of_ble_eq_true rfl) ?_
    refine s_firstAbsorbing (fun v3 h_v3 => ?_)
    refine y_iret hK rfl dX5_element_41 ?_
    exact k _ (by omega)
  · refine r_tableIn (tgt := 42) (off := 41) hC dX5_element_1 (by omega) (by omega) (by rw [h1]; rfl) rfl ?_
    refine r_aload_n hC dX5_element_42 rfl ?_
    refine z_inv0 hM dX5_element_43 vl_RX5_84 rfl rfl rfl (Nat.le_of_ble_eq_true rfl) (Nat.le_of_ble_eq_true rfl) ?_
    refine s_idempotents (fun v4 h_v4 => ?_)
    refine y_iret hK rfl dX5_element_46 ?_
    exact k _ (by omega)
  · refine r_tableIn (tgt := 47) (off := 46) hC dX5_element_1 (by omega) (by omega) (by rw [h1]; rfl) rfl ?_
    refine r_aload_n hC dX5_element_47 rfl ?_
    refine z_inv0 hM dX5_element_48 vl_RX5_87 rfl rfl rfl (Nat.le_of_ble_eq_true rfl) (Nat.le_of_ble_eq_true rfl) ?_
    refine s_commutingPairs (fun v5 h_v5 => ?_)
    refine y_iret hK rfl dX5_element_51 ?_
    exact k _ (by omega)
theorem s_isUsed {e : Ev} {d : Nat} {P : Option Vl → Mm → Prop} {σ : Mm} {o : Int}   (k : ∀ r : Int, 0 ≤ r ∧ r ≤ 1 → P (some (vI r)) σ) : WT e (d + 1) 57 [vR 2 0, vI o] σ P := by
  refine WT_in fun K hK => ?_
  have hK : StpY e cX5_isUsed RX5 (some .boolean) (WT e (d + 0)) P K := hK
  have hM := hK.1
  have hC := hK.1.1
  show K 0 [some (vR 2 0), some (vI o), none] [] σ
  refine r_rngz hC (fun g0 => ?_)
  have r_o : -2147483648 ≤ o ∧ o ≤ 2147483647 := inR_le (g0 (vI o) (by simp))
  refine r_iconst hC dX5_isUsed_0 rfl ?_
  refine r_istore_n hC dX5_isUsed_1 rfl ?_
  have L2 : ∀ (n2 : Nat) (w1 : Int), 0 ≤ w1 ∧ w1 ≤ 4 → 4 - w1 < (n2 : Int) → K 2 [some (vR 2 0), some (vI o), some (vI w1)] [] σ := by
    intro n2
    induction n2 with
    | zero => intro w1  f_w1  hm ; omega
    | succ n2 ih2 =>
      intro w1  f_w1  hm2 
      refine r_iload_n hC dX5_isUsed_2 rfl ?_
      refine r_iconst hC dX5_isUsed_3 rfl ?_
      refine r_icmp_ge (tgt := 40) hC dX5_isUsed_4 rfl (fun h2 => ?_) (fun h2 => ?_)
      · refine r_iconst hC dX5_isUsed_40 rfl ?_
        refine r_istore_n hC dX5_isUsed_41 rfl ?_
        have L42 : ∀ (n42 : Nat) (w3 : Int), 0 ≤ w3 ∧ w3 ≤ 3 → 3 - w3 < (n42 : Int) → K 42 [some (vR 2 0), some (vI o), some (vI w3)] [] σ := by
          intro n42
          induction n42 with
          | zero => intro w3  f_w3  hm ; omega
          | succ n42 ih42 =>
            intro w3  f_w3  hm42 
            refine r_iload_n hC dX5_isUsed_42 rfl ?_
            refine r_iconst hC dX5_isUsed_43 rfl ?_
            refine r_icmp_ge (tgt := 80) hC dX5_isUsed_44 rfl (fun h4 => ?_) (fun h4 => ?_)
            · refine r_iconst hC dX5_isUsed_80 rfl ?_
              refine y_zret hK rfl dX5_isUsed_81 (by omega) ?_
              exact k _ (by omega)
            · refine r_aload_n hC dX5_isUsed_47 rfl ?_
              refine z_getR hM dX5_isUsed_48 fl_RX5_27 rfl rfl (vld_of (n := 1) rfl (by omega) (by omega)) ?_
              refine r_iload_n hC dX5_isUsed_51 rfl ?_
              refine z_aald hM dX5_isUsed_52 rfl (by decide) (by omega) (by omega) (vld_of (n := 7) rfl (by omega) (by omega)) ?_
              rw [show rfa 4 w3 = (7, (w3 + 4)) from by simp [rfa]; try omega]
              refine z_getI (jz := 1) hM dX5_isUsed_53 fl_RX5_94 rfl rfl rfl (fun v5 h_v5 o_v5 t_v5 => ?_)
              have q_v5 : 0 ≤ v5 ∧ v5 ≤ 1 := by have := o_v5.2.1 rfl; omega
              refine r_if_eq (tgt := 74) hC dX5_isUsed_56 rfl (fun h6 => ?_) (fun h6 => ?_)
              · refine r_iincE hC ((w3 + 1)) dX5_isUsed_74 rfl rfl (by omega) (by unfold inR; omega) ?_
                refine r_goto (tgt := 42) hC dX5_isUsed_77 rfl ?_
                exact ih42 ((w3 + 1))  (by omega)  (by omega) 
              · refine r_aload_n hC dX5_isUsed_59 rfl ?_
                refine z_getR hM dX5_isUsed_60 fl_RX5_27 rfl rfl (vld_of (n := 1) rfl (by omega) (by omega)) ?_
                refine r_iload_n hC dX5_isUsed_63 rfl ?_
                refine z_aald hM dX5_isUsed_64 rfl (by decide) (by omega) (by omega) (vld_of (n := 7) rfl (by omega) (by omega)) ?_
                rw [show rfa 4 w3 = (7, (w3 + 4)) from by simp [rfa]; try omega]
                refine z_getI (jz := 2) hM dX5_isUsed_65 fl_RX5_98 rfl rfl rfl (fun v7 h_v7 o_v7 t_v7 => ?_)
                have q_v7 : 0 ≤ v7 ∧ v7 ≤ 9 := o_v7.2.2 rfl
                refine r_iload_n hC dX5_isUsed_68 rfl ?_
                refine r_icmp_ne (tgt := 74) hC dX5_isUsed_69 rfl (fun h8 => ?_) (fun h8 => ?_)
                · refine r_iincE hC ((w3 + 1)) dX5_isUsed_74 rfl rfl (by omega) (by unfold inR; omega) ?_
                  refine r_goto (tgt := 42) hC dX5_isUsed_77 rfl ?_
                  exact ih42 ((w3 + 1))  (by omega)  (by omega) 
                · refine r_iconst hC dX5_isUsed_72 rfl ?_
                  refine y_zret hK rfl dX5_isUsed_73 (by omega) ?_
                  exact k _ (by omega)
        exact L42 5 (0)  (by omega)  (by omega) 
      · refine r_aload_n hC dX5_isUsed_7 rfl ?_
        refine z_getR hM dX5_isUsed_8 fl_RX5_13 rfl rfl (vld_of (n := 1) rfl (by omega) (by omega)) ?_
        refine r_iload_n hC dX5_isUsed_11 rfl ?_
        refine z_aald hM dX5_isUsed_12 rfl (by decide) (by omega) (by omega) (vld_of (n := 7) rfl (by omega) (by omega)) ?_
        refine z_getI (jz := 1) hM dX5_isUsed_13 fl_RX5_94 rfl rfl rfl (fun v9 h_v9 o_v9 t_v9 => ?_)
        have q_v9 : 0 ≤ v9 ∧ v9 ≤ 1 := by have := o_v9.2.1 rfl; omega
        refine r_if_eq (tgt := 34) hC dX5_isUsed_16 rfl (fun h10 => ?_) (fun h10 => ?_)
        · refine r_iincE hC ((w1 + 1)) dX5_isUsed_34 rfl rfl (by omega) (by unfold inR; omega) ?_
          refine r_goto (tgt := 2) hC dX5_isUsed_37 rfl ?_
          exact ih2 ((w1 + 1))  (by omega)  (by omega) 
        · refine r_aload_n hC dX5_isUsed_19 rfl ?_
          refine z_getR hM dX5_isUsed_20 fl_RX5_13 rfl rfl (vld_of (n := 1) rfl (by omega) (by omega)) ?_
          refine r_iload_n hC dX5_isUsed_23 rfl ?_
          refine z_aald hM dX5_isUsed_24 rfl (by decide) (by omega) (by omega) (vld_of (n := 7) rfl (by omega) (by omega)) ?_
          refine z_getI (jz := 2) hM dX5_isUsed_25 fl_RX5_98 rfl rfl rfl (fun v11 h_v11 o_v11 t_v11 => ?_)
          have q_v11 : 0 ≤ v11 ∧ v11 ≤ 9 := o_v11.2.2 rfl
          refine r_iload_n hC dX5_isUsed_28 rfl ?_
          refine r_icmp_ne (tgt := 34) hC dX5_isUsed_29 rfl (fun h12 => ?_) (fun h12 => ?_)
          · refine r_iincE hC ((w1 + 1)) dX5_isUsed_34 rfl rfl (by omega) (by unfold inR; omega) ?_
            refine r_goto (tgt := 2) hC dX5_isUsed_37 rfl ?_
            exact ih2 ((w1 + 1))  (by omega)  (by omega) 
          · refine r_iconst hC dX5_isUsed_32 rfl ?_
            refine y_zret hK rfl dX5_isUsed_33 (by omega) ?_
            exact k _ (by omega)
  exact L2 6 (0)  (by omega)  (by omega) 
theorem s_openLane {e : Ev} {d : Nat} {P : Option Vl → Mm → Prop} {σ : Mm} {l : Int}   (kN : P (some vN) σ) (kR : (0 ≤ l ∧ l ≤ 3) → P (some (vR 7 l)) σ) : WT e (d + 3) 129 [vR 2 0, vI l] σ P := by
  refine WT_in fun K hK => ?_
  have hK : StpY e cX5_openLane RX5 (some (.object "SlideFold$Lane")) (WT e (d + 2)) P K := hK
  have hM := hK.1
  have hC := hK.1.1
  show K 0 [some (vR 2 0), some (vI l)] [] σ
  refine r_rngz hC (fun g0 => ?_)
  have r_l : -2147483648 ≤ l ∧ l ≤ 2147483647 := inR_le (g0 (vI l) (by simp))
  refine r_iload_n hC dX5_openLane_0 rfl ?_
  refine z_ins1 hM dX5_openLane_1 tl_RX5_102 rfl (Nat.le_of_ble_eq_true rfl) (Nat.le_of_ble_eq_true rfl) ?_
  refine s_isLane (fun h2 => ?_) (fun h2 => ?_)
  · refine r_if_eq (tgt := 28) hC dX5_openLane_4 rfl (fun h3 => by omega) (fun h3 => ?_)
    refine r_aload_n hC dX5_openLane_7 rfl ?_
    refine z_getR hM dX5_openLane_8 fl_RX5_13 rfl rfl (vld_of (n := 1) rfl (by omega) (by omega)) ?_
    refine r_iload_n hC dX5_openLane_11 rfl ?_
    refine z_aald hM dX5_openLane_12 rfl (by decide) (by omega) (by omega) (vld_of (n := 7) rfl (by omega) (by omega)) ?_
    refine z_getI (jz := 1) hM dX5_openLane_13 fl_RX5_94 rfl rfl rfl (fun v4 h_v4 o_v4 t_v4 => ?_)
    have q_v4 : 0 ≤ v4 ∧ v4 ≤ 1 := by have := o_v4.2.1 rfl; omega
    refine r_if_eq (tgt := 28) hC dX5_openLane_16 rfl (fun h5 => ?_) (fun h5 => ?_)
    · refine r_null hC dX5_openLane_28 ?_
      refine y_aret hK rfl dX5_openLane_29 ?_
      exact kN
    · refine r_aload_n hC dX5_openLane_19 rfl ?_
      refine z_getR hM dX5_openLane_20 fl_RX5_13 rfl rfl (vld_of (n := 1) rfl (by omega) (by omega)) ?_
      refine r_iload_n hC dX5_openLane_23 rfl ?_
      refine z_aald hM dX5_openLane_24 rfl (by decide) (by omega) (by omega) (vld_of (n := 7) rfl (by omega) (by omega)) ?_
      refine r_goto (tgt := 29) hC dX5_openLane_25 rfl ?_
      refine y_aret hK rfl dX5_openLane_29 ?_
      exact kR (by omega)
  · refine r_if_eq (tgt := 28) hC dX5_openLane_4 rfl (fun h6 => ?_) (fun h6 => by omega)
    refine r_null hC dX5_openLane_28 ?_
    refine y_aret hK rfl dX5_openLane_29 ?_
    exact kN
theorem s_hasNumber {e : Ev} {d : Nat} {P : Option Vl → Mm → Prop} {σ : Mm} {i w : Int} (b_i : 0 ≤ i ∧ i ≤ 6)  (k : ∀ r : Int, 0 ≤ r ∧ r ≤ 1 → P (some (vI r)) σ) : WT e (d + 2) 28 [vR 7 i, vI w] σ P := by
  refine WT_in fun K hK => ?_
  have hK : StpY e cX2_hasNumber RX2 (some .boolean) (WT e (d + 1)) P K := hK
  have hM := hK.1
  have hC := hK.1.1
  show K 0 [some (vR 7 i), some (vI w)] [] σ
  refine r_rngz hC (fun g0 => ?_)
  have r_w : -2147483648 ≤ w ∧ w ≤ 2147483647 := inR_le (g0 (vI w) (by simp))
  refine r_iload_n hC dX2_hasNumber_0 rfl ?_
  refine r_iconst hC dX2_hasNumber_1 rfl ?_
  refine z_nums hM dX2_hasNumber_2 sl_RX2_82 ?_
  refine r_aload_n hC dX2_hasNumber_5 rfl ?_
  refine z_getI (jz := 2) hM dX2_hasNumber_6 fl_RX2_36 rfl rfl rfl (fun v1 h_v1 o_v1 t_v1 => ?_)
  have q_v1 : 0 ≤ v1 ∧ v1 ≤ 9 := o_v1.2.2 rfl
  refine z_nald hM dX2_hasNumber_9 (by omega) (by omega) ?_
  obtain ⟨v2, e_v2⟩ : ∃ x, x = numF v1 := ⟨_, rfl⟩
  rw [← e_v2]
  have h_v2 : 1 ≤ v2 ∧ v2 ≤ 7 := by rw [e_v2]; exact numF_rng _
  refine r_iconst hC dX2_hasNumber_10 rfl ?_
  refine r_isubE hC ((v2 - 1)) dX2_hasNumber_11 (by omega) (by unfold inR; omega) ?_
  refine z_ins3 hM dX2_hasNumber_12 tl_RX2_85 rfl (Nat.le_of_ble_eq_true rfl) (Nat.le_of_ble_eq_true rfl) ?_
  refine s_within (fun h4 => ?_) (fun h4 => ?_)
  · refine y_zret hK rfl dX2_hasNumber_15 (by omega) ?_
    exact k _ (by omega)
  · refine y_zret hK rfl dX2_hasNumber_15 (by omega) ?_
    exact k _ (by omega)
theorem s_laneWith {e : Ev} {d : Nat} {P : Option Vl → Mm → Prop} {σ : Mm} {l w : Int}   (kN : P (some vN) σ) (kR : (0 ≤ l ∧ l ≤ 3) → P (some (vR 7 l)) σ) : WT e (d + 4) 130 [vR 2 0, vI l, vI w] σ P := by
  refine WT_in fun K hK => ?_
  have hK : StpY e cX5_laneWith RX5 (some (.object "SlideFold$Lane")) (WT e (d + 3)) P K := hK
  have hM := hK.1
  have hC := hK.1.1
  show K 0 [some (vR 2 0), some (vI l), some (vI w), none] [] σ
  refine r_rngz hC (fun g0 => ?_)
  have r_l : -2147483648 ≤ l ∧ l ≤ 2147483647 := inR_le (g0 (vI l) (by simp))
  have r_w : -2147483648 ≤ w ∧ w ≤ 2147483647 := inR_le (g0 (vI w) (by simp))
  refine r_aload_n hC dX5_laneWith_0 rfl ?_
  refine r_iload_n hC dX5_laneWith_1 rfl ?_
  refine z_inv1 hM dX5_laneWith_2 vl_RX5_123 rfl rfl rfl (Nat.le_of_ble_eq_true rfl) (Nat.le_of_ble_eq_true rfl) ?_
  refine s_openLane ?_ (fun h1 => ?_)
  · refine r_astoreN_n hC dX5_laneWith_5 rfl ?_
    refine r_aloadN_n hC dX5_laneWith_6 rfl ?_
    refine r_ifnullN (tgt := 22) hC dX5_laneWith_7 rfl ?_
    refine r_null hC dX5_laneWith_22 ?_
    refine y_aret hK rfl dX5_laneWith_23 ?_
    exact kN
  · refine r_astore_n hC dX5_laneWith_5 rfl ?_
    refine r_aload_n hC dX5_laneWith_6 rfl ?_
    refine r_ifnullR hC dX5_laneWith_7 ?_
    refine r_aload_n hC dX5_laneWith_10 rfl ?_
    refine r_iload_n hC dX5_laneWith_11 rfl ?_
    refine z_inv1 hM dX5_laneWith_12 vl_RX5_266 rfl rfl rfl (Nat.le_of_ble_eq_true rfl) (Nat.le_of_ble_eq_true rfl) ?_
    refine s_hasNumber (by omega) (fun v2 h_v2 => ?_)
    refine r_if_eq (tgt := 22) hC dX5_laneWith_15 rfl (fun h3 => ?_) (fun h3 => ?_)
    · refine r_null hC dX5_laneWith_22 ?_
      refine y_aret hK rfl dX5_laneWith_23 ?_
      exact kN
    · refine r_aload_n hC dX5_laneWith_18 rfl ?_
      refine r_goto (tgt := 23) hC dX5_laneWith_19 rfl ?_
      refine y_aret hK rfl dX5_laneWith_23 ?_
      exact kR (by omega)
theorem s_laneHolding {e : Ev} {d : Nat} {P : Option Vl → Mm → Prop} {σ : Mm} {l x : Int}   (kN : P (some vN) σ) (kR : (0 ≤ l ∧ l ≤ 3) ∧ 0 ≤ x ∧ x ≤ 120 → (e.1 = true → x < σ 7 l 6) → P (some (vR 7 l)) σ) : WT e (d + 4) 131 [vR 2 0, vI l, vI x] σ P := by
  refine WT_in fun K hK => ?_
  have hK : StpY e cX5_laneHolding RX5 (some (.object "SlideFold$Lane")) (WT e (d + 3)) P K := hK
  have hM := hK.1
  have hC := hK.1.1
  show K 0 [some (vR 2 0), some (vI l), some (vI x), none] [] σ
  refine r_rngz hC (fun g0 => ?_)
  have r_l : -2147483648 ≤ l ∧ l ≤ 2147483647 := inR_le (g0 (vI l) (by simp))
  have r_x : -2147483648 ≤ x ∧ x ≤ 2147483647 := inR_le (g0 (vI x) (by simp))
  refine r_aload_n hC dX5_laneHolding_0 rfl ?_
  refine r_iload_n hC dX5_laneHolding_1 rfl ?_
  refine z_inv1 hM dX5_laneHolding_2 vl_RX5_123 rfl rfl rfl (Nat.le_of_ble_eq_true rfl) (Nat.le_of_ble_eq_true rfl) ?_
  refine s_openLane ?_ (fun h1 => ?_)
  · refine r_astoreN_n hC dX5_laneHolding_5 rfl ?_
    refine r_aloadN_n hC dX5_laneHolding_6 rfl ?_
    refine r_ifnullN (tgt := 28) hC dX5_laneHolding_7 rfl ?_
    refine r_null hC dX5_laneHolding_28 ?_
    refine y_aret hK rfl dX5_laneHolding_29 ?_
    exact kN
  · refine r_astore_n hC dX5_laneHolding_5 rfl ?_
    refine r_aload_n hC dX5_laneHolding_6 rfl ?_
    refine r_ifnullR hC dX5_laneHolding_7 ?_
    refine r_iload_n hC dX5_laneHolding_10 rfl ?_
    refine r_iconst hC dX5_laneHolding_11 rfl ?_
    refine r_aload_n hC dX5_laneHolding_12 rfl ?_
    refine z_getI (jz := 6) hM dX5_laneHolding_13 fl_RX5_154 rfl rfl rfl (fun v2 h_v2 o_v2 t_v2 => ?_)
    have q_v2 : 0 ≤ v2 ∧ v2 ≤ 121 := o_v2.1 rfl
    refine r_iconst hC dX5_laneHolding_16 rfl ?_
    refine r_isubE hC ((v2 - 1)) dX5_laneHolding_17 (by omega) (by unfold inR; omega) ?_
    refine z_ins3 hM dX5_laneHolding_18 tl_RX5_59 rfl (Nat.le_of_ble_eq_true rfl) (Nat.le_of_ble_eq_true rfl) ?_
    refine s_within (fun h4 => ?_) (fun h4 => ?_)
    · refine r_if_eq (tgt := 28) hC dX5_laneHolding_21 rfl (fun h5 => by omega) (fun h5 => ?_)
      refine r_aload_n hC dX5_laneHolding_24 rfl ?_
      refine r_goto (tgt := 29) hC dX5_laneHolding_25 rfl ?_
      refine y_aret hK rfl dX5_laneHolding_29 ?_
      exact kR (by omega) (fun he => by have := t_v2 (Or.inr (Or.inl ⟨he, Or.inr (Or.inr rfl)⟩)); omega)
    · refine r_if_eq (tgt := 28) hC dX5_laneHolding_21 rfl (fun h6 => ?_) (fun h6 => by omega)
      refine r_null hC dX5_laneHolding_28 ?_
      refine y_aret hK rfl dX5_laneHolding_29 ?_
      exact kN
theorem s_openLanes {e : Ev} {d : Nat} {P : Option Vl → Mm → Prop} {σ : Mm}   (k : ∀ r : Int, -2147483648 ≤ r ∧ r ≤ 2147483647 → P (some (vI r)) σ) : WT e (d + 1) 117 [vR 2 0] σ P := by
  refine WT_in fun K hK => ?_
  have hK : StpY e cX5_openLanes RX5 (some .int) (WT e (d + 0)) P K := hK
  have hM := hK.1
  have hC := hK.1.1
  show K 0 [some (vR 2 0), none, none] [] σ
  refine r_iconst hC dX5_openLanes_0 rfl ?_
  refine r_istore_n hC dX5_openLanes_1 rfl ?_
  refine r_iconst hC dX5_openLanes_2 rfl ?_
  refine r_istore_n hC dX5_openLanes_3 rfl ?_
  have L4 : ∀ (n4 : Nat) (w1 w2 : Int), -2147483648 ≤ w1 ∧ w1 ≤ 2147483647 → 0 ≤ w2 ∧ w2 ≤ 4 → 4 - w2 < (n4 : Int) → K 4 [some (vR 2 0), some (vI w1), some (vI w2)] [] σ := by
    intro n4
    induction n4 with
    | zero => intro w1 w2  f_w1 f_w2  hm ; omega
    | succ n4 ih4 =>
      intro w1 w2  f_w1 f_w2  hm4 
      refine r_iload_n hC dX5_openLanes_4 rfl ?_
      refine r_iconst hC dX5_openLanes_5 rfl ?_
      refine r_icmp_ge (tgt := 35) hC dX5_openLanes_6 rfl (fun h3 => ?_) (fun h3 => ?_)
      · refine r_iload_n hC dX5_openLanes_35 rfl ?_
        refine y_iret hK rfl dX5_openLanes_36 ?_
        exact k _ (by omega)
      · refine r_iload_n hC dX5_openLanes_9 rfl ?_
        refine r_aload_n hC dX5_openLanes_10 rfl ?_
        refine z_getR hM dX5_openLanes_11 fl_RX5_13 rfl rfl (vld_of (n := 1) rfl (by omega) (by omega)) ?_
        refine r_iload_n hC dX5_openLanes_14 rfl ?_
        refine z_aald hM dX5_openLanes_15 rfl (by decide) (by omega) (by omega) (vld_of (n := 7) rfl (by omega) (by omega)) ?_
        refine z_getI (jz := 1) hM dX5_openLanes_16 fl_RX5_94 rfl rfl rfl (fun v4 h_v4 o_v4 t_v4 => ?_)
        have q_v4 : 0 ≤ v4 ∧ v4 ≤ 1 := by have := o_v4.2.1 rfl; omega
        have J27_6 : ∀ (w6 : Int), 0 ≤ w6 ∧ w6 ≤ 1 → K 27 [some (vR 2 0), some (vI w1), some (vI w2)] [vI w6, vI w1] σ := by
          intro w6  f_w6 
          refine r_iaddG hC dX5_openLanes_27 (fun v8 h_v8 => ?_)
          refine r_istore_n hC dX5_openLanes_28 rfl ?_
          refine r_iincE hC ((w2 + 1)) dX5_openLanes_29 rfl rfl (by omega) (by unfold inR; omega) ?_
          refine r_goto (tgt := 4) hC dX5_openLanes_32 rfl ?_
          exact ih4 (v8) ((w2 + 1))  (by omega) (by omega)  (by omega) 
        refine r_if_eq (tgt := 26) hC dX5_openLanes_19 rfl (fun h5 => ?_) (fun h5 => ?_)
        · refine r_iconst hC dX5_openLanes_26 rfl ?_
          exact J27_6 (0)  (by omega) 
        · refine r_iconst hC dX5_openLanes_22 rfl ?_
          refine r_goto (tgt := 27) hC dX5_openLanes_23 rfl ?_
          exact J27_6 (1)  (by omega) 
  exact L4 6 (0) (0)  (by omega) (by omega)  (by omega) 
theorem s_heldInAll {e : Ev} {d : Nat} {P : Option Vl → Mm → Prop} {σ : Mm}   (k : ∀ r : Int, -2147483648 ≤ r ∧ r ≤ 2147483647 → P (some (vI r)) σ) : WT e (d + 1) 118 [vR 2 0] σ P := by
  refine WT_in fun K hK => ?_
  have hK : StpY e cX5_heldInAll RX5 (some .int) (WT e (d + 0)) P K := hK
  have hM := hK.1
  have hC := hK.1.1
  show K 0 [some (vR 2 0), none, none] [] σ
  refine r_iconst hC dX5_heldInAll_0 rfl ?_
  refine r_istore_n hC dX5_heldInAll_1 rfl ?_
  refine r_iconst hC dX5_heldInAll_2 rfl ?_
  refine r_istore_n hC dX5_heldInAll_3 rfl ?_
  have L4 : ∀ (n4 : Nat) (w1 w2 : Int), -2147483648 ≤ w1 ∧ w1 ≤ 2147483647 → 0 ≤ w2 ∧ w2 ≤ 4 → 4 - w2 < (n4 : Int) → K 4 [some (vR 2 0), some (vI w1), some (vI w2)] [] σ := by
    intro n4
    induction n4 with
    | zero => intro w1 w2  f_w1 f_w2  hm ; omega
    | succ n4 ih4 =>
      intro w1 w2  f_w1 f_w2  hm4 
      refine r_iload_n hC dX5_heldInAll_4 rfl ?_
      refine r_iconst hC dX5_heldInAll_5 rfl ?_
      refine r_icmp_ge (tgt := 43) hC dX5_heldInAll_6 rfl (fun h3 => ?_) (fun h3 => ?_)
      · refine r_iload_n hC dX5_heldInAll_43 rfl ?_
        refine y_iret hK rfl dX5_heldInAll_44 ?_
        exact k _ (by omega)
      · refine r_iload_n hC dX5_heldInAll_9 rfl ?_
        refine r_aload_n hC dX5_heldInAll_10 rfl ?_
        refine z_getR hM dX5_heldInAll_11 fl_RX5_13 rfl rfl (vld_of (n := 1) rfl (by omega) (by omega)) ?_
        refine r_iload_n hC dX5_heldInAll_14 rfl ?_
        refine z_aald hM dX5_heldInAll_15 rfl (by decide) (by omega) (by omega) (vld_of (n := 7) rfl (by omega) (by omega)) ?_
        refine z_getI (jz := 1) hM dX5_heldInAll_16 fl_RX5_94 rfl rfl rfl (fun v4 h_v4 o_v4 t_v4 => ?_)
        have q_v4 : 0 ≤ v4 ∧ v4 ≤ 1 := by have := o_v4.2.1 rfl; omega
        have J35_6 : ∀ (w6 : Int), 0 ≤ w6 ∧ w6 ≤ 121 → K 35 [some (vR 2 0), some (vI w1), some (vI w2)] [vI w6, vI w1] σ := by
          intro w6  f_w6 
          refine r_iaddG hC dX5_heldInAll_35 (fun v8 h_v8 => ?_)
          refine r_istore_n hC dX5_heldInAll_36 rfl ?_
          refine r_iincE hC ((w2 + 1)) dX5_heldInAll_37 rfl rfl (by omega) (by unfold inR; omega) ?_
          refine r_goto (tgt := 4) hC dX5_heldInAll_40 rfl ?_
          exact ih4 (v8) ((w2 + 1))  (by omega) (by omega)  (by omega) 
        refine r_if_eq (tgt := 34) hC dX5_heldInAll_19 rfl (fun h5 => ?_) (fun h5 => ?_)
        · refine r_iconst hC dX5_heldInAll_34 rfl ?_
          exact J35_6 (0)  (by omega) 
        · refine r_aload_n hC dX5_heldInAll_22 rfl ?_
          refine z_getR hM dX5_heldInAll_23 fl_RX5_13 rfl rfl (vld_of (n := 1) rfl (by omega) (by omega)) ?_
          refine r_iload_n hC dX5_heldInAll_26 rfl ?_
          refine z_aald hM dX5_heldInAll_27 rfl (by decide) (by omega) (by omega) (vld_of (n := 7) rfl (by omega) (by omega)) ?_
          refine z_getI (jz := 6) hM dX5_heldInAll_28 fl_RX5_154 rfl rfl rfl (fun v9 h_v9 o_v9 t_v9 => ?_)
          have q_v9 : 0 ≤ v9 ∧ v9 ≤ 121 := o_v9.1 rfl
          refine r_goto (tgt := 35) hC dX5_heldInAll_31 rfl ?_
          exact J35_6 (v9)  (by omega) 
  exact L4 6 (0) (0)  (by omega) (by omega)  (by omega) 
theorem s_spentInAll {e : Ev} {d : Nat} {P : Option Vl → Mm → Prop} {σ : Mm}   (k : ∀ r : Int, -2147483648 ≤ r ∧ r ≤ 2147483647 → P (some (vI r)) σ) : WT e (d + 1) 119 [vR 2 0] σ P := by
  refine WT_in fun K hK => ?_
  have hK : StpY e cX5_spentInAll RX5 (some .int) (WT e (d + 0)) P K := hK
  have hM := hK.1
  have hC := hK.1.1
  show K 0 [some (vR 2 0), none, none] [] σ
  refine r_iconst hC dX5_spentInAll_0 rfl ?_
  refine r_istore_n hC dX5_spentInAll_1 rfl ?_
  refine r_iconst hC dX5_spentInAll_2 rfl ?_
  refine r_istore_n hC dX5_spentInAll_3 rfl ?_
  have L4 : ∀ (n4 : Nat) (w1 w2 : Int), -2147483648 ≤ w1 ∧ w1 ≤ 2147483647 → 0 ≤ w2 ∧ w2 ≤ 4 → 4 - w2 < (n4 : Int) → K 4 [some (vR 2 0), some (vI w1), some (vI w2)] [] σ := by
    intro n4
    induction n4 with
    | zero => intro w1 w2  f_w1 f_w2  hm ; omega
    | succ n4 ih4 =>
      intro w1 w2  f_w1 f_w2  hm4 
      refine r_iload_n hC dX5_spentInAll_4 rfl ?_
      refine r_iconst hC dX5_spentInAll_5 rfl ?_
      refine r_icmp_ge (tgt := 46) hC dX5_spentInAll_6 rfl (fun h3 => ?_) (fun h3 => ?_)
      · refine r_iload_n hC dX5_spentInAll_46 rfl ?_
        refine y_iret hK rfl dX5_spentInAll_47 ?_
        exact k _ (by omega)
      · refine r_iload_n hC dX5_spentInAll_9 rfl ?_
        refine r_aload_n hC dX5_spentInAll_10 rfl ?_
        refine z_getR hM dX5_spentInAll_11 fl_RX5_13 rfl rfl (vld_of (n := 1) rfl (by omega) (by omega)) ?_
        refine r_iload_n hC dX5_spentInAll_14 rfl ?_
        refine z_aald hM dX5_spentInAll_15 rfl (by decide) (by omega) (by omega) (vld_of (n := 7) rfl (by omega) (by omega)) ?_
        refine z_getI (jz := 1) hM dX5_spentInAll_16 fl_RX5_94 rfl rfl rfl (fun v4 h_v4 o_v4 t_v4 => ?_)
        have q_v4 : 0 ≤ v4 ∧ v4 ≤ 1 := by have := o_v4.2.1 rfl; omega
        have J38_6 : ∀ (w6 : Int), -2147483648 ≤ w6 ∧ w6 ≤ 2147483647 → K 38 [some (vR 2 0), some (vI w1), some (vI w2)] [vI w6, vI w1] σ := by
          intro w6  f_w6 
          refine r_iaddG hC dX5_spentInAll_38 (fun v8 h_v8 => ?_)
          refine r_istore_n hC dX5_spentInAll_39 rfl ?_
          refine r_iincE hC ((w2 + 1)) dX5_spentInAll_40 rfl rfl (by omega) (by unfold inR; omega) ?_
          refine r_goto (tgt := 4) hC dX5_spentInAll_43 rfl ?_
          exact ih4 (v8) ((w2 + 1))  (by omega) (by omega)  (by omega) 
        refine r_if_eq (tgt := 37) hC dX5_spentInAll_19 rfl (fun h5 => ?_) (fun h5 => ?_)
        · refine r_iconst hC dX5_spentInAll_37 rfl ?_
          exact J38_6 (0)  (by omega) 
        · refine r_aload_n hC dX5_spentInAll_22 rfl ?_
          refine z_getR hM dX5_spentInAll_23 fl_RX5_13 rfl rfl (vld_of (n := 1) rfl (by omega) (by omega)) ?_
          refine r_iload_n hC dX5_spentInAll_26 rfl ?_
          refine z_aald hM dX5_spentInAll_27 rfl (by decide) (by omega) (by omega) (vld_of (n := 7) rfl (by omega) (by omega)) ?_
          refine z_getR hM dX5_spentInAll_28 fl_RX5_189 rfl rfl (vld_of (n := 8) rfl (by omega) (by omega)) ?_
          refine z_getI (jz := 5) hM dX5_spentInAll_31 fl_RX5_304 rfl rfl rfl (fun v9 h_v9 o_v9 t_v9 => ?_)
          refine r_goto (tgt := 38) hC dX5_spentInAll_34 rfl ?_
          exact J38_6 (v9)  (by omega) 
  exact L4 6 (0) (0)  (by omega) (by omega)  (by omega) 
theorem s_fullBoxes {e : Ev} {d : Nat} {P : Option Vl → Mm → Prop} {σ : Mm}   (k : ∀ r : Int, -2147483648 ≤ r ∧ r ≤ 2147483647 → P (some (vI r)) σ) : WT e (d + 1) 121 [vR 2 0] σ P := by
  refine WT_in fun K hK => ?_
  have hK : StpY e cX5_fullBoxes RX5 (some .int) (WT e (d + 0)) P K := hK
  have hM := hK.1
  have hC := hK.1.1
  show K 0 [some (vR 2 0), none, none] [] σ
  refine r_iconst hC dX5_fullBoxes_0 rfl ?_
  refine r_istore_n hC dX5_fullBoxes_1 rfl ?_
  refine r_iconst hC dX5_fullBoxes_2 rfl ?_
  refine r_istore_n hC dX5_fullBoxes_3 rfl ?_
  have L4 : ∀ (n4 : Nat) (w1 w2 : Int), -2147483648 ≤ w1 ∧ w1 ≤ 2147483647 → 0 ≤ w2 ∧ w2 ≤ 3 → 3 - w2 < (n4 : Int) → K 4 [some (vR 2 0), some (vI w1), some (vI w2)] [] σ := by
    intro n4
    induction n4 with
    | zero => intro w1 w2  f_w1 f_w2  hm ; omega
    | succ n4 ih4 =>
      intro w1 w2  f_w1 f_w2  hm4 
      refine r_iload_n hC dX5_fullBoxes_4 rfl ?_
      refine r_iconst hC dX5_fullBoxes_5 rfl ?_
      refine r_icmp_ge (tgt := 35) hC dX5_fullBoxes_6 rfl (fun h3 => ?_) (fun h3 => ?_)
      · refine r_iload_n hC dX5_fullBoxes_35 rfl ?_
        refine y_iret hK rfl dX5_fullBoxes_36 ?_
        exact k _ (by omega)
      · refine r_iload_n hC dX5_fullBoxes_9 rfl ?_
        refine r_aload_n hC dX5_fullBoxes_10 rfl ?_
        refine z_getR hM dX5_fullBoxes_11 fl_RX5_27 rfl rfl (vld_of (n := 1) rfl (by omega) (by omega)) ?_
        refine r_iload_n hC dX5_fullBoxes_14 rfl ?_
        refine z_aald hM dX5_fullBoxes_15 rfl (by decide) (by omega) (by omega) (vld_of (n := 7) rfl (by omega) (by omega)) ?_
        rw [show rfa 4 w2 = (7, (w2 + 4)) from by simp [rfa]; try omega]
        refine z_getI (jz := 1) hM dX5_fullBoxes_16 fl_RX5_94 rfl rfl rfl (fun v4 h_v4 o_v4 t_v4 => ?_)
        have q_v4 : 0 ≤ v4 ∧ v4 ≤ 1 := by have := o_v4.2.1 rfl; omega
        have J27_6 : ∀ (w6 : Int), 0 ≤ w6 ∧ w6 ≤ 1 → K 27 [some (vR 2 0), some (vI w1), some (vI w2)] [vI w6, vI w1] σ := by
          intro w6  f_w6 
          refine r_iaddG hC dX5_fullBoxes_27 (fun v8 h_v8 => ?_)
          refine r_istore_n hC dX5_fullBoxes_28 rfl ?_
          refine r_iincE hC ((w2 + 1)) dX5_fullBoxes_29 rfl rfl (by omega) (by unfold inR; omega) ?_
          refine r_goto (tgt := 4) hC dX5_fullBoxes_32 rfl ?_
          exact ih4 (v8) ((w2 + 1))  (by omega) (by omega)  (by omega) 
        refine r_if_eq (tgt := 26) hC dX5_fullBoxes_19 rfl (fun h5 => ?_) (fun h5 => ?_)
        · refine r_iconst hC dX5_fullBoxes_26 rfl ?_
          exact J27_6 (0)  (by omega) 
        · refine r_iconst hC dX5_fullBoxes_22 rfl ?_
          refine r_goto (tgt := 27) hC dX5_fullBoxes_23 rfl ?_
          exact J27_6 (1)  (by omega) 
  exact L4 5 (0) (0)  (by omega) (by omega)  (by omega) 
theorem s_linksInAll {e : Ev} {d : Nat} {P : Option Vl → Mm → Prop} {σ : Mm}   (k : ∀ r : Int, -2147483648 ≤ r ∧ r ≤ 2147483647 → P (some (vI r)) σ) : WT e (d + 1) 123 [vR 2 0] σ P := by
  refine WT_in fun K hK => ?_
  have hK : StpY e cX5_linksInAll RX5 (some .int) (WT e (d + 0)) P K := hK
  have hM := hK.1
  have hC := hK.1.1
  show K 0 [some (vR 2 0), none, none] [] σ
  refine r_iconst hC dX5_linksInAll_0 rfl ?_
  refine r_istore_n hC dX5_linksInAll_1 rfl ?_
  refine r_iconst hC dX5_linksInAll_2 rfl ?_
  refine r_istore_n hC dX5_linksInAll_3 rfl ?_
  have L4 : ∀ (n4 : Nat) (w1 w2 : Int), -2147483648 ≤ w1 ∧ w1 ≤ 2147483647 → 0 ≤ w2 ∧ w2 ≤ 4 → 4 - w2 < (n4 : Int) → K 4 [some (vR 2 0), some (vI w1), some (vI w2)] [] σ := by
    intro n4
    induction n4 with
    | zero => intro w1 w2  f_w1 f_w2  hm ; omega
    | succ n4 ih4 =>
      intro w1 w2  f_w1 f_w2  hm4 
      refine r_iload_n hC dX5_linksInAll_4 rfl ?_
      refine r_iconst hC dX5_linksInAll_5 rfl ?_
      refine r_icmp_ge (tgt := 36) hC dX5_linksInAll_6 rfl (fun h3 => ?_) (fun h3 => ?_)
      · refine r_iload_n hC dX5_linksInAll_36 rfl ?_
        refine y_iret hK rfl dX5_linksInAll_37 ?_
        exact k _ (by omega)
      · refine r_iload_n hC dX5_linksInAll_9 rfl ?_
        refine r_aload_n hC dX5_linksInAll_10 rfl ?_
        refine z_getR hM dX5_linksInAll_11 fl_RX5_19 rfl rfl (vld_of (n := 1) rfl (by omega) (by omega)) ?_
        refine r_iload_n hC dX5_linksInAll_14 rfl ?_
        refine z_aald hM dX5_linksInAll_15 rfl (by decide) (by omega) (by omega) (vld_of (n := 4) rfl (by omega) (by omega)) ?_
        refine z_getI (jz := 0) hM dX5_linksInAll_16 fl_RX5_215 rfl rfl rfl (fun v4 h_v4 o_v4 t_v4 => ?_)
        refine r_iconst hC dX5_linksInAll_19 rfl ?_
        have J28_6 : ∀ (w6 : Int), 0 ≤ w6 ∧ w6 ≤ 1 → K 28 [some (vR 2 0), some (vI w1), some (vI w2)] [vI w6, vI w1] σ := by
          intro w6  f_w6 
          refine r_iaddG hC dX5_linksInAll_28 (fun v8 h_v8 => ?_)
          refine r_istore_n hC dX5_linksInAll_29 rfl ?_
          refine r_iincE hC ((w2 + 1)) dX5_linksInAll_30 rfl rfl (by omega) (by unfold inR; omega) ?_
          refine r_goto (tgt := 4) hC dX5_linksInAll_33 rfl ?_
          exact ih4 (v8) ((w2 + 1))  (by omega) (by omega)  (by omega) 
        refine r_icmp_eq (tgt := 27) hC dX5_linksInAll_20 rfl (fun h5 => ?_) (fun h5 => ?_)
        · refine r_iconst hC dX5_linksInAll_27 rfl ?_
          exact J28_6 (0)  (by omega) 
        · refine r_iconst hC dX5_linksInAll_23 rfl ?_
          refine r_goto (tgt := 28) hC dX5_linksInAll_24 rfl ?_
          exact J28_6 (1)  (by omega) 
  exact L4 6 (0) (0)  (by omega) (by omega)  (by omega) 
theorem s_isTold {e : Ev} {d : Nat} {P : Option Vl → Mm → Prop} {σ : Mm} {v : Int}   (k1 : 0 ≤ v ∧ v ≤ 7 → P (some (vI 1)) σ) (k0 : P (some (vI 0)) σ) : WT e (d + 2) 101 [vR 2 0, vI v] σ P := by
  refine WT_in fun K hK => ?_
  have hK : StpY e cX5_isTold RX5 (some .boolean) (WT e (d + 1)) P K := hK
  have hM := hK.1
  have hC := hK.1.1
  show K 0 [some (vR 2 0), some (vI v)] [] σ
  refine r_rngz hC (fun g0 => ?_)
  have r_v : -2147483648 ≤ v ∧ v ≤ 2147483647 := inR_le (g0 (vI v) (by simp))
  refine r_iload_n hC dX5_isTold_0 rfl ?_
  refine r_iconst hC dX5_isTold_1 rfl ?_
  refine r_bipush hC dX5_isTold_2 rfl ?_
  refine z_ins3 hM dX5_isTold_4 tl_RX5_59 rfl (Nat.le_of_ble_eq_true rfl) (Nat.le_of_ble_eq_true rfl) ?_
  refine s_within (fun h2 => ?_) (fun h2 => ?_)
  · refine r_if_eq (tgt := 27) hC dX5_isTold_7 rfl (fun h3 => by omega) (fun h3 => ?_)
    refine r_aload_n hC dX5_isTold_10 rfl ?_
    refine z_getR hM dX5_isTold_11 fl_RX5_32 rfl rfl (vld_of (n := 1) rfl (by omega) (by omega)) ?_
    refine r_iload_n hC dX5_isTold_14 rfl ?_
    refine z_aald hM dX5_isTold_15 rfl (by decide) (by omega) (by omega) (vld_of (n := 8) rfl (by omega) (by omega)) ?_
    refine z_getI (jz := 0) hM dX5_isTold_16 fl_RX5_321 rfl rfl rfl (fun v4 h_v4 o_v4 t_v4 => ?_)
    refine r_iconst hC dX5_isTold_19 rfl ?_
    refine r_icmp_eq (tgt := 27) hC dX5_isTold_20 rfl (fun h5 => ?_) (fun h5 => ?_)
    · refine r_iconst hC dX5_isTold_27 rfl ?_
      refine y_zret hK rfl dX5_isTold_28 (by omega) ?_
      exact k0
    · refine r_iconst hC dX5_isTold_23 rfl ?_
      refine r_goto (tgt := 28) hC dX5_isTold_24 rfl ?_
      refine y_zret hK rfl dX5_isTold_28 (by omega) ?_
      exact k1 (by omega)
  · refine r_if_eq (tgt := 27) hC dX5_isTold_7 rfl (fun h6 => ?_) (fun h6 => by omega)
    refine r_iconst hC dX5_isTold_27 rfl ?_
    refine y_zret hK rfl dX5_isTold_28 (by omega) ?_
    exact k0
theorem s_toldWatches {e : Ev} {d : Nat} {P : Option Vl → Mm → Prop} {σ : Mm}   (k : ∀ r : Int, -2147483648 ≤ r ∧ r ≤ 2147483647 → P (some (vI r)) σ) : WT e (d + 3) 120 [vR 2 0] σ P := by
  refine WT_in fun K hK => ?_
  have hK : StpY e cX5_toldWatches RX5 (some .int) (WT e (d + 2)) P K := hK
  have hM := hK.1
  have hC := hK.1.1
  show K 0 [some (vR 2 0), none, none] [] σ
  refine r_iconst hC dX5_toldWatches_0 rfl ?_
  refine r_istore_n hC dX5_toldWatches_1 rfl ?_
  refine r_iconst hC dX5_toldWatches_2 rfl ?_
  refine r_istore_n hC dX5_toldWatches_3 rfl ?_
  have L4 : ∀ (n4 : Nat) (w1 w2 : Int), -2147483648 ≤ w1 ∧ w1 ≤ 2147483647 → 0 ≤ w2 ∧ w2 ≤ 8 → 8 - w2 < (n4 : Int) → K 4 [some (vR 2 0), some (vI w1), some (vI w2)] [] σ := by
    intro n4
    induction n4 with
    | zero => intro w1 w2  f_w1 f_w2  hm ; omega
    | succ n4 ih4 =>
      intro w1 w2  f_w1 f_w2  hm4 
      refine r_iload_n hC dX5_toldWatches_4 rfl ?_
      refine r_bipush hC dX5_toldWatches_5 rfl ?_
      refine r_icmp_ge (tgt := 32) hC dX5_toldWatches_7 rfl (fun h3 => ?_) (fun h3 => ?_)
      · refine r_iload_n hC dX5_toldWatches_32 rfl ?_
        refine y_iret hK rfl dX5_toldWatches_33 ?_
        exact k _ (by omega)
      · refine r_iload_n hC dX5_toldWatches_10 rfl ?_
        refine r_aload_n hC dX5_toldWatches_11 rfl ?_
        refine r_iload_n hC dX5_toldWatches_12 rfl ?_
        refine z_inv1 hM dX5_toldWatches_13 vl_RX5_312 rfl rfl rfl (Nat.le_of_ble_eq_true rfl) (Nat.le_of_ble_eq_true rfl) ?_
        refine s_isTold (fun h4 => ?_) ?_
        · refine r_if_eq (tgt := 23) hC dX5_toldWatches_16 rfl (fun h5 => by omega) (fun h5 => ?_)
          refine r_iconst hC dX5_toldWatches_19 rfl ?_
          refine r_goto (tgt := 24) hC dX5_toldWatches_20 rfl ?_
          refine r_iaddG hC dX5_toldWatches_24 (fun v6 h_v6 => ?_)
          refine r_istore_n hC dX5_toldWatches_25 rfl ?_
          refine r_iincE hC ((w2 + 1)) dX5_toldWatches_26 rfl rfl (by omega) (by unfold inR; omega) ?_
          refine r_goto (tgt := 4) hC dX5_toldWatches_29 rfl ?_
          exact ih4 (v6) ((w2 + 1))  (by omega) (by omega)  (by omega) 
        · refine r_if_eq (tgt := 23) hC dX5_toldWatches_16 rfl (fun h7 => ?_) (fun h7 => by omega)
          refine r_iconst hC dX5_toldWatches_23 rfl ?_
          refine r_iaddE hC (w1) dX5_toldWatches_24 (by omega) (by unfold inR; omega) ?_
          refine r_istore_n hC dX5_toldWatches_25 rfl ?_
          refine r_iincE hC ((w2 + 1)) dX5_toldWatches_26 rfl rfl (by omega) (by unfold inR; omega) ?_
          refine r_goto (tgt := 4) hC dX5_toldWatches_29 rfl ?_
          exact ih4 (w1) ((w2 + 1))  (by omega) (by omega)  (by omega) 
  exact L4 10 (0) (0)  (by omega) (by omega)  (by omega) 
theorem s_ringsInAll {e : Ev} {d : Nat} {P : Option Vl → Mm → Prop} {σ : Mm}   (k : ∀ r : Int, -2147483648 ≤ r ∧ r ≤ 2147483647 → P (some (vI r)) σ) : WT e (d + 3) 122 [vR 2 0] σ P := by
  refine WT_in fun K hK => ?_
  have hK : StpY e cX5_ringsInAll RX5 (some .int) (WT e (d + 2)) P K := hK
  have hM := hK.1
  have hC := hK.1.1
  show K 0 [some (vR 2 0), none, none] [] σ
  refine r_iconst hC dX5_ringsInAll_0 rfl ?_
  refine r_istore_n hC dX5_ringsInAll_1 rfl ?_
  refine r_iconst hC dX5_ringsInAll_2 rfl ?_
  refine r_istore_n hC dX5_ringsInAll_3 rfl ?_
  have L4 : ∀ (n4 : Nat) (w1 w2 : Int), -2147483648 ≤ w1 ∧ w1 ≤ 2147483647 → 0 ≤ w2 ∧ w2 ≤ 8 → 8 - w2 < (n4 : Int) → K 4 [some (vR 2 0), some (vI w1), some (vI w2)] [] σ := by
    intro n4
    induction n4 with
    | zero => intro w1 w2  f_w1 f_w2  hm ; omega
    | succ n4 ih4 =>
      intro w1 w2  f_w1 f_w2  hm4 
      refine r_iload_n hC dX5_ringsInAll_4 rfl ?_
      refine r_bipush hC dX5_ringsInAll_5 rfl ?_
      refine r_icmp_ge (tgt := 40) hC dX5_ringsInAll_7 rfl (fun h3 => ?_) (fun h3 => ?_)
      · refine r_iload_n hC dX5_ringsInAll_40 rfl ?_
        refine y_iret hK rfl dX5_ringsInAll_41 ?_
        exact k _ (by omega)
      · refine r_iload_n hC dX5_ringsInAll_10 rfl ?_
        refine r_aload_n hC dX5_ringsInAll_11 rfl ?_
        refine r_iload_n hC dX5_ringsInAll_12 rfl ?_
        refine z_inv1 hM dX5_ringsInAll_13 vl_RX5_312 rfl rfl rfl (Nat.le_of_ble_eq_true rfl) (Nat.le_of_ble_eq_true rfl) ?_
        refine s_isTold (fun h4 => ?_) ?_
        · refine r_if_eq (tgt := 31) hC dX5_ringsInAll_16 rfl (fun h5 => by omega) (fun h5 => ?_)
          refine r_aload_n hC dX5_ringsInAll_19 rfl ?_
          refine z_getR hM dX5_ringsInAll_20 fl_RX5_32 rfl rfl (vld_of (n := 1) rfl (by omega) (by omega)) ?_
          refine r_iload_n hC dX5_ringsInAll_23 rfl ?_
          refine z_aald hM dX5_ringsInAll_24 rfl (by decide) (by omega) (by omega) (vld_of (n := 8) rfl (by omega) (by omega)) ?_
          refine z_getI (jz := 4) hM dX5_ringsInAll_25 fl_RX5_315 rfl rfl rfl (fun v6 h_v6 o_v6 t_v6 => ?_)
          refine r_goto (tgt := 32) hC dX5_ringsInAll_28 rfl ?_
          refine r_iaddG hC dX5_ringsInAll_32 (fun v7 h_v7 => ?_)
          refine r_istore_n hC dX5_ringsInAll_33 rfl ?_
          refine r_iincE hC ((w2 + 1)) dX5_ringsInAll_34 rfl rfl (by omega) (by unfold inR; omega) ?_
          refine r_goto (tgt := 4) hC dX5_ringsInAll_37 rfl ?_
          exact ih4 (v7) ((w2 + 1))  (by omega) (by omega)  (by omega) 
        · refine r_if_eq (tgt := 31) hC dX5_ringsInAll_16 rfl (fun h8 => ?_) (fun h8 => by omega)
          refine r_iconst hC dX5_ringsInAll_31 rfl ?_
          refine r_iaddE hC (w1) dX5_ringsInAll_32 (by omega) (by unfold inR; omega) ?_
          refine r_istore_n hC dX5_ringsInAll_33 rfl ?_
          refine r_iincE hC ((w2 + 1)) dX5_ringsInAll_34 rfl rfl (by omega) (by unfold inR; omega) ?_
          refine r_goto (tgt := 4) hC dX5_ringsInAll_37 rfl ?_
          exact ih4 (w1) ((w2 + 1))  (by omega) (by omega)  (by omega) 
  exact L4 10 (0) (0)  (by omega) (by omega)  (by omega) 
theorem s_about {e : Ev} {d : Nat} {P : Option Vl → Mm → Prop} {σ : Mm} {w : Int}   (k : ∀ r : Int, -2147483648 ≤ r ∧ r ≤ 2147483647 → P (some (vI r)) σ) : WT e (d + 4) 116 [vR 2 0, vI w] σ P := by
  refine WT_in fun K hK => ?_
  have hK : StpY e cX5_about RX5 (some .int) (WT e (d + 3)) P K := hK
  have hM := hK.1
  have hC := hK.1.1
  show K 0 [some (vR 2 0), some (vI w)] [] σ
  refine r_rngz hC (fun g0 => ?_)
  have r_w : -2147483648 ≤ w ∧ w ≤ 2147483647 := inR_le (g0 (vI w) (by simp))
  refine r_iload_n hC dX5_about_0 rfl ?_
  rcases (by omega : (w < 0 ∨ 6 < w) ∨ w = 0 ∨ w = 1 ∨ w = 2 ∨ w = 3 ∨ w = 4 ∨ w = 5 ∨ w = 6) with h1 | h1 | h1 | h1 | h1 | h1 | h1 | h1
  · refine r_tableOut (tgt := 79) hC dX5_about_1 h1 rfl ?_
    refine r_iconst hC dX5_about_79 rfl ?_
    refine y_iret hK rfl dX5_about_80 ?_
    exact k _ (by omega)
  · refine r_tableIn (tgt := 44) (off := 43) hC dX5_about_1 (by omega) (by omega) (by rw [h1]; rfl) rfl ?_
    refine r_aload_n hC dX5_about_44 rfl ?_
    refine z_inv0 hM dX5_about_45 vl_RX5_120 rfl rfl rfl (Nat.le_of_ble_eq_true rfl) (Nat.le_of_ble_eq_true rfl) ?_
    refine s_openLanes (fun v2 h_v2 => ?_)
    refine y_iret hK rfl dX5_about_48 ?_
    exact k _ (by omega)
  · refine r_tableIn (tgt := 49) (off := 48) hC dX5_about_1 (by omega) (by omega) (by rw [h1]; rfl) rfl ?_
    refine r_aload_n hC dX5_about_49 rfl ?_
    refine z_inv0 hM dX5_about_50 vl_RX5_351 rfl rfl rfl (Nat.le_of_ble_eq_true rfl) (Nat.le_of_ble_eq_true rfl) ?_
    refine s_heldInAll (fun v3 h_v3 => ?_)
    refine y_iret hK rfl dX5_about_53 ?_
    exact k _ (by omega)
  · refine r_tableIn (tgt := 54) (off := 53) hC dX5_about_1 (by omega) (by omega) (by rw [h1]; rfl) rfl ?_
    refine r_aload_n hC dX5_about_54 rfl ?_
    refine z_inv0 hM dX5_about_55 vl_RX5_354 rfl rfl rfl (Nat.le_of_ble_eq_true rfl) (Nat.le_of_ble_eq_true rfl) ?_
    refine s_spentInAll (fun v4 h_v4 => ?_)
    refine y_iret hK rfl dX5_about_58 ?_
    exact k _ (by omega)
  · refine r_tableIn (tgt := 59) (off := 58) hC dX5_about_1 (by omega) (by omega) (by rw [h1]; rfl) rfl ?_
    refine r_aload_n hC dX5_about_59 rfl ?_
    refine z_inv0 hM dX5_about_60 vl_RX5_357 rfl rfl rfl (Nat.le_of_ble_eq_true rfl) (Nat.le_of_ble_eq_true rfl) ?_
    refine s_toldWatches (fun v5 h_v5 => ?_)
    refine y_iret hK rfl dX5_about_63 ?_
    exact k _ (by omega)
  · refine r_tableIn (tgt := 64) (off := 63) hC dX5_about_1 (by omega) (by omega) (by rw [h1]; rfl) rfl ?_
    refine r_aload_n hC dX5_about_64 rfl ?_
    refine z_inv0 hM dX5_about_65 vl_RX5_360 rfl rfl rfl (Nat.le_of_ble_eq_true rfl) (Nat.le_of_ble_eq_true rfl) ?_
    refine s_fullBoxes (fun v6 h_v6 => ?_)
    refine y_iret hK rfl dX5_about_68 ?_
    exact k _ (by omega)
  · refine r_tableIn (tgt := 69) (off := 68) hC dX5_about_1 (by omega) (by omega) (by rw [h1]; rfl) rfl ?_
    refine r_aload_n hC dX5_about_69 rfl ?_
    refine z_inv0 hM dX5_about_70 vl_RX5_363 rfl rfl rfl (Nat.le_of_ble_eq_true rfl) (Nat.le_of_ble_eq_true rfl) ?_
    refine s_ringsInAll (fun v7 h_v7 => ?_)
    refine y_iret hK rfl dX5_about_73 ?_
    exact k _ (by omega)
  · refine r_tableIn (tgt := 74) (off := 73) hC dX5_about_1 (by omega) (by omega) (by rw [h1]; rfl) rfl ?_
    refine r_aload_n hC dX5_about_74 rfl ?_
    refine z_inv0 hM dX5_about_75 vl_RX5_366 rfl rfl rfl (Nat.le_of_ble_eq_true rfl) (Nat.le_of_ble_eq_true rfl) ?_
    refine s_linksInAll (fun v8 h_v8 => ?_)
    refine y_iret hK rfl dX5_about_78 ?_
    exact k _ (by omega)
theorem s_rings {e : Ev} {d : Nat} {P : Option Vl → Mm → Prop} {σ : Mm} {v : Int}   (k : ∀ r : Int, -2147483648 ≤ r ∧ r ≤ 2147483647 → P (some (vI r)) σ) : WT e (d + 3) 99 [vR 2 0, vI v] σ P := by
  refine WT_in fun K hK => ?_
  have hK : StpY e cX5_rings RX5 (some .int) (WT e (d + 2)) P K := hK
  have hM := hK.1
  have hC := hK.1.1
  show K 0 [some (vR 2 0), some (vI v)] [] σ
  refine r_rngz hC (fun g0 => ?_)
  have r_v : -2147483648 ≤ v ∧ v ≤ 2147483647 := inR_le (g0 (vI v) (by simp))
  refine r_aload_n hC dX5_rings_0 rfl ?_
  refine r_iload_n hC dX5_rings_1 rfl ?_
  refine z_inv1 hM dX5_rings_2 vl_RX5_312 rfl rfl rfl (Nat.le_of_ble_eq_true rfl) (Nat.le_of_ble_eq_true rfl) ?_
  refine s_isTold (fun h1 => ?_) ?_
  · refine r_if_eq (tgt := 20) hC dX5_rings_5 rfl (fun h2 => by omega) (fun h2 => ?_)
    refine r_aload_n hC dX5_rings_8 rfl ?_
    refine z_getR hM dX5_rings_9 fl_RX5_32 rfl rfl (vld_of (n := 1) rfl (by omega) (by omega)) ?_
    refine r_iload_n hC dX5_rings_12 rfl ?_
    refine z_aald hM dX5_rings_13 rfl (by decide) (by omega) (by omega) (vld_of (n := 8) rfl (by omega) (by omega)) ?_
    refine z_getI (jz := 4) hM dX5_rings_14 fl_RX5_315 rfl rfl rfl (fun v3 h_v3 o_v3 t_v3 => ?_)
    refine r_goto (tgt := 21) hC dX5_rings_17 rfl ?_
    refine y_iret hK rfl dX5_rings_21 ?_
    exact k _ (by omega)
  · refine r_if_eq (tgt := 20) hC dX5_rings_5 rfl (fun h4 => ?_) (fun h4 => by omega)
    refine r_iconst hC dX5_rings_20 rfl ?_
    refine y_iret hK rfl dX5_rings_21 ?_
    exact k _ (by omega)
theorem s_rang {e : Ev} {d : Nat} {P : Option Vl → Mm → Prop} {σ : Mm} {v : Int}   (k : ∀ r : Int, -2147483648 ≤ r ∧ r ≤ 2147483647 → P (some (vI r)) σ) : WT e (d + 3) 100 [vR 2 0, vI v] σ P := by
  refine WT_in fun K hK => ?_
  have hK : StpY e cX5_rang RX5 (some .int) (WT e (d + 2)) P K := hK
  have hM := hK.1
  have hC := hK.1.1
  show K 0 [some (vR 2 0), some (vI v)] [] σ
  refine r_rngz hC (fun g0 => ?_)
  have r_v : -2147483648 ≤ v ∧ v ≤ 2147483647 := inR_le (g0 (vI v) (by simp))
  refine r_aload_n hC dX5_rang_0 rfl ?_
  refine r_iload_n hC dX5_rang_1 rfl ?_
  refine z_inv1 hM dX5_rang_2 vl_RX5_312 rfl rfl rfl (Nat.le_of_ble_eq_true rfl) (Nat.le_of_ble_eq_true rfl) ?_
  refine s_isTold (fun h1 => ?_) ?_
  · refine r_if_eq (tgt := 20) hC dX5_rang_5 rfl (fun h2 => by omega) (fun h2 => ?_)
    refine r_aload_n hC dX5_rang_8 rfl ?_
    refine z_getR hM dX5_rang_9 fl_RX5_32 rfl rfl (vld_of (n := 1) rfl (by omega) (by omega)) ?_
    refine r_iload_n hC dX5_rang_12 rfl ?_
    refine z_aald hM dX5_rang_13 rfl (by decide) (by omega) (by omega) (vld_of (n := 8) rfl (by omega) (by omega)) ?_
    refine z_getI (jz := 5) hM dX5_rang_14 fl_RX5_318 rfl rfl rfl (fun v3 h_v3 o_v3 t_v3 => ?_)
    refine r_goto (tgt := 21) hC dX5_rang_17 rfl ?_
    refine y_iret hK rfl dX5_rang_21 ?_
    exact k _ (by omega)
  · refine r_if_eq (tgt := 20) hC dX5_rang_5 rfl (fun h4 => ?_) (fun h4 => by omega)
    refine r_iconst hC dX5_rang_20 rfl ?_
    refine y_iret hK rfl dX5_rang_21 ?_
    exact k _ (by omega)
theorem s_isWatched {e : Ev} {d : Nat} {P : Option Vl → Mm → Prop} {σ : Mm} {l : Int}   (k : ∀ r : Int, 0 ≤ r ∧ r ≤ 1 → P (some (vI r)) σ) : WT e (d + 1) 103 [vR 2 0, vI l] σ P := by
  refine WT_in fun K hK => ?_
  have hK : StpY e cX5_isWatched RX5 (some .boolean) (WT e (d + 0)) P K := hK
  have hM := hK.1
  have hC := hK.1.1
  show K 0 [some (vR 2 0), some (vI l), none] [] σ
  refine r_rngz hC (fun g0 => ?_)
  have r_l : -2147483648 ≤ l ∧ l ≤ 2147483647 := inR_le (g0 (vI l) (by simp))
  refine r_iconst hC dX5_isWatched_0 rfl ?_
  refine r_istore_n hC dX5_isWatched_1 rfl ?_
  have L2 : ∀ (n2 : Nat) (w1 : Int), 0 ≤ w1 ∧ w1 ≤ 8 → 8 - w1 < (n2 : Int) → K 2 [some (vR 2 0), some (vI l), some (vI w1)] [] σ := by
    intro n2
    induction n2 with
    | zero => intro w1  f_w1  hm ; omega
    | succ n2 ih2 =>
      intro w1  f_w1  hm2 
      refine r_iload_n hC dX5_isWatched_2 rfl ?_
      refine r_bipush hC dX5_isWatched_3 rfl ?_
      refine r_icmp_ge (tgt := 29) hC dX5_isWatched_5 rfl (fun h2 => ?_) (fun h2 => ?_)
      · refine r_iconst hC dX5_isWatched_29 rfl ?_
        refine y_zret hK rfl dX5_isWatched_30 (by omega) ?_
        exact k _ (by omega)
      · refine r_aload_n hC dX5_isWatched_8 rfl ?_
        refine z_getR hM dX5_isWatched_9 fl_RX5_32 rfl rfl (vld_of (n := 1) rfl (by omega) (by omega)) ?_
        refine r_iload_n hC dX5_isWatched_12 rfl ?_
        refine z_aald hM dX5_isWatched_13 rfl (by decide) (by omega) (by omega) (vld_of (n := 8) rfl (by omega) (by omega)) ?_
        refine z_getI (jz := 0) hM dX5_isWatched_14 fl_RX5_321 rfl rfl rfl (fun v3 h_v3 o_v3 t_v3 => ?_)
        refine r_iload_n hC dX5_isWatched_17 rfl ?_
        refine r_icmp_ne (tgt := 23) hC dX5_isWatched_18 rfl (fun h4 => ?_) (fun h4 => ?_)
        · refine r_iincE hC ((w1 + 1)) dX5_isWatched_23 rfl rfl (by omega) (by unfold inR; omega) ?_
          refine r_goto (tgt := 2) hC dX5_isWatched_26 rfl ?_
          exact ih2 ((w1 + 1))  (by omega)  (by omega) 
        · refine r_iconst hC dX5_isWatched_21 rfl ?_
          refine y_zret hK rfl dX5_isWatched_22 (by omega) ?_
          exact k _ (by omega)
  exact L2 10 (0)  (by omega)  (by omega) 
theorem s_isLinkedTo {e : Ev} {d : Nat} {P : Option Vl → Mm → Prop} {σ : Mm} {l : Int}   (k : ∀ r : Int, 0 ≤ r ∧ r ≤ 1 → P (some (vI r)) σ) : WT e (d + 1) 107 [vR 2 0, vI l] σ P := by
  refine WT_in fun K hK => ?_
  have hK : StpY e cX5_isLinkedTo RX5 (some .boolean) (WT e (d + 0)) P K := hK
  have hM := hK.1
  have hC := hK.1.1
  show K 0 [some (vR 2 0), some (vI l), none] [] σ
  refine r_rngz hC (fun g0 => ?_)
  have r_l : -2147483648 ≤ l ∧ l ≤ 2147483647 := inR_le (g0 (vI l) (by simp))
  refine r_iconst hC dX5_isLinkedTo_0 rfl ?_
  refine r_istore_n hC dX5_isLinkedTo_1 rfl ?_
  have L2 : ∀ (n2 : Nat) (w1 : Int), 0 ≤ w1 ∧ w1 ≤ 4 → 4 - w1 < (n2 : Int) → K 2 [some (vR 2 0), some (vI l), some (vI w1)] [] σ := by
    intro n2
    induction n2 with
    | zero => intro w1  f_w1  hm ; omega
    | succ n2 ih2 =>
      intro w1  f_w1  hm2 
      refine r_iload_n hC dX5_isLinkedTo_2 rfl ?_
      refine r_iconst hC dX5_isLinkedTo_3 rfl ?_
      refine r_icmp_ge (tgt := 28) hC dX5_isLinkedTo_4 rfl (fun h2 => ?_) (fun h2 => ?_)
      · refine r_iconst hC dX5_isLinkedTo_28 rfl ?_
        refine y_zret hK rfl dX5_isLinkedTo_29 (by omega) ?_
        exact k _ (by omega)
      · refine r_aload_n hC dX5_isLinkedTo_7 rfl ?_
        refine z_getR hM dX5_isLinkedTo_8 fl_RX5_19 rfl rfl (vld_of (n := 1) rfl (by omega) (by omega)) ?_
        refine r_iload_n hC dX5_isLinkedTo_11 rfl ?_
        refine z_aald hM dX5_isLinkedTo_12 rfl (by decide) (by omega) (by omega) (vld_of (n := 4) rfl (by omega) (by omega)) ?_
        refine z_getI (jz := 0) hM dX5_isLinkedTo_13 fl_RX5_215 rfl rfl rfl (fun v3 h_v3 o_v3 t_v3 => ?_)
        refine r_iload_n hC dX5_isLinkedTo_16 rfl ?_
        refine r_icmp_ne (tgt := 22) hC dX5_isLinkedTo_17 rfl (fun h4 => ?_) (fun h4 => ?_)
        · refine r_iincE hC ((w1 + 1)) dX5_isLinkedTo_22 rfl rfl (by omega) (by unfold inR; omega) ?_
          refine r_goto (tgt := 2) hC dX5_isLinkedTo_25 rfl ?_
          exact ih2 ((w1 + 1))  (by omega)  (by omega) 
        · refine r_iconst hC dX5_isLinkedTo_20 rfl ?_
          refine y_zret hK rfl dX5_isLinkedTo_21 (by omega) ?_
          exact k _ (by omega)
  exact L2 6 (0)  (by omega)  (by omega) 
theorem s_Flip_told {e : Ev} {d : Nat} {P : Option Vl → Mm → Prop} {σ : Mm} {i w : Int} (b_i : 0 ≤ i ∧ i ≤ 7)  (k : ∀ r : Int, -2147483648 ≤ r ∧ r ≤ 2147483647 → P (some (vI r)) σ) : WT e (d + 1) 7 [vR 11 i, vI w] σ P := by
  refine WT_in fun K hK => ?_
  have hK : StpY e cX0_told RX0 (some .int) (WT e (d + 0)) P K := hK
  have hM := hK.1
  have hC := hK.1.1
  show K 0 [some (vR 11 i), some (vI w)] [] σ
  refine r_rngz hC (fun g0 => ?_)
  have r_w : -2147483648 ≤ w ∧ w ≤ 2147483647 := inR_le (g0 (vI w) (by simp))
  refine r_iload_n hC dX0_told_0 rfl ?_
  rcases (by omega : (w < 0 ∨ 6 < w) ∨ w = 0 ∨ w = 1 ∨ w = 2 ∨ w = 3 ∨ w = 4 ∨ w = 5 ∨ w = 6) with h1 | h1 | h1 | h1 | h1 | h1 | h1 | h1
  · refine r_tableOut (tgt := 79) hC dX0_told_1 h1 rfl ?_
    refine r_iconst hC dX0_told_79 rfl ?_
    refine y_iret hK rfl dX0_told_80 ?_
    exact k _ (by omega)
  · refine r_tableIn (tgt := 44) (off := 43) hC dX0_told_1 (by omega) (by omega) (by rw [h1]; rfl) rfl ?_
    refine r_aload_n hC dX0_told_44 rfl ?_
    refine z_getI (jz := 0) hM dX0_told_45 fl_RX0_9 rfl rfl rfl (fun v2 h_v2 o_v2 t_v2 => ?_)
    refine y_iret hK rfl dX0_told_48 ?_
    exact k _ (by omega)
  · refine r_tableIn (tgt := 49) (off := 48) hC dX0_told_1 (by omega) (by omega) (by rw [h1]; rfl) rfl ?_
    refine r_aload_n hC dX0_told_49 rfl ?_
    refine z_getI (jz := 1) hM dX0_told_50 fl_RX0_15 rfl rfl rfl (fun v3 h_v3 o_v3 t_v3 => ?_)
    refine y_iret hK rfl dX0_told_53 ?_
    exact k _ (by omega)
  · refine r_tableIn (tgt := 54) (off := 53) hC dX0_told_1 (by omega) (by omega) (by rw [h1]; rfl) rfl ?_
    refine r_aload_n hC dX0_told_54 rfl ?_
    refine z_getI (jz := 2) hM dX0_told_55 fl_RX0_18 rfl rfl rfl (fun v4 h_v4 o_v4 t_v4 => ?_)
    refine y_iret hK rfl dX0_told_58 ?_
    exact k _ (by omega)
  · refine r_tableIn (tgt := 59) (off := 58) hC dX0_told_1 (by omega) (by omega) (by rw [h1]; rfl) rfl ?_
    refine r_aload_n hC dX0_told_59 rfl ?_
    refine z_getI (jz := 3) hM dX0_told_60 fl_RX0_21 rfl rfl rfl (fun v5 h_v5 o_v5 t_v5 => ?_)
    refine y_iret hK rfl dX0_told_63 ?_
    exact k _ (by omega)
  · refine r_tableIn (tgt := 64) (off := 63) hC dX0_told_1 (by omega) (by omega) (by rw [h1]; rfl) rfl ?_
    refine r_aload_n hC dX0_told_64 rfl ?_
    refine z_getI (jz := 4) hM dX0_told_65 fl_RX0_24 rfl rfl rfl (fun v6 h_v6 o_v6 t_v6 => ?_)
    refine y_iret hK rfl dX0_told_68 ?_
    exact k _ (by omega)
  · refine r_tableIn (tgt := 69) (off := 68) hC dX0_told_1 (by omega) (by omega) (by rw [h1]; rfl) rfl ?_
    refine r_aload_n hC dX0_told_69 rfl ?_
    refine z_getI (jz := 5) hM dX0_told_70 fl_RX0_27 rfl rfl rfl (fun v7 h_v7 o_v7 t_v7 => ?_)
    refine y_iret hK rfl dX0_told_73 ?_
    exact k _ (by omega)
  · refine r_tableIn (tgt := 74) (off := 73) hC dX0_told_1 (by omega) (by omega) (by rw [h1]; rfl) rfl ?_
    refine r_aload_n hC dX0_told_74 rfl ?_
    refine z_getI (jz := 6) hM dX0_told_75 fl_RX0_30 rfl rfl rfl (fun v8 h_v8 o_v8 t_v8 => ?_)
    refine y_iret hK rfl dX0_told_78 ?_
    exact k _ (by omega)
theorem s_Lane_told {e : Ev} {d : Nat} {P : Option Vl → Mm → Prop} {σ : Mm} {i w : Int} (b_i : 0 ≤ i ∧ i ≤ 6)  (k : ∀ r : Int, -2147483648 ≤ r ∧ r ≤ 2147483647 → P (some (vI r)) σ) : WT e (d + 1) 37 [vR 7 i, vI w] σ P := by
  refine WT_in fun K hK => ?_
  have hK : StpY e cX2_told RX2 (some .int) (WT e (d + 0)) P K := hK
  have hM := hK.1
  have hC := hK.1.1
  show K 0 [some (vR 7 i), some (vI w)] [] σ
  refine r_rngz hC (fun g0 => ?_)
  have r_w : -2147483648 ≤ w ∧ w ≤ 2147483647 := inR_le (g0 (vI w) (by simp))
  refine r_iload_n hC dX2_told_0 rfl ?_
  rcases (by omega : (w < 0 ∨ 10 < w) ∨ w = 0 ∨ w = 1 ∨ w = 2 ∨ w = 3 ∨ w = 4 ∨ w = 5 ∨ w = 6 ∨ w = 7 ∨ w = 8 ∨ w = 9 ∨ w = 10) with h1 | h1 | h1 | h1 | h1 | h1 | h1 | h1 | h1 | h1 | h1 | h1
  · refine r_tableOut (tgt := 115) hC dX2_told_1 h1 rfl ?_
    refine r_iconst hC dX2_told_115 rfl ?_
    refine y_iret hK rfl dX2_told_116 ?_
    exact k _ (by omega)
  · refine r_tableIn (tgt := 60) (off := 59) hC dX2_told_1 (by omega) (by omega) (by rw [h1]; rfl) rfl ?_
    refine r_aload_n hC dX2_told_60 rfl ?_
    refine z_getI (jz := 2) hM dX2_told_61 fl_RX2_36 rfl rfl rfl (fun v2 h_v2 o_v2 t_v2 => ?_)
    have q_v2 : 0 ≤ v2 ∧ v2 ≤ 9 := o_v2.2.2 rfl
    refine y_iret hK rfl dX2_told_64 ?_
    exact k _ (by omega)
  · refine r_tableIn (tgt := 65) (off := 64) hC dX2_told_1 (by omega) (by omega) (by rw [h1]; rfl) rfl ?_
    refine r_aload_n hC dX2_told_65 rfl ?_
    refine z_getI (jz := 3) hM dX2_told_66 fl_RX2_39 rfl rfl rfl (fun v3 h_v3 o_v3 t_v3 => ?_)
    refine y_iret hK rfl dX2_told_69 ?_
    exact k _ (by omega)
  · refine r_tableIn (tgt := 70) (off := 69) hC dX2_told_1 (by omega) (by omega) (by rw [h1]; rfl) rfl ?_
    refine r_aload_n hC dX2_told_70 rfl ?_
    refine z_getI (jz := 4) hM dX2_told_71 fl_RX2_42 rfl rfl rfl (fun v4 h_v4 o_v4 t_v4 => ?_)
    refine y_iret hK rfl dX2_told_74 ?_
    exact k _ (by omega)
  · refine r_tableIn (tgt := 75) (off := 74) hC dX2_told_1 (by omega) (by omega) (by rw [h1]; rfl) rfl ?_
    refine r_aload_n hC dX2_told_75 rfl ?_
    refine z_getI (jz := 5) hM dX2_told_76 fl_RX2_45 rfl rfl rfl (fun v5 h_v5 o_v5 t_v5 => ?_)
    refine y_iret hK rfl dX2_told_79 ?_
    exact k _ (by omega)
  · refine r_tableIn (tgt := 80) (off := 79) hC dX2_told_1 (by omega) (by omega) (by rw [h1]; rfl) rfl ?_
    refine r_aload_n hC dX2_told_80 rfl ?_
    refine z_getI (jz := 6) hM dX2_told_81 fl_RX2_48 rfl rfl rfl (fun v6 h_v6 o_v6 t_v6 => ?_)
    have q_v6 : 0 ≤ v6 ∧ v6 ≤ 121 := o_v6.1 rfl
    refine y_iret hK rfl dX2_told_84 ?_
    exact k _ (by omega)
  · refine r_tableIn (tgt := 85) (off := 84) hC dX2_told_1 (by omega) (by omega) (by rw [h1]; rfl) rfl ?_
    refine r_aload_n hC dX2_told_85 rfl ?_
    refine z_getI (jz := 10) hM dX2_told_86 fl_RX2_51 rfl rfl rfl (fun v7 h_v7 o_v7 t_v7 => ?_)
    refine y_iret hK rfl dX2_told_89 ?_
    exact k _ (by omega)
  · refine r_tableIn (tgt := 90) (off := 89) hC dX2_told_1 (by omega) (by omega) (by rw [h1]; rfl) rfl ?_
    refine r_aload_n hC dX2_told_90 rfl ?_
    refine z_getI (jz := 11) hM dX2_told_91 fl_RX2_54 rfl rfl rfl (fun v8 h_v8 o_v8 t_v8 => ?_)
    refine y_iret hK rfl dX2_told_94 ?_
    exact k _ (by omega)
  · refine r_tableIn (tgt := 95) (off := 94) hC dX2_told_1 (by omega) (by omega) (by rw [h1]; rfl) rfl ?_
    refine r_aload_n hC dX2_told_95 rfl ?_
    refine z_getI (jz := 12) hM dX2_told_96 fl_RX2_57 rfl rfl rfl (fun v9 h_v9 o_v9 t_v9 => ?_)
    refine y_iret hK rfl dX2_told_99 ?_
    exact k _ (by omega)
  · refine r_tableIn (tgt := 100) (off := 99) hC dX2_told_1 (by omega) (by omega) (by rw [h1]; rfl) rfl ?_
    refine r_aload_n hC dX2_told_100 rfl ?_
    refine z_getI (jz := 13) hM dX2_told_101 fl_RX2_60 rfl rfl rfl (fun v10 h_v10 o_v10 t_v10 => ?_)
    refine y_iret hK rfl dX2_told_104 ?_
    exact k _ (by omega)
  · refine r_tableIn (tgt := 105) (off := 104) hC dX2_told_1 (by omega) (by omega) (by rw [h1]; rfl) rfl ?_
    refine r_aload_n hC dX2_told_105 rfl ?_
    refine z_getI (jz := 14) hM dX2_told_106 fl_RX2_63 rfl rfl rfl (fun v11 h_v11 o_v11 t_v11 => ?_)
    refine y_iret hK rfl dX2_told_109 ?_
    exact k _ (by omega)
  · refine r_tableIn (tgt := 110) (off := 109) hC dX2_told_1 (by omega) (by omega) (by rw [h1]; rfl) rfl ?_
    refine r_aload_n hC dX2_told_110 rfl ?_
    refine z_getI (jz := 15) hM dX2_told_111 fl_RX2_66 rfl rfl rfl (fun v12 h_v12 o_v12 t_v12 => ?_)
    refine y_iret hK rfl dX2_told_114 ?_
    exact k _ (by omega)
theorem s_Link_told {e : Ev} {d : Nat} {P : Option Vl → Mm → Prop} {σ : Mm} {i w : Int} (b_i : 0 ≤ i ∧ i ≤ 3)  (k : ∀ r : Int, -2147483648 ≤ r ∧ r ≤ 2147483647 → P (some (vI r)) σ) : WT e (d + 1) 41 [vR 13 i, vI w] σ P := by
  refine WT_in fun K hK => ?_
  have hK : StpY e cX3_told RX3 (some .int) (WT e (d + 0)) P K := hK
  have hM := hK.1
  have hC := hK.1.1
  show K 0 [some (vR 13 i), some (vI w)] [] σ
  refine r_rngz hC (fun g0 => ?_)
  have r_w : -2147483648 ≤ w ∧ w ≤ 2147483647 := inR_le (g0 (vI w) (by simp))
  refine r_iload_n hC dX3_told_0 rfl ?_
  rcases (by omega : (w < 0 ∨ 3 < w) ∨ w = 0 ∨ w = 1 ∨ w = 2 ∨ w = 3) with h1 | h1 | h1 | h1 | h1
  · refine r_tableOut (tgt := 52) hC dX3_told_1 h1 rfl ?_
    refine r_iconst hC dX3_told_52 rfl ?_
    refine y_iret hK rfl dX3_told_53 ?_
    exact k _ (by omega)
  · refine r_tableIn (tgt := 32) (off := 31) hC dX3_told_1 (by omega) (by omega) (by rw [h1]; rfl) rfl ?_
    refine r_aload_n hC dX3_told_32 rfl ?_
    refine z_getI (jz := 0) hM dX3_told_33 fl_RX3_9 rfl rfl rfl (fun v2 h_v2 o_v2 t_v2 => ?_)
    refine y_iret hK rfl dX3_told_36 ?_
    exact k _ (by omega)
  · refine r_tableIn (tgt := 37) (off := 36) hC dX3_told_1 (by omega) (by omega) (by rw [h1]; rfl) rfl ?_
    refine r_aload_n hC dX3_told_37 rfl ?_
    refine z_getI (jz := 1) hM dX3_told_38 fl_RX3_15 rfl rfl rfl (fun v3 h_v3 o_v3 t_v3 => ?_)
    refine y_iret hK rfl dX3_told_41 ?_
    exact k _ (by omega)
  · refine r_tableIn (tgt := 42) (off := 41) hC dX3_told_1 (by omega) (by omega) (by rw [h1]; rfl) rfl ?_
    refine r_aload_n hC dX3_told_42 rfl ?_
    refine z_getI (jz := 2) hM dX3_told_43 fl_RX3_18 rfl rfl rfl (fun v4 h_v4 o_v4 t_v4 => ?_)
    refine y_iret hK rfl dX3_told_46 ?_
    exact k _ (by omega)
  · refine r_tableIn (tgt := 47) (off := 46) hC dX3_told_1 (by omega) (by omega) (by rw [h1]; rfl) rfl ?_
    refine r_aload_n hC dX3_told_47 rfl ?_
    refine z_getI (jz := 3) hM dX3_told_48 fl_RX3_21 rfl rfl rfl (fun v5 h_v5 o_v5 t_v5 => ?_)
    refine y_iret hK rfl dX3_told_51 ?_
    exact k _ (by omega)
theorem s_linked {e : Ev} {d : Nat} {P : Option Vl → Mm → Prop} {σ : Mm} {l w : Int}   (k : ∀ r : Int, -2147483648 ≤ r ∧ r ≤ 2147483647 → P (some (vI r)) σ) : WT e (d + 3) 106 [vR 2 0, vI l, vI w] σ P := by
  refine WT_in fun K hK => ?_
  have hK : StpY e cX5_linked RX5 (some .int) (WT e (d + 2)) P K := hK
  have hM := hK.1
  have hC := hK.1.1
  show K 0 [some (vR 2 0), some (vI l), some (vI w)] [] σ
  refine r_rngz hC (fun g0 => ?_)
  have r_l : -2147483648 ≤ l ∧ l ≤ 2147483647 := inR_le (g0 (vI l) (by simp))
  have r_w : -2147483648 ≤ w ∧ w ≤ 2147483647 := inR_le (g0 (vI w) (by simp))
  refine r_iload_n hC dX5_linked_0 rfl ?_
  refine z_ins1 hM dX5_linked_1 tl_RX5_102 rfl (Nat.le_of_ble_eq_true rfl) (Nat.le_of_ble_eq_true rfl) ?_
  refine s_isLane (fun h2 => ?_) (fun h2 => ?_)
  · refine r_if_eq (tgt := 33) hC dX5_linked_4 rfl (fun h3 => by omega) (fun h3 => ?_)
    refine r_aload_n hC dX5_linked_7 rfl ?_
    refine z_getR hM dX5_linked_8 fl_RX5_19 rfl rfl (vld_of (n := 1) rfl (by omega) (by omega)) ?_
    refine r_iload_n hC dX5_linked_11 rfl ?_
    refine z_aald hM dX5_linked_12 rfl (by decide) (by omega) (by omega) (vld_of (n := 4) rfl (by omega) (by omega)) ?_
    refine z_getI (jz := 0) hM dX5_linked_13 fl_RX5_215 rfl rfl rfl (fun v4 h_v4 o_v4 t_v4 => ?_)
    refine r_iconst hC dX5_linked_16 rfl ?_
    have J34_6 : ∀ (w6 : Int), -2147483648 ≤ w6 ∧ w6 ≤ 2147483647 → K 34 [some (vR 2 0), some (vI l), some (vI w)] [vI w6] σ := by
      intro w6  f_w6 
      refine y_iret hK rfl dX5_linked_34 ?_
      exact k _ (by omega)
    refine r_icmp_eq (tgt := 33) hC dX5_linked_17 rfl (fun h5 => ?_) (fun h5 => ?_)
    · refine r_iconst hC dX5_linked_33 rfl ?_
      exact J34_6 ((-1))  (by omega) 
    · refine r_aload_n hC dX5_linked_20 rfl ?_
      refine z_getR hM dX5_linked_21 fl_RX5_19 rfl rfl (vld_of (n := 1) rfl (by omega) (by omega)) ?_
      refine r_iload_n hC dX5_linked_24 rfl ?_
      refine z_aald hM dX5_linked_25 rfl (by decide) (by omega) (by omega) (vld_of (n := 4) rfl (by omega) (by omega)) ?_
      refine r_iload_n hC dX5_linked_26 rfl ?_
      refine z_inv1 hM dX5_linked_27 vl_RX5_343 rfl rfl rfl (Nat.le_of_ble_eq_true rfl) (Nat.le_of_ble_eq_true rfl) ?_
      refine s_Link_told (by omega) (fun v8 h_v8 => ?_)
      refine r_goto (tgt := 34) hC dX5_linked_30 rfl ?_
      exact J34_6 (v8)  (by omega) 
  · refine r_if_eq (tgt := 33) hC dX5_linked_4 rfl (fun h9 => ?_) (fun h9 => by omega)
    refine r_iconst hC dX5_linked_33 rfl ?_
    refine y_iret hK rfl dX5_linked_34 ?_
    exact k _ (by omega)
theorem s_state {e : Ev} {d : Nat} {P : Option Vl → Mm → Prop} {σ : Mm} {l w : Int}   (k : ∀ r : Int, -2147483648 ≤ r ∧ r ≤ 2147483647 → P (some (vI r)) σ) : WT e (d + 4) 94 [vR 2 0, vI l, vI w] σ P := by
  refine WT_in fun K hK => ?_
  have hK : StpY e cX5_state RX5 (some .int) (WT e (d + 3)) P K := hK
  have hM := hK.1
  have hC := hK.1.1
  show K 0 [some (vR 2 0), some (vI l), some (vI w), none] [] σ
  refine r_rngz hC (fun g0 => ?_)
  have r_l : -2147483648 ≤ l ∧ l ≤ 2147483647 := inR_le (g0 (vI l) (by simp))
  have r_w : -2147483648 ≤ w ∧ w ≤ 2147483647 := inR_le (g0 (vI w) (by simp))
  refine r_aload_n hC dX5_state_0 rfl ?_
  refine r_iload_n hC dX5_state_1 rfl ?_
  refine z_inv1 hM dX5_state_2 vl_RX5_123 rfl rfl rfl (Nat.le_of_ble_eq_true rfl) (Nat.le_of_ble_eq_true rfl) ?_
  refine s_openLane ?_ (fun h1 => ?_)
  · refine r_astoreN_n hC dX5_state_5 rfl ?_
    refine r_aloadN_n hC dX5_state_6 rfl ?_
    refine r_ifnonnullN hC dX5_state_7 ?_
    refine r_iconst hC dX5_state_10 rfl ?_
    refine r_goto (tgt := 22) hC dX5_state_11 rfl ?_
    refine y_iret hK rfl dX5_state_22 ?_
    exact k _ (by omega)
  · refine r_astore_n hC dX5_state_5 rfl ?_
    refine r_aload_n hC dX5_state_6 rfl ?_
    refine r_ifnonnullR (tgt := 14) hC dX5_state_7 rfl ?_
    refine r_aload_n hC dX5_state_14 rfl ?_
    refine z_getR hM dX5_state_15 fl_RX5_189 rfl rfl (vld_of (n := 8) rfl (by omega) (by omega)) ?_
    refine r_iload_n hC dX5_state_18 rfl ?_
    refine z_inv1 hM dX5_state_19 vl_RX5_288 rfl rfl rfl (Nat.le_of_ble_eq_true rfl) (Nat.le_of_ble_eq_true rfl) ?_
    refine s_Flip_told (by omega) (fun v2 h_v2 => ?_)
    refine y_iret hK rfl dX5_state_22 ?_
    exact k _ (by omega)
theorem s_soon {e : Ev} {d : Nat} {P : Option Vl → Mm → Prop} {σ : Mm} {l w : Int}   (k : ∀ r : Int, -2147483648 ≤ r ∧ r ≤ 2147483647 → P (some (vI r)) σ) : WT e (d + 4) 95 [vR 2 0, vI l, vI w] σ P := by
  refine WT_in fun K hK => ?_
  have hK : StpY e cX5_soon RX5 (some .int) (WT e (d + 3)) P K := hK
  have hM := hK.1
  have hC := hK.1.1
  show K 0 [some (vR 2 0), some (vI l), some (vI w), none, none] [] σ
  refine r_rngz hC (fun g0 => ?_)
  have r_l : -2147483648 ≤ l ∧ l ≤ 2147483647 := inR_le (g0 (vI l) (by simp))
  have r_w : -2147483648 ≤ w ∧ w ≤ 2147483647 := inR_le (g0 (vI w) (by simp))
  refine r_aload_n hC dX5_soon_0 rfl ?_
  refine r_iload_n hC dX5_soon_1 rfl ?_
  refine z_inv1 hM dX5_soon_2 vl_RX5_123 rfl rfl rfl (Nat.le_of_ble_eq_true rfl) (Nat.le_of_ble_eq_true rfl) ?_
  refine s_openLane ?_ (fun h1 => ?_)
  · refine r_astoreN_n hC dX5_soon_5 rfl ?_
    refine r_aloadN_n hC dX5_soon_6 rfl ?_
    refine r_ifnullN (tgt := 19) hC dX5_soon_7 rfl ?_
    refine r_iconst hC dX5_soon_19 rfl ?_
    refine y_iret hK rfl dX5_soon_20 ?_
    exact k _ (by omega)
  · refine r_astore_n hC dX5_soon_5 rfl ?_
    refine r_aload_n hC dX5_soon_6 rfl ?_
    refine r_ifnullR hC dX5_soon_7 ?_
    refine r_iload_n hC dX5_soon_10 rfl ?_
    refine r_iconst hC dX5_soon_11 rfl ?_
    refine r_iconst hC dX5_soon_12 rfl ?_
    refine z_ins3 hM dX5_soon_13 tl_RX5_59 rfl (Nat.le_of_ble_eq_true rfl) (Nat.le_of_ble_eq_true rfl) ?_
    refine s_within (fun h3 => ?_) (fun h3 => ?_)
    · refine r_if_ne (tgt := 21) hC dX5_soon_16 rfl (fun h4 => ?_) (fun h4 => by omega)
      refine r_aload_n hC dX5_soon_21 rfl ?_
      refine z_getR hM dX5_soon_22 fl_RX5_189 rfl rfl (vld_of (n := 8) rfl (by omega) (by omega)) ?_
      refine r_astore hC dX5_soon_25 rfl ?_
      refine r_iload_n hC dX5_soon_27 rfl ?_
      refine r_if_ne (tgt := 57) hC dX5_soon_28 rfl (fun h5 => ?_) (fun h5 => ?_)
      · refine r_aload hC dX5_soon_57 rfl ?_
        refine z_getI (jz := 3) hM dX5_soon_59 fl_RX5_291 rfl rfl rfl (fun v6 h_v6 o_v6 t_v6 => ?_)
        have J80_8 : ∀ (w8 : Int), -2147483648 ≤ w8 ∧ w8 ≤ 2147483647 → K 80 [some (vR 2 0), some (vI l), some (vI w), some (vR 7 l), some (vR 11 l)] [vI w8] σ := by
          intro w8  f_w8 
          refine y_iret hK rfl dX5_soon_80 ?_
          exact k _ (by omega)
        refine r_if_le (tgt := 79) hC dX5_soon_62 rfl (fun h7 => ?_) (fun h7 => ?_)
        · refine r_iconst hC dX5_soon_79 rfl ?_
          exact J80_8 ((-1))  (by omega) 
        · refine r_aload hC dX5_soon_65 rfl ?_
          refine z_getI (jz := 3) hM dX5_soon_67 fl_RX5_291 rfl rfl rfl (fun v10 h_v10 o_v10 t_v10 => ?_)
          refine r_iconst hC dX5_soon_70 rfl ?_
          refine r_iaddG hC dX5_soon_71 (fun v11 h_v11 => ?_)
          refine r_iconst hC dX5_soon_72 rfl ?_
          refine r_isubG hC dX5_soon_73 (fun v12 h_v12 => ?_)
          refine r_iconst hC dX5_soon_74 rfl ?_
          refine r_idivG hC dX5_soon_75 (by omega) (by omega) (fun v13 h_v13 => ?_)
          refine r_goto (tgt := 80) hC dX5_soon_76 rfl ?_
          exact J80_8 (v13)  (by omega) 
      · refine r_aload hC dX5_soon_31 rfl ?_
        refine z_getI (jz := 3) hM dX5_soon_33 fl_RX5_291 rfl rfl rfl (fun v14 h_v14 o_v14 t_v14 => ?_)
        have J56_16 : ∀ (w16 : Int), -2147483648 ≤ w16 ∧ w16 ≤ 2147483647 → K 56 [some (vR 2 0), some (vI l), some (vI w), some (vR 7 l), some (vR 11 l)] [vI w16] σ := by
          intro w16  f_w16 
          refine y_iret hK rfl dX5_soon_56 ?_
          exact k _ (by omega)
        refine r_if_le (tgt := 43) hC dX5_soon_36 rfl (fun h15 => ?_) (fun h15 => ?_)
        · refine r_aload hC dX5_soon_43 rfl ?_
          refine z_getI (jz := 0) hM dX5_soon_45 fl_RX5_294 rfl rfl rfl (fun v18 h_v18 o_v18 t_v18 => ?_)
          refine r_iconst hC dX5_soon_48 rfl ?_
          refine r_iaddG hC dX5_soon_49 (fun v19 h_v19 => ?_)
          refine r_aload hC dX5_soon_50 rfl ?_
          refine z_getI (jz := 2) hM dX5_soon_52 fl_RX5_297 rfl rfl rfl (fun v20 h_v20 o_v20 t_v20 => ?_)
          refine r_isubG hC dX5_soon_55 (fun v21 h_v21 => ?_)
          exact J56_16 (v21)  (by omega) 
        · refine r_iconst hC dX5_soon_39 rfl ?_
          refine r_goto (tgt := 56) hC dX5_soon_40 rfl ?_
          exact J56_16 ((-1))  (by omega) 
    · refine r_if_ne (tgt := 21) hC dX5_soon_16 rfl (fun h22 => by omega) (fun h22 => ?_)
      refine r_iconst hC dX5_soon_19 rfl ?_
      refine y_iret hK rfl dX5_soon_20 ?_
      exact k _ (by omega)
theorem s_lane {e : Ev} {d : Nat} {P : Option Vl → Mm → Prop} {σ : Mm} {l w : Int}   (k : ∀ r : Int, -2147483648 ≤ r ∧ r ≤ 2147483647 → P (some (vI r)) σ) : WT e (d + 4) 97 [vR 2 0, vI l, vI w] σ P := by
  refine WT_in fun K hK => ?_
  have hK : StpY e cX5_lane RX5 (some .int) (WT e (d + 3)) P K := hK
  have hM := hK.1
  have hC := hK.1.1
  show K 0 [some (vR 2 0), some (vI l), some (vI w), none] [] σ
  refine r_rngz hC (fun g0 => ?_)
  have r_l : -2147483648 ≤ l ∧ l ≤ 2147483647 := inR_le (g0 (vI l) (by simp))
  have r_w : -2147483648 ≤ w ∧ w ≤ 2147483647 := inR_le (g0 (vI w) (by simp))
  refine r_aload_n hC dX5_lane_0 rfl ?_
  refine r_iload_n hC dX5_lane_1 rfl ?_
  refine z_inv1 hM dX5_lane_2 vl_RX5_123 rfl rfl rfl (Nat.le_of_ble_eq_true rfl) (Nat.le_of_ble_eq_true rfl) ?_
  refine s_openLane ?_ (fun h1 => ?_)
  · refine r_astoreN_n hC dX5_lane_5 rfl ?_
    refine r_aloadN_n hC dX5_lane_6 rfl ?_
    refine r_ifnonnullN hC dX5_lane_7 ?_
    refine r_iconst hC dX5_lane_10 rfl ?_
    refine r_goto (tgt := 19) hC dX5_lane_11 rfl ?_
    refine y_iret hK rfl dX5_lane_19 ?_
    exact k _ (by omega)
  · refine r_astore_n hC dX5_lane_5 rfl ?_
    refine r_aload_n hC dX5_lane_6 rfl ?_
    refine r_ifnonnullR (tgt := 14) hC dX5_lane_7 rfl ?_
    refine r_aload_n hC dX5_lane_14 rfl ?_
    refine r_iload_n hC dX5_lane_15 rfl ?_
    refine z_inv1 hM dX5_lane_16 vl_RX5_308 rfl rfl rfl (Nat.le_of_ble_eq_true rfl) (Nat.le_of_ble_eq_true rfl) ?_
    refine s_Lane_told (by omega) (fun v2 h_v2 => ?_)
    refine y_iret hK rfl dX5_lane_19 ?_
    exact k _ (by omega)
theorem s_event {e : Ev} {d : Nat} {P : Option Vl → Mm → Prop} {σ : Mm} {l x w : Int}   (k : ∀ r : Int, -2147483648 ≤ r ∧ r ≤ 2147483647 → P (some (vI r)) σ) : WT e (d + 5) 72 [vR 2 0, vI l, vI x, vI w] σ P := by
  refine WT_in fun K hK => ?_
  have hK : StpY e cX5_event RX5 (some .int) (WT e (d + 4)) P K := hK
  have hM := hK.1
  have hC := hK.1.1
  show K 0 [some (vR 2 0), some (vI l), some (vI x), some (vI w), none] [] σ
  refine r_rngz hC (fun g0 => ?_)
  have r_l : -2147483648 ≤ l ∧ l ≤ 2147483647 := inR_le (g0 (vI l) (by simp))
  have r_x : -2147483648 ≤ x ∧ x ≤ 2147483647 := inR_le (g0 (vI x) (by simp))
  have r_w : -2147483648 ≤ w ∧ w ≤ 2147483647 := inR_le (g0 (vI w) (by simp))
  refine r_aload_n hC dX5_event_0 rfl ?_
  refine r_iload_n hC dX5_event_1 rfl ?_
  refine r_iload_n hC dX5_event_2 rfl ?_
  refine z_inv2 hM dX5_event_3 vl_RX5_171 rfl rfl rfl (Nat.le_of_ble_eq_true rfl) (Nat.le_of_ble_eq_true rfl) ?_
  refine s_laneHolding ?_ (fun h1 x_h1 => ?_)
  · refine r_astoreN hC dX5_event_6 rfl ?_
    refine r_aloadN hC dX5_event_8 rfl ?_
    refine r_ifnonnullN hC dX5_event_10 ?_
    refine r_ldc hC dX5_event_13 co_RX5_175 rfl ?_
    refine y_iret hK rfl dX5_event_15 ?_
    exact k _ (by omega)
  · refine r_astore hC dX5_event_6 rfl ?_
    refine r_aload hC dX5_event_8 rfl ?_
    refine r_ifnonnullR (tgt := 16) hC dX5_event_10 rfl ?_
    refine r_iload_n hC dX5_event_16 rfl ?_
    rcases (by omega : (w < 0 ∨ 2 < w) ∨ w = 0 ∨ w = 1 ∨ w = 2) with h2 | h2 | h2 | h2
    · refine r_tableOut (tgt := 68) hC dX5_event_17 h2 rfl ?_
      refine r_ldc hC dX5_event_68 co_RX5_175 rfl ?_
      refine y_iret hK rfl dX5_event_70 ?_
      exact k _ (by omega)
    · refine r_tableIn (tgt := 44) (off := 27) hC dX5_event_17 (by omega) (by omega) (by rw [h2]; rfl) rfl ?_
      refine r_aload hC dX5_event_44 rfl ?_
      refine z_getR hM dX5_event_46 fl_RX5_198 rfl rfl (vld_of (n := 7) rfl (by omega) (by omega)) ?_
      refine r_iload_n hC dX5_event_49 rfl ?_
      refine z_iald hM dX5_event_50 rfl (by omega) (by omega) (fun v3 h_v3 o_v3 t_v3 => ?_)
      refine y_iret hK rfl dX5_event_51 ?_
      exact k _ (by omega)
    · refine r_tableIn (tgt := 52) (off := 35) hC dX5_event_17 (by omega) (by omega) (by rw [h2]; rfl) rfl ?_
      refine r_aload hC dX5_event_52 rfl ?_
      refine z_getR hM dX5_event_54 fl_RX5_176 rfl rfl (vld_of (n := 7) rfl (by omega) (by omega)) ?_
      refine r_iload_n hC dX5_event_57 rfl ?_
      refine z_iald hM dX5_event_58 rfl (by omega) (by omega) (fun v4 h_v4 o_v4 t_v4 => ?_)
      have q_v4 : -1000 ≤ v4 ∧ v4 ≤ 1000 := o_v4
      refine y_iret hK rfl dX5_event_59 ?_
      exact k _ (by omega)
    · refine r_tableIn (tgt := 60) (off := 43) hC dX5_event_17 (by omega) (by omega) (by rw [h2]; rfl) rfl ?_
      refine r_aload hC dX5_event_60 rfl ?_
      refine z_getR hM dX5_event_62 fl_RX5_245 rfl rfl (vld_of (n := 7) rfl (by omega) (by omega)) ?_
      refine r_iload_n hC dX5_event_65 rfl ?_
      refine z_iald hM dX5_event_66 rfl (by omega) (by omega) (fun v5 h_v5 o_v5 t_v5 => ?_)
      refine y_iret hK rfl dX5_event_67 ?_
      exact k _ (by omega)
theorem s_isFull {e : Ev} {d : Nat} {P : Option Vl → Mm → Prop} {σ : Mm} {i : Int} (b_i : 0 ≤ i ∧ i ≤ 6)  (k : ∀ r : Int, 0 ≤ r ∧ r ≤ 1 → P (some (vI r)) σ) : WT e (d + 1) 29 [vR 7 i] σ P := by
  refine WT_in fun K hK => ?_
  have hK : StpY e cX2_isFull RX2 (some .boolean) (WT e (d + 0)) P K := hK
  have hM := hK.1
  have hC := hK.1.1
  show K 0 [some (vR 7 i)] [] σ
  refine r_aload_n hC dX2_isFull_0 rfl ?_
  refine z_getI (jz := 3) hM dX2_isFull_1 fl_RX2_39 rfl rfl rfl (fun v1 h_v1 o_v1 t_v1 => ?_)
  refine r_iconst hC dX2_isFull_4 rfl ?_
  have J22_3 : ∀ (w3 : Int), 0 ≤ w3 ∧ w3 ≤ 1 → K 22 [some (vR 7 i)] [vI w3] σ := by
    intro w3  f_w3 
    refine y_zret hK rfl dX2_isFull_22 (by omega) ?_
    exact k _ (by omega)
  refine r_icmp_eq (tgt := 21) hC dX2_isFull_5 rfl (fun h2 => ?_) (fun h2 => ?_)
  · refine r_iconst hC dX2_isFull_21 rfl ?_
    exact J22_3 (0)  (by omega) 
  · refine r_aload_n hC dX2_isFull_8 rfl ?_
    refine z_getI (jz := 6) hM dX2_isFull_9 fl_RX2_48 rfl rfl rfl (fun v5 h_v5 o_v5 t_v5 => ?_)
    have q_v5 : 0 ≤ v5 ∧ v5 ≤ 121 := o_v5.1 rfl
    refine r_bipush hC dX2_isFull_12 rfl ?_
    refine r_icmp_lt (tgt := 21) hC dX2_isFull_14 rfl (fun h6 => ?_) (fun h6 => ?_)
    · refine r_iconst hC dX2_isFull_21 rfl ?_
      exact J22_3 (0)  (by omega) 
    · refine r_iconst hC dX2_isFull_17 rfl ?_
      refine r_goto (tgt := 22) hC dX2_isFull_18 rfl ?_
      exact J22_3 (1)  (by omega) 
theorem s_isTooLate {e : Ev} {d : Nat} {P : Option Vl → Mm → Prop} {σ : Mm} {i t : Int} (b_i : 0 ≤ i ∧ i ≤ 6)  (k : ∀ r : Int, 0 ≤ r ∧ r ≤ 1 → P (some (vI r)) σ) : WT e (d + 1) 30 [vR 7 i, vI t] σ P := by
  refine WT_in fun K hK => ?_
  have hK : StpY e cX2_isTooLate RX2 (some .boolean) (WT e (d + 0)) P K := hK
  have hM := hK.1
  have hC := hK.1.1
  show K 0 [some (vR 7 i), some (vI t)] [] σ
  refine r_rngz hC (fun g0 => ?_)
  have r_t : -2147483648 ≤ t ∧ t ≤ 2147483647 := inR_le (g0 (vI t) (by simp))
  refine r_iload_n hC dX2_isTooLate_0 rfl ?_
  refine r_aload_n hC dX2_isTooLate_1 rfl ?_
  refine z_getI (jz := 10) hM dX2_isTooLate_2 fl_RX2_51 rfl rfl rfl (fun v1 h_v1 o_v1 t_v1 => ?_)
  refine r_aload_n hC dX2_isTooLate_5 rfl ?_
  refine z_getI (jz := 5) hM dX2_isTooLate_6 fl_RX2_45 rfl rfl rfl (fun v2 h_v2 o_v2 t_v2 => ?_)
  refine r_isubG hC dX2_isTooLate_9 (fun v3 h_v3 => ?_)
  have J18_5 : ∀ (w5 : Int), 0 ≤ w5 ∧ w5 ≤ 1 → K 18 [some (vR 7 i), some (vI t)] [vI w5] σ := by
    intro w5  f_w5 
    refine y_zret hK rfl dX2_isTooLate_18 (by omega) ?_
    exact k _ (by omega)
  refine r_icmp_ge (tgt := 17) hC dX2_isTooLate_10 rfl (fun h4 => ?_) (fun h4 => ?_)
  · refine r_iconst hC dX2_isTooLate_17 rfl ?_
    exact J18_5 (0)  (by omega) 
  · refine r_iconst hC dX2_isTooLate_13 rfl ?_
    refine r_goto (tgt := 18) hC dX2_isTooLate_14 rfl ?_
    exact J18_5 (1)  (by omega) 
theorem s_goes {e : Ev} {d : Nat} {P : Option Vl → Mm → Prop} {σ : Mm} {i m t z : Int} (b_i : 0 ≤ i ∧ i ≤ 6)  (k : ∀ r : Int, 0 ≤ r ∧ r ≤ 1 → P (some (vI r)) σ) : WT e (d + 1) 33 [vR 7 i, vI m, vI t, vI z] σ P := by
  refine WT_in fun K hK => ?_
  have hK : StpY e cX2_goes RX2 (some .boolean) (WT e (d + 0)) P K := hK
  have hM := hK.1
  have hC := hK.1.1
  show K 0 [some (vR 7 i), some (vI m), some (vI t), some (vI z)] [] σ
  refine r_rngz hC (fun g0 => ?_)
  have r_m : -2147483648 ≤ m ∧ m ≤ 2147483647 := inR_le (g0 (vI m) (by simp))
  have r_t : -2147483648 ≤ t ∧ t ≤ 2147483647 := inR_le (g0 (vI t) (by simp))
  have r_z : -2147483648 ≤ z ∧ z ≤ 2147483647 := inR_le (g0 (vI z) (by simp))
  refine r_aload_n hC dX2_goes_0 rfl ?_
  refine z_getI (jz := 3) hM dX2_goes_1 fl_RX2_39 rfl rfl rfl (fun v1 h_v1 o_v1 t_v1 => ?_)
  refine r_iconst hC dX2_goes_4 rfl ?_
  have J39_3 : ∀ (w3 : Int), 0 ≤ w3 ∧ w3 ≤ 1 → K 39 [some (vR 7 i), some (vI m), some (vI t), some (vI z)] [vI w3] σ := by
    intro w3  f_w3 
    refine y_zret hK rfl dX2_goes_39 (by omega) ?_
    exact k _ (by omega)
  refine r_icmp_ne (tgt := 16) hC dX2_goes_5 rfl (fun h2 => ?_) (fun h2 => ?_)
  · refine r_aload_n hC dX2_goes_16 rfl ?_
    refine z_getI (jz := 3) hM dX2_goes_17 fl_RX2_39 rfl rfl rfl (fun v5 h_v5 o_v5 t_v5 => ?_)
    refine r_iconst hC dX2_goes_20 rfl ?_
    refine r_icmp_ne (tgt := 38) hC dX2_goes_21 rfl (fun h6 => ?_) (fun h6 => ?_)
    · refine r_iconst hC dX2_goes_38 rfl ?_
      exact J39_3 (0)  (by omega) 
    · refine r_iload_n hC dX2_goes_24 rfl ?_
      refine r_iload_n hC dX2_goes_25 rfl ?_
      refine r_aload_n hC dX2_goes_26 rfl ?_
      refine z_getI (jz := 4) hM dX2_goes_27 fl_RX2_42 rfl rfl rfl (fun v7 h_v7 o_v7 t_v7 => ?_)
      refine r_isubG hC dX2_goes_30 (fun v8 h_v8 => ?_)
      refine r_icmp_gt (tgt := 38) hC dX2_goes_31 rfl (fun h9 => ?_) (fun h9 => ?_)
      · refine r_iconst hC dX2_goes_38 rfl ?_
        exact J39_3 (0)  (by omega) 
      · refine r_iconst hC dX2_goes_34 rfl ?_
        refine r_goto (tgt := 39) hC dX2_goes_35 rfl ?_
        exact J39_3 (1)  (by omega) 
  · refine r_iload_n hC dX2_goes_8 rfl ?_
    refine r_aload_n hC dX2_goes_9 rfl ?_
    refine z_getI (jz := 4) hM dX2_goes_10 fl_RX2_42 rfl rfl rfl (fun v10 h_v10 o_v10 t_v10 => ?_)
    refine r_icmp_gt (tgt := 34) hC dX2_goes_13 rfl (fun h11 => ?_) (fun h11 => ?_)
    · refine r_iconst hC dX2_goes_34 rfl ?_
      refine r_goto (tgt := 39) hC dX2_goes_35 rfl ?_
      exact J39_3 (1)  (by omega) 
    · refine r_aload_n hC dX2_goes_16 rfl ?_
      refine z_getI (jz := 3) hM dX2_goes_17 fl_RX2_39 rfl rfl rfl (fun v12 h_v12 o_v12 t_v12 => ?_)
      refine r_iconst hC dX2_goes_20 rfl ?_
      refine r_icmp_ne (tgt := 38) hC dX2_goes_21 rfl (fun h13 => ?_) (fun h13 => ?_)
      · refine r_iconst hC dX2_goes_38 rfl ?_
        exact J39_3 (0)  (by omega) 
      · refine r_iload_n hC dX2_goes_24 rfl ?_
        refine r_iload_n hC dX2_goes_25 rfl ?_
        refine r_aload_n hC dX2_goes_26 rfl ?_
        refine z_getI (jz := 4) hM dX2_goes_27 fl_RX2_42 rfl rfl rfl (fun v14 h_v14 o_v14 t_v14 => ?_)
        refine r_isubG hC dX2_goes_30 (fun v15 h_v15 => ?_)
        refine r_icmp_gt (tgt := 38) hC dX2_goes_31 rfl (fun h16 => ?_) (fun h16 => ?_)
        · refine r_iconst hC dX2_goes_38 rfl ?_
          exact J39_3 (0)  (by omega) 
        · refine r_iconst hC dX2_goes_34 rfl ?_
          refine r_goto (tgt := 39) hC dX2_goes_35 rfl ?_
          exact J39_3 (1)  (by omega) 
theorem s_startsSession {e : Ev} {d : Nat} {P : Option Vl → Mm → Prop} {σ : Mm} {i x z : Int} (b_i : 0 ≤ i ∧ i ≤ 6) (b_x : 0 ≤ x ∧ x ≤ 120)  (k : ∀ r : Int, 0 ≤ r ∧ r ≤ 1 → P (some (vI r)) σ) : WT e (d + 1) 32 [vR 7 i, vI x, vI z] σ P := by
  refine WT_in fun K hK => ?_
  have hK : StpY e cX2_startsSession RX2 (some .boolean) (WT e (d + 0)) P K := hK
  have hM := hK.1
  have hC := hK.1.1
  show K 0 [some (vR 7 i), some (vI x), some (vI z)] [] σ
  refine r_rngz hC (fun g0 => ?_)
  have r_z : -2147483648 ≤ z ∧ z ≤ 2147483647 := inR_le (g0 (vI z) (by simp))
  refine r_iload_n hC dX2_startsSession_0 rfl ?_
  have J28_2 : ∀ (w2 : Int), 0 ≤ w2 ∧ w2 ≤ 1 → K 28 [some (vR 7 i), some (vI x), some (vI z)] [vI w2] σ := by
    intro w2  f_w2 
    refine y_zret hK rfl dX2_startsSession_28 (by omega) ?_
    exact k _ (by omega)
  refine r_if_eq (tgt := 23) hC dX2_startsSession_1 rfl (fun h1 => ?_) (fun h1 => ?_)
  · refine r_iconst hC dX2_startsSession_23 rfl ?_
    refine r_goto (tgt := 28) hC dX2_startsSession_24 rfl ?_
    exact J28_2 (1)  (by omega) 
  · refine r_aload_n hC dX2_startsSession_4 rfl ?_
    refine z_getR hM dX2_startsSession_5 fl_RX2_15 rfl rfl (vld_of (n := 7) rfl (by omega) (by omega)) ?_
    refine r_iload_n hC dX2_startsSession_8 rfl ?_
    refine z_iald hM dX2_startsSession_9 rfl (by omega) (by omega) (fun v4 h_v4 o_v4 t_v4 => ?_)
    refine r_aload_n hC dX2_startsSession_10 rfl ?_
    refine z_getR hM dX2_startsSession_11 fl_RX2_15 rfl rfl (vld_of (n := 7) rfl (by omega) (by omega)) ?_
    refine r_iload_n hC dX2_startsSession_14 rfl ?_
    refine r_iconst hC dX2_startsSession_15 rfl ?_
    refine r_isubE hC ((x - 1)) dX2_startsSession_16 (by omega) (by unfold inR; omega) ?_
    refine z_iald hM dX2_startsSession_17 rfl (by omega) (by omega) (fun v5 h_v5 o_v5 t_v5 => ?_)
    refine r_isubG hC dX2_startsSession_18 (fun v6 h_v6 => ?_)
    refine r_iload_n hC dX2_startsSession_19 rfl ?_
    refine r_icmp_le (tgt := 27) hC dX2_startsSession_20 rfl (fun h7 => ?_) (fun h7 => ?_)
    · refine r_iconst hC dX2_startsSession_27 rfl ?_
      exact J28_2 (0)  (by omega) 
    · refine r_iconst hC dX2_startsSession_23 rfl ?_
      refine r_goto (tgt := 28) hC dX2_startsSession_24 rfl ?_
      exact J28_2 (1)  (by omega) 
theorem s_heldUntil {e : Ev} {d : Nat} {P : Option Vl → Mm → Prop} {σ : Mm} {i t : Int} (b_i : 0 ≤ i ∧ i ≤ 6)  (k : ∀ r : Int, 0 ≤ r ∧ r ≤ 121 → P (some (vI r)) σ) : WT e (d + 1) 31 [vR 7 i, vL t] σ P := by
  refine WT_in fun K hK => ?_
  have hK : StpY e cX2_heldUntil RX2 (some .int) (WT e (d + 0)) P K := hK
  have hM := hK.1
  have hC := hK.1.1
  show K 0 [some (vR 7 i), some (vL t), none, none] [] σ
  refine r_aload_n hC dX2_heldUntil_0 rfl ?_
  refine z_getI (jz := 6) hM dX2_heldUntil_1 fl_RX2_48 rfl rfl rfl (fun v1 h_v1 o_v1 t_v1 => ?_)
  have q_v1 : 0 ≤ v1 ∧ v1 ≤ 121 := o_v1.1 rfl
  refine r_istore_n hC dX2_heldUntil_4 rfl ?_
  have L5 : ∀ (n5 : Nat) (w2 : Int), 0 ≤ w2 ∧ w2 ≤ 121 → w2 - 0 < (n5 : Int) → K 5 [some (vR 7 i), some (vL t), none, some (vI w2)] [] σ := by
    intro n5
    induction n5 with
    | zero => intro w2  f_w2  hm ; omega
    | succ n5 ih5 =>
      intro w2  f_w2  hm5 
      refine r_iload_n hC dX2_heldUntil_5 rfl ?_
      have J29_3 : K 29 [some (vR 7 i), some (vL t), none, some (vI w2)] [] σ := by
        refine r_iload_n hC dX2_heldUntil_29 rfl ?_
        refine y_iret hK rfl dX2_heldUntil_30 ?_
        exact k _ (by omega)
      refine r_if_le (tgt := 29) hC dX2_heldUntil_6 rfl (fun h3 => ?_) (fun h3 => ?_)
      · exact J29_3
      · refine r_aload_n hC dX2_heldUntil_9 rfl ?_
        refine z_getR hM dX2_heldUntil_10 fl_RX2_15 rfl rfl (vld_of (n := 7) rfl (by omega) (by omega)) ?_
        refine r_iload_n hC dX2_heldUntil_13 rfl ?_
        refine r_iconst hC dX2_heldUntil_14 rfl ?_
        refine r_isubE hC ((w2 - 1)) dX2_heldUntil_15 (by omega) (by unfold inR; omega) ?_
        refine z_iald hM dX2_heldUntil_16 rfl (by omega) (by omega) (fun v5 h_v5 o_v5 t_v5 => ?_)
        refine r_i2l hC dX2_heldUntil_17 ?_
        refine r_lload_n hC dX2_heldUntil_18 rfl ?_
        refine r_lcmpG hC dX2_heldUntil_19 (fun v6 h_v6 => ?_)
        refine r_if_le (tgt := 29) hC dX2_heldUntil_20 rfl (fun h7 => ?_) (fun h7 => ?_)
        · exact J29_3
        · refine r_iincE hC ((w2 - 1)) dX2_heldUntil_23 rfl rfl (by omega) (by unfold inR; omega) ?_
          refine r_goto (tgt := 5) hC dX2_heldUntil_26 rfl ?_
          exact ih5 ((w2 - 1))  (by omega)  (by omega) 
  exact L5 123 (v1)  (by omega)  (by omega) 
theorem s_max {e : Ev} {d : Nat} {P : Option Vl → Mm → Prop} {σ : Mm} {a b : Int}   (k : ∀ r : Int, -2147483648 ≤ r ∧ r ≤ 2147483647 → P (some (vI r)) σ) : WT e (d + 1) 264 [vI a, vI b] σ P := by
  refine WT_in fun K hK => ?_
  have hK : StpY e cJ9_max_7cf53 RJ9 (some .int) (WT e (d + 0)) P K := hK
  have hM := hK.1
  have hC := hK.1.1
  show K 0 [some (vI a), some (vI b)] [] σ
  refine r_rngz hC (fun g0 => ?_)
  have r_a : -2147483648 ≤ a ∧ a ≤ 2147483647 := inR_le (g0 (vI a) (by simp))
  have r_b : -2147483648 ≤ b ∧ b ≤ 2147483647 := inR_le (g0 (vI b) (by simp))
  refine r_iload_n hC dJ9_max_7cf53_0 rfl ?_
  refine r_iload_n hC dJ9_max_7cf53_1 rfl ?_
  have J10_2 : ∀ (w2 : Int), -2147483648 ≤ w2 ∧ w2 ≤ 2147483647 → K 10 [some (vI a), some (vI b)] [vI w2] σ := by
    intro w2  f_w2 
    refine y_iret hK rfl dJ9_max_7cf53_10 ?_
    exact k _ (by omega)
  refine r_icmp_lt (tgt := 9) hC dJ9_max_7cf53_2 rfl (fun h1 => ?_) (fun h1 => ?_)
  · refine r_iload_n hC dJ9_max_7cf53_9 rfl ?_
    exact J10_2 (b)  (by omega) 
  · refine r_iload_n hC dJ9_max_7cf53_5 rfl ?_
    refine r_goto (tgt := 10) hC dJ9_max_7cf53_6 rfl ?_
    exact J10_2 (a)  (by omega) 
theorem s_min {e : Ev} {d : Nat} {P : Option Vl → Mm → Prop} {σ : Mm} {a b : Int}   (k : ∀ r : Int, -2147483648 ≤ r ∧ r ≤ 2147483647 → P (some (vI r)) σ) : WT e (d + 1) 265 [vI a, vI b] σ P := by
  refine WT_in fun K hK => ?_
  have hK : StpY e cJ9_min_7cf53 RJ9 (some .int) (WT e (d + 0)) P K := hK
  have hM := hK.1
  have hC := hK.1.1
  show K 0 [some (vI a), some (vI b)] [] σ
  refine r_rngz hC (fun g0 => ?_)
  have r_a : -2147483648 ≤ a ∧ a ≤ 2147483647 := inR_le (g0 (vI a) (by simp))
  have r_b : -2147483648 ≤ b ∧ b ≤ 2147483647 := inR_le (g0 (vI b) (by simp))
  refine r_iload_n hC dJ9_min_7cf53_0 rfl ?_
  refine r_iload_n hC dJ9_min_7cf53_1 rfl ?_
  have J10_2 : ∀ (w2 : Int), -2147483648 ≤ w2 ∧ w2 ≤ 2147483647 → K 10 [some (vI a), some (vI b)] [vI w2] σ := by
    intro w2  f_w2 
    refine y_iret hK rfl dJ9_min_7cf53_10 ?_
    exact k _ (by omega)
  refine r_icmp_gt (tgt := 9) hC dJ9_min_7cf53_2 rfl (fun h1 => ?_) (fun h1 => ?_)
  · refine r_iload_n hC dJ9_min_7cf53_9 rfl ?_
    exact J10_2 (b)  (by omega) 
  · refine r_iload_n hC dJ9_min_7cf53_5 rfl ?_
    refine r_goto (tgt := 10) hC dJ9_min_7cf53_6 rfl ?_
    exact J10_2 (a)  (by omega) 
theorem s_abs {e : Ev} {d : Nat} {P : Option Vl → Mm → Prop} {σ : Mm} {a : Int}   (k : ∀ r : Int, -2147483648 ≤ r ∧ r ≤ 2147483647 → P (some (vI r)) σ) : WT e (d + 1) 263 [vI a] σ P := by
  refine WT_in fun K hK => ?_
  have hK : StpY e cJ9_abs_0f7a4 RJ9 (some .int) (WT e (d + 0)) P K := hK
  have hM := hK.1
  have hC := hK.1.1
  show K 0 [some (vI a)] [] σ
  refine r_rngz hC (fun g0 => ?_)
  have r_a : -2147483648 ≤ a ∧ a ≤ 2147483647 := inR_le (g0 (vI a) (by simp))
  refine r_iload_n hC dJ9_abs_0f7a4_0 rfl ?_
  have J10_2 : ∀ (w2 : Int), -2147483648 ≤ w2 ∧ w2 ≤ 2147483647 → K 10 [some (vI a)] [vI w2] σ := by
    intro w2  f_w2 
    refine y_iret hK rfl dJ9_abs_0f7a4_10 ?_
    exact k _ (by omega)
  refine r_if_ge (tgt := 9) hC dJ9_abs_0f7a4_1 rfl (fun h1 => ?_) (fun h1 => ?_)
  · refine r_iload_n hC dJ9_abs_0f7a4_9 rfl ?_
    exact J10_2 (a)  (by omega) 
  · refine r_iload_n hC dJ9_abs_0f7a4_4 rfl ?_
    refine r_inegG hC dJ9_abs_0f7a4_5 (fun v4 h_v4 => ?_)
    refine r_goto (tgt := 10) hC dJ9_abs_0f7a4_6 rfl ?_
    exact J10_2 (v4)  (by omega) 
theorem s_bitCount {e : Ev} {d : Nat} {P : Option Vl → Mm → Prop} {σ : Mm} {a : Int}   (k : ∀ r : Int, 0 ≤ r ∧ r ≤ 63 → P (some (vI r)) σ) : WT e (d + 1) 261 [vI a] σ P := by
  refine WT_in fun K hK => ?_
  have hK : StpY e cJ6_bitCount_0f7a4 RJ6 (some .int) (WT e (d + 0)) P K := hK
  have hM := hK.1
  have hC := hK.1.1
  show K 0 [some (vI a)] [] σ
  refine r_rngz hC (fun g0 => ?_)
  have r_a : -2147483648 ≤ a ∧ a ≤ 2147483647 := inR_le (g0 (vI a) (by simp))
  refine r_iload_n hC dJ6_bitCount_0f7a4_0 rfl ?_
  refine r_iload_n hC dJ6_bitCount_0f7a4_1 rfl ?_
  refine r_iconst hC dJ6_bitCount_0f7a4_2 rfl ?_
  refine r_iushrG hC dJ6_bitCount_0f7a4_3 (fun v1 h_v1 => ?_)
  refine r_ldcw hC dJ6_bitCount_0f7a4_4 co_RJ6_265 rfl ?_
  refine r_iandB hC dJ6_bitCount_0f7a4_7 (by omega) (inR_lit rfl) (fun v2 h_v2 => ?_)
  refine r_isubG hC dJ6_bitCount_0f7a4_8 (fun v3 h_v3 => ?_)
  refine r_istore_n hC dJ6_bitCount_0f7a4_9 rfl ?_
  refine r_iload_n hC dJ6_bitCount_0f7a4_10 rfl ?_
  refine r_ldcw hC dJ6_bitCount_0f7a4_11 co_RJ6_266 rfl ?_
  refine r_iandB hC dJ6_bitCount_0f7a4_14 (by omega) (inR_lit rfl) (fun v4 h_v4 => ?_)
  refine r_iload_n hC dJ6_bitCount_0f7a4_15 rfl ?_
  refine r_iconst hC dJ6_bitCount_0f7a4_16 rfl ?_
  refine r_iushrG hC dJ6_bitCount_0f7a4_17 (fun v5 h_v5 => ?_)
  refine r_ldcw hC dJ6_bitCount_0f7a4_18 co_RJ6_266 rfl ?_
  refine r_iandB hC dJ6_bitCount_0f7a4_21 (by omega) (inR_lit rfl) (fun v6 h_v6 => ?_)
  refine r_iaddE hC ((v4 + v6)) dJ6_bitCount_0f7a4_22 (by omega) (by unfold inR; omega) ?_
  refine r_istore_n hC dJ6_bitCount_0f7a4_23 rfl ?_
  refine r_iload_n hC dJ6_bitCount_0f7a4_24 rfl ?_
  refine r_iload_n hC dJ6_bitCount_0f7a4_25 rfl ?_
  refine r_iconst hC dJ6_bitCount_0f7a4_26 rfl ?_
  refine r_iushrG hC dJ6_bitCount_0f7a4_27 (fun v7 h_v7 => ?_)
  refine r_iaddG hC dJ6_bitCount_0f7a4_28 (fun v8 h_v8 => ?_)
  refine r_ldcw hC dJ6_bitCount_0f7a4_29 co_RJ6_267 rfl ?_
  refine r_iandB hC dJ6_bitCount_0f7a4_32 (by omega) (inR_lit rfl) (fun v9 h_v9 => ?_)
  refine r_istore_n hC dJ6_bitCount_0f7a4_33 rfl ?_
  show K _ [_] _ _
  refine r_iload_n hC dJ6_bitCount_0f7a4_34 rfl ?_
  refine r_iload_n hC dJ6_bitCount_0f7a4_35 rfl ?_
  refine r_bipush hC dJ6_bitCount_0f7a4_36 rfl ?_
  refine r_iushrG hC dJ6_bitCount_0f7a4_38 (fun v10 h_v10 => ?_)
  refine r_iaddG hC dJ6_bitCount_0f7a4_39 (fun v11 h_v11 => ?_)
  refine r_istore_n hC dJ6_bitCount_0f7a4_40 rfl ?_
  refine r_iload_n hC dJ6_bitCount_0f7a4_41 rfl ?_
  refine r_iload_n hC dJ6_bitCount_0f7a4_42 rfl ?_
  refine r_bipush hC dJ6_bitCount_0f7a4_43 rfl ?_
  refine r_iushrG hC dJ6_bitCount_0f7a4_45 (fun v12 h_v12 => ?_)
  refine r_iaddG hC dJ6_bitCount_0f7a4_46 (fun v13 h_v13 => ?_)
  refine r_istore_n hC dJ6_bitCount_0f7a4_47 rfl ?_
  refine r_iload_n hC dJ6_bitCount_0f7a4_48 rfl ?_
  refine r_bipush hC dJ6_bitCount_0f7a4_49 rfl ?_
  refine r_iandB hC dJ6_bitCount_0f7a4_51 (by omega) (inR_lit rfl) (fun v14 h_v14 => ?_)
  refine y_iret hK rfl dJ6_bitCount_0f7a4_52 ?_
  exact k _ (by omega)
theorem s_many {e : Ev} {d : Nat} {P : Option Vl → Mm → Prop} {σ : Mm} {l x y : Int}   (k : ∀ r : Int, -2147483648 ≤ r ∧ r ≤ 2147483647 → P (some (vI r)) σ) : WT e (d + 4) 76 [vR 2 0, vI l, vI x, vI y] σ P := by
  refine WT_in fun K hK => ?_
  have hK : StpY e cX5_many RX5 (some .int) (WT e (d + 3)) P K := hK
  have hM := hK.1
  have hC := hK.1.1
  show K 0 [some (vR 2 0), some (vI l), some (vI x), some (vI y), none] [] σ
  refine r_rngz hC (fun g0 => ?_)
  have r_l : -2147483648 ≤ l ∧ l ≤ 2147483647 := inR_le (g0 (vI l) (by simp))
  have r_x : -2147483648 ≤ x ∧ x ≤ 2147483647 := inR_le (g0 (vI x) (by simp))
  have r_y : -2147483648 ≤ y ∧ y ≤ 2147483647 := inR_le (g0 (vI y) (by simp))
  refine r_aload_n hC dX5_many_0 rfl ?_
  refine r_iload_n hC dX5_many_1 rfl ?_
  refine z_inv1 hM dX5_many_2 vl_RX5_123 rfl rfl rfl (Nat.le_of_ble_eq_true rfl) (Nat.le_of_ble_eq_true rfl) ?_
  refine s_openLane ?_ (fun h1 => ?_)
  · refine r_astoreN hC dX5_many_5 rfl ?_
    refine r_aloadN hC dX5_many_7 rfl ?_
    refine r_ifnonnullN hC dX5_many_9 ?_
    refine r_iconst hC dX5_many_12 rfl ?_
    refine r_goto (tgt := 37) hC dX5_many_13 rfl ?_
    refine y_iret hK rfl dX5_many_37 ?_
    exact k _ (by omega)
  · refine r_astore hC dX5_many_5 rfl ?_
    refine r_aload hC dX5_many_7 rfl ?_
    refine r_ifnonnullR (tgt := 16) hC dX5_many_9 rfl ?_
    refine r_iconst hC dX5_many_16 rfl ?_
    refine r_aload hC dX5_many_17 rfl ?_
    refine r_iload_n hC dX5_many_19 rfl ?_
    refine r_i2l hC dX5_many_20 ?_
    refine z_inv1 hM dX5_many_21 vl_RX5_167 rfl rfl rfl (Nat.le_of_ble_eq_true rfl) (Nat.le_of_ble_eq_true rfl) ?_
    refine s_heldUntil (by omega) (fun v2 h_v2 => ?_)
    refine r_aload hC dX5_many_24 rfl ?_
    refine r_iload_n hC dX5_many_26 rfl ?_
    refine r_i2l hC dX5_many_27 ?_
    refine r_lconst hC dX5_many_28 (a := 1) rfl ?_
    refine r_lsub hC dX5_many_29 ?_
    refine z_inv1 hM dX5_many_30 vl_RX5_167 rfl rfl rfl (Nat.le_of_ble_eq_true rfl) (Nat.le_of_ble_eq_true rfl) ?_
    refine s_heldUntil (by omega) (fun v3 h_v3 => ?_)
    refine r_isubE hC ((v2 - v3)) dX5_many_33 (by omega) (by unfold inR; omega) ?_
    refine z_ins2 hM dX5_many_34 tl_RX5_239 rfl (Nat.le_of_ble_eq_true rfl) (Nat.le_of_ble_eq_true rfl) ?_
    refine s_max (fun v4 h_v4 => ?_)
    refine y_iret hK rfl dX5_many_37 ?_
    exact k _ (by omega)
theorem s_panes {e : Ev} {d : Nat} {P : Option Vl → Mm → Prop} {σ : Mm} {l w : Int}   (k : ∀ r : Int, -2147483648 ≤ r ∧ r ≤ 2147483647 → P (some (vI r)) σ) : WT e (d + 4) 89 [vR 2 0, vI l, vI w] σ P := by
  refine WT_in fun K hK => ?_
  have hK : StpY e cX5_panes RX5 (some .int) (WT e (d + 3)) P K := hK
  have hM := hK.1
  have hC := hK.1.1
  show K 0 [some (vR 2 0), some (vI l), some (vI w), none, none, none, none, none] [] σ
  refine r_rngz hC (fun g0 => ?_)
  have r_l : -2147483648 ≤ l ∧ l ≤ 2147483647 := inR_le (g0 (vI l) (by simp))
  have r_w : -2147483648 ≤ w ∧ w ≤ 2147483647 := inR_le (g0 (vI w) (by simp))
  refine r_aload_n hC dX5_panes_0 rfl ?_
  refine r_iload_n hC dX5_panes_1 rfl ?_
  refine z_inv1 hM dX5_panes_2 vl_RX5_123 rfl rfl rfl (Nat.le_of_ble_eq_true rfl) (Nat.le_of_ble_eq_true rfl) ?_
  refine s_openLane ?_ (fun h1 => ?_)
  · refine r_astoreN_n hC dX5_panes_5 rfl ?_
    refine r_aloadN_n hC dX5_panes_6 rfl ?_
    refine r_ifnullN (tgt := 21) hC dX5_panes_7 rfl ?_
    refine r_iconst hC dX5_panes_21 rfl ?_
    refine y_iret hK rfl dX5_panes_22 ?_
    exact k _ (by omega)
  · refine r_astore_n hC dX5_panes_5 rfl ?_
    refine r_aload_n hC dX5_panes_6 rfl ?_
    refine r_ifnullR hC dX5_panes_7 ?_
    refine r_iload_n hC dX5_panes_10 rfl ?_
    refine r_iconst hC dX5_panes_11 rfl ?_
    refine r_ldcw hC dX5_panes_12 co_RX5_284 rfl ?_
    refine z_ins3 hM dX5_panes_15 tl_RX5_59 rfl (Nat.le_of_ble_eq_true rfl) (Nat.le_of_ble_eq_true rfl) ?_
    refine s_within (fun h3 => ?_) (fun h3 => ?_)
    · refine r_if_ne (tgt := 23) hC dX5_panes_18 rfl (fun h4 => ?_) (fun h4 => by omega)
      refine r_iconst hC dX5_panes_23 rfl ?_
      refine r_istore hC dX5_panes_24 rfl ?_
      refine r_iconst hC dX5_panes_26 rfl ?_
      refine r_istore hC dX5_panes_27 rfl ?_
      refine r_iconst hC dX5_panes_29 rfl ?_
      refine r_istore hC dX5_panes_30 rfl ?_
      have L32 : ∀ (n32 : Nat) (w5 w6 w7 : Int), -2147483648 ≤ w5 ∧ w5 ≤ 2147483647 → -2147483648 ≤ w6 ∧ w6 ≤ 2147483647 → 0 ≤ w7 ∧ w7 ≤ 121 → 121 - w7 < (n32 : Int) → K 32 [some (vR 2 0), some (vI l), some (vI w), some (vR 7 l), some (vI w5), some (vI w6), some (vI w7), none] [] σ := by
        intro n32
        induction n32 with
        | zero => intro w5 w6 w7  f_w5 f_w6 f_w7  hm ; omega
        | succ n32 ih32 =>
          intro w5 w6 w7  f_w5 f_w6 f_w7  hm32 
          refine r_iload hC dX5_panes_32 rfl ?_
          refine r_aload_n hC dX5_panes_34 rfl ?_
          refine z_getI (jz := 6) hM dX5_panes_35 fl_RX5_154 rfl rfl rfl (fun v8 h_v8 o_v8 t_v8 => ?_)
          have q_v8 : 0 ≤ v8 ∧ v8 ≤ 121 := o_v8.1 rfl
          refine r_icmp_ge (tgt := 79) hC dX5_panes_38 rfl (fun h9 => ?_) (fun h9 => ?_)
          · refine r_iload hC dX5_panes_79 rfl ?_
            refine y_iret hK rfl dX5_panes_81 ?_
            exact k _ (by omega)
          · refine r_aload_n hC dX5_panes_41 rfl ?_
            refine z_getR hM dX5_panes_42 fl_RX5_198 rfl rfl (vld_of (n := 7) rfl (by omega) (by omega)) ?_
            refine r_iload hC dX5_panes_45 rfl ?_
            refine z_iald hM dX5_panes_47 rfl (by omega) (by omega) (fun v10 h_v10 o_v10 t_v10 => ?_)
            refine r_iload_n hC dX5_panes_48 rfl ?_
            refine r_idivG hC dX5_panes_49 (by omega) (by omega) (fun v11 h_v11 => ?_)
            refine r_istore hC dX5_panes_50 rfl ?_
            refine r_iload hC dX5_panes_52 rfl ?_
            refine r_iload hC dX5_panes_54 rfl ?_
            refine r_iload hC dX5_panes_56 rfl ?_
            have J66_13 : ∀ (w13 : Int), 0 ≤ w13 ∧ w13 ≤ 1 → K 66 [some (vR 2 0), some (vI l), some (vI w), some (vR 7 l), some (vI w5), some (vI w6), some (vI w7), some (vI v11)] [vI w13, vI w5] σ := by
              intro w13  f_w13 
              refine r_iaddG hC dX5_panes_66 (fun v15 h_v15 => ?_)
              refine r_istore hC dX5_panes_67 rfl ?_
              refine r_iload hC dX5_panes_69 rfl ?_
              refine r_istore hC dX5_panes_71 rfl ?_
              refine r_iincE hC ((w7 + 1)) dX5_panes_73 rfl rfl (by omega) (by unfold inR; omega) ?_
              show K _ [_, _, _, _, _, _, _, _] _ _
              refine r_goto (tgt := 32) hC dX5_panes_76 rfl ?_
              refine r_forget hC (ls2 := [some (vR 2 0), some (vI l), some (vI w), some (vR 7 l), some (vI v15), some (vI v11), some (vI (w7 + 1)), none]) (lsub_some (lsub_some (lsub_some (lsub_some (lsub_some (lsub_some (lsub_some (lsub_none lsub_nil)))))))) ?_
              exact ih32 (v15) (v11) ((w7 + 1))  (by omega) (by omega) (by omega)  (by omega) 
            refine r_icmp_eq (tgt := 65) hC dX5_panes_58 rfl (fun h12 => ?_) (fun h12 => ?_)
            · refine r_iconst hC dX5_panes_65 rfl ?_
              exact J66_13 (0)  (by omega) 
            · refine r_iconst hC dX5_panes_61 rfl ?_
              refine r_goto (tgt := 66) hC dX5_panes_62 rfl ?_
              exact J66_13 (1)  (by omega) 
      exact L32 123 (0) ((-1)) (0)  (by omega) (by omega) (by omega)  (by omega) 
    · refine r_if_ne (tgt := 23) hC dX5_panes_18 rfl (fun h16 => by omega) (fun h16 => ?_)
      refine r_iconst hC dX5_panes_21 rfl ?_
      refine y_iret hK rfl dX5_panes_22 ?_
      exact k _ (by omega)
theorem s_fullest {e : Ev} {d : Nat} {P : Option Vl → Mm → Prop} {σ : Mm} {l w : Int}   (k : ∀ r : Int, -2147483648 ≤ r ∧ r ≤ 2147483647 → P (some (vI r)) σ) : WT e (d + 4) 90 [vR 2 0, vI l, vI w] σ P := by
  refine WT_in fun K hK => ?_
  have hK : StpY e cX5_fullest RX5 (some .int) (WT e (d + 3)) P K := hK
  have hM := hK.1
  have hC := hK.1.1
  show K 0 [some (vR 2 0), some (vI l), some (vI w), none, none, none, none, none, none, none] [] σ
  refine r_rngz hC (fun g0 => ?_)
  have r_l : -2147483648 ≤ l ∧ l ≤ 2147483647 := inR_le (g0 (vI l) (by simp))
  have r_w : -2147483648 ≤ w ∧ w ≤ 2147483647 := inR_le (g0 (vI w) (by simp))
  refine r_aload_n hC dX5_fullest_0 rfl ?_
  refine r_iload_n hC dX5_fullest_1 rfl ?_
  refine z_inv1 hM dX5_fullest_2 vl_RX5_123 rfl rfl rfl (Nat.le_of_ble_eq_true rfl) (Nat.le_of_ble_eq_true rfl) ?_
  refine s_openLane ?_ (fun h1 => ?_)
  · refine r_astoreN_n hC dX5_fullest_5 rfl ?_
    refine r_aloadN_n hC dX5_fullest_6 rfl ?_
    refine r_ifnullN (tgt := 21) hC dX5_fullest_7 rfl ?_
    refine r_iconst hC dX5_fullest_21 rfl ?_
    refine y_iret hK rfl dX5_fullest_22 ?_
    exact k _ (by omega)
  · refine r_astore_n hC dX5_fullest_5 rfl ?_
    refine r_aload_n hC dX5_fullest_6 rfl ?_
    refine r_ifnullR hC dX5_fullest_7 ?_
    refine r_iload_n hC dX5_fullest_10 rfl ?_
    refine r_iconst hC dX5_fullest_11 rfl ?_
    refine r_ldcw hC dX5_fullest_12 co_RX5_284 rfl ?_
    refine z_ins3 hM dX5_fullest_15 tl_RX5_59 rfl (Nat.le_of_ble_eq_true rfl) (Nat.le_of_ble_eq_true rfl) ?_
    refine s_within (fun h3 => ?_) (fun h3 => ?_)
    · refine r_if_ne (tgt := 23) hC dX5_fullest_18 rfl (fun h4 => ?_) (fun h4 => by omega)
      refine r_iconst hC dX5_fullest_23 rfl ?_
      refine r_istore hC dX5_fullest_24 rfl ?_
      refine r_iconst hC dX5_fullest_26 rfl ?_
      refine r_istore hC dX5_fullest_27 rfl ?_
      refine r_iconst hC dX5_fullest_29 rfl ?_
      refine r_istore hC dX5_fullest_30 rfl ?_
      show K _ [_, _, _, _, _, _, _, _, _, _] _ _
      refine r_iconst hC dX5_fullest_32 rfl ?_
      refine r_istore hC dX5_fullest_33 rfl ?_
      refine r_iconst hC dX5_fullest_35 rfl ?_
      refine r_istore hC dX5_fullest_36 rfl ?_
      have L38 : ∀ (n38 : Nat) (w5 w6 w7 w8 w9 : Int), -2147483648 ≤ w5 ∧ w5 ≤ 2147483647 → 0 ≤ w6 ∧ w6 ≤ 2147483647 → -2147483648 ≤ w7 ∧ w7 ≤ 2147483647 → -2147483648 ≤ w8 ∧ w8 ≤ 2147483647 → 0 ≤ w9 ∧ w9 ≤ 121 → 121 - w9 < (n38 : Int) → K 38 [some (vR 2 0), some (vI l), some (vI w), some (vR 7 l), some (vI w5), some (vI w6), some (vI w7), some (vI w8), some (vI w9), none] [] σ := by
        intro n38
        induction n38 with
        | zero => intro w5 w6 w7 w8 w9  f_w5 f_w6 f_w7 f_w8 f_w9  hm ; omega
        | succ n38 ih38 =>
          intro w5 w6 w7 w8 w9  f_w5 f_w6 f_w7 f_w8 f_w9  hm38 
          refine r_iload hC dX5_fullest_38 rfl ?_
          refine r_aload_n hC dX5_fullest_40 rfl ?_
          refine z_getI (jz := 6) hM dX5_fullest_41 fl_RX5_154 rfl rfl rfl (fun v10 h_v10 o_v10 t_v10 => ?_)
          have q_v10 : 0 ≤ v10 ∧ v10 ≤ 121 := o_v10.1 rfl
          refine r_icmp_ge (tgt := 100) hC dX5_fullest_44 rfl (fun h11 => ?_) (fun h11 => ?_)
          · refine r_iload hC dX5_fullest_100 rfl ?_
            refine y_iret hK rfl dX5_fullest_102 ?_
            exact k _ (by omega)
          · refine r_aload_n hC dX5_fullest_47 rfl ?_
            refine z_getR hM dX5_fullest_48 fl_RX5_198 rfl rfl (vld_of (n := 7) rfl (by omega) (by omega)) ?_
            refine r_iload hC dX5_fullest_51 rfl ?_
            refine z_iald hM dX5_fullest_53 rfl (by omega) (by omega) (fun v12 h_v12 o_v12 t_v12 => ?_)
            refine r_iload_n hC dX5_fullest_54 rfl ?_
            refine r_idivG hC dX5_fullest_55 (by omega) (by omega) (fun v13 h_v13 => ?_)
            refine r_istore hC dX5_fullest_56 rfl ?_
            refine r_iload hC dX5_fullest_58 rfl ?_
            refine r_iload hC dX5_fullest_60 rfl ?_
            have J73_15 : ∀ (w15 : Int), -2147483648 ≤ w15 ∧ w15 ≤ 2147483647 → K 73 [some (vR 2 0), some (vI l), some (vI w), some (vR 7 l), some (vI w5), some (vI w6), some (vI w7), some (vI w8), some (vI w9), some (vI v13)] [vI w15] σ := by
              intro w15  f_w15 
              refine r_istore hC dX5_fullest_73 rfl ?_
              refine r_iload hC dX5_fullest_75 rfl ?_
              refine r_istore hC dX5_fullest_77 rfl ?_
              refine r_iload hC dX5_fullest_79 rfl ?_
              refine r_iload hC dX5_fullest_81 rfl ?_
              have J94_19 : ∀ (w18 w19 : Int), -2147483648 ≤ w18 ∧ w18 ≤ 2147483647 → 0 ≤ w19 ∧ w19 ≤ 2147483647 → K 94 [some (vR 2 0), some (vI l), some (vI w), some (vR 7 l), some (vI w18), some (vI w19), some (vI v13), some (vI w15), some (vI w9), some (vI v13)] [] σ := by
                intro w18 w19  f_w18 f_w19 
                refine r_iincE hC ((w9 + 1)) dX5_fullest_94 rfl rfl (by omega) (by unfold inR; omega) ?_
                refine r_goto (tgt := 38) hC dX5_fullest_97 rfl ?_
                refine r_forget hC (ls2 := [some (vR 2 0), some (vI l), some (vI w), some (vR 7 l), some (vI w18), some (vI w19), some (vI v13), some (vI w15), some (vI (w9 + 1)), none]) (lsub_some (lsub_some (lsub_some (lsub_some (lsub_some (lsub_some (lsub_some (lsub_some (lsub_some (lsub_none lsub_nil)))))))))) ?_
                exact ih38 (w18) (w19) (v13) (w15) ((w9 + 1))  (by omega) (by omega) (by omega) (by omega) (by omega)  (by omega) 
              refine r_icmp_le (tgt := 94) hC dX5_fullest_83 rfl (fun h17 => ?_) (fun h17 => ?_)
              · exact J94_19 (w5) (w6)  (by omega) (by omega)
              · refine r_iload hC dX5_fullest_86 rfl ?_
                refine r_istore hC dX5_fullest_88 rfl ?_
                refine r_iload hC dX5_fullest_90 rfl ?_
                refine r_istore hC dX5_fullest_92 rfl ?_
                exact J94_19 (v13) (w15)  (by omega) (by omega) 
            refine r_icmp_ne (tgt := 72) hC dX5_fullest_62 rfl (fun h14 => ?_) (fun h14 => ?_)
            · refine r_iconst hC dX5_fullest_72 rfl ?_
              exact J73_15 (1)  (by omega) 
            · refine r_iload hC dX5_fullest_65 rfl ?_
              refine r_iconst hC dX5_fullest_67 rfl ?_
              refine r_iaddG hC dX5_fullest_68 (fun v21 h_v21 => ?_)
              refine r_goto (tgt := 73) hC dX5_fullest_69 rfl ?_
              exact J73_15 (v21)  (by omega) 
      exact L38 123 ((-1)) (0) ((-1)) (0) (0)  (by omega) (by omega) (by omega) (by omega) (by omega)  (by omega) 
    · refine r_if_ne (tgt := 23) hC dX5_fullest_18 rfl (fun h22 => by omega) (fun h22 => ?_)
      refine r_iconst hC dX5_fullest_21 rfl ?_
      refine y_iret hK rfl dX5_fullest_22 ?_
      exact k _ (by omega)
theorem s_sessions {e : Ev} {d : Nat} {P : Option Vl → Mm → Prop} {σ : Mm} {l w : Int}   (k : ∀ r : Int, -2147483648 ≤ r ∧ r ≤ 2147483647 → P (some (vI r)) σ) : WT e (d + 4) 91 [vR 2 0, vI l, vI w] σ P := by
  refine WT_in fun K hK => ?_
  have hK : StpY e cX5_sessions RX5 (some .int) (WT e (d + 3)) P K := hK
  have hM := hK.1
  have hC := hK.1.1
  show K 0 [some (vR 2 0), some (vI l), some (vI w), none, none, none] [] σ
  refine r_rngz hC (fun g0 => ?_)
  have r_l : -2147483648 ≤ l ∧ l ≤ 2147483647 := inR_le (g0 (vI l) (by simp))
  have r_w : -2147483648 ≤ w ∧ w ≤ 2147483647 := inR_le (g0 (vI w) (by simp))
  refine r_aload_n hC dX5_sessions_0 rfl ?_
  refine r_iload_n hC dX5_sessions_1 rfl ?_
  refine z_inv1 hM dX5_sessions_2 vl_RX5_123 rfl rfl rfl (Nat.le_of_ble_eq_true rfl) (Nat.le_of_ble_eq_true rfl) ?_
  refine s_openLane ?_ (fun h1 => ?_)
  · refine r_astoreN_n hC dX5_sessions_5 rfl ?_
    refine r_aloadN_n hC dX5_sessions_6 rfl ?_
    refine r_ifnullN (tgt := 17) hC dX5_sessions_7 rfl ?_
    refine r_iconst hC dX5_sessions_17 rfl ?_
    refine y_iret hK rfl dX5_sessions_18 ?_
    exact k _ (by omega)
  · refine r_astore_n hC dX5_sessions_5 rfl ?_
    refine r_aload_n hC dX5_sessions_6 rfl ?_
    refine r_ifnullR hC dX5_sessions_7 ?_
    refine r_iload_n hC dX5_sessions_10 rfl ?_
    refine z_ins1 hM dX5_sessions_11 tl_RX5_285 rfl (Nat.le_of_ble_eq_true rfl) (Nat.le_of_ble_eq_true rfl) ?_
    refine s_isGap (fun h3 => ?_) (fun h3 => ?_)
    · refine r_if_ne (tgt := 19) hC dX5_sessions_14 rfl (fun h4 => ?_) (fun h4 => by omega)
      refine r_iconst hC dX5_sessions_19 rfl ?_
      refine r_istore hC dX5_sessions_20 rfl ?_
      refine r_iconst hC dX5_sessions_22 rfl ?_
      refine r_istore hC dX5_sessions_23 rfl ?_
      have L25 : ∀ (n25 : Nat) (w5 w6 : Int), -2147483648 ≤ w5 ∧ w5 ≤ 2147483647 → 0 ≤ w6 ∧ w6 ≤ 121 → 121 - w6 < (n25 : Int) → K 25 [some (vR 2 0), some (vI l), some (vI w), some (vR 7 l), some (vI w5), some (vI w6)] [] σ := by
        intro n25
        induction n25 with
        | zero => intro w5 w6  f_w5 f_w6  hm ; omega
        | succ n25 ih25 =>
          intro w5 w6  f_w5 f_w6  hm25 
          refine r_iload hC dX5_sessions_25 rfl ?_
          refine r_aload_n hC dX5_sessions_27 rfl ?_
          refine z_getI (jz := 6) hM dX5_sessions_28 fl_RX5_154 rfl rfl rfl (fun v7 h_v7 o_v7 t_v7 => ?_)
          have q_v7 : 0 ≤ v7 ∧ v7 ≤ 121 := o_v7.1 rfl
          refine r_icmp_ge (tgt := 60) hC dX5_sessions_31 rfl (fun h8 => ?_) (fun h8 => ?_)
          · refine r_iload hC dX5_sessions_60 rfl ?_
            refine y_iret hK rfl dX5_sessions_62 ?_
            exact k _ (by omega)
          · refine r_iload hC dX5_sessions_34 rfl ?_
            refine r_aload_n hC dX5_sessions_36 rfl ?_
            refine r_iload hC dX5_sessions_37 rfl ?_
            refine r_iload_n hC dX5_sessions_39 rfl ?_
            refine z_inv2 hM dX5_sessions_40 vl_RX5_221 rfl rfl rfl (Nat.le_of_ble_eq_true rfl) (Nat.le_of_ble_eq_true rfl) ?_
            refine s_startsSession (by omega) (by omega) (fun v9 h_v9 => ?_)
            have J51_11 : ∀ (w11 : Int), 0 ≤ w11 ∧ w11 ≤ 1 → K 51 [some (vR 2 0), some (vI l), some (vI w), some (vR 7 l), some (vI w5), some (vI w6)] [vI w11, vI w5] σ := by
              intro w11  f_w11 
              refine r_iaddG hC dX5_sessions_51 (fun v13 h_v13 => ?_)
              refine r_istore hC dX5_sessions_52 rfl ?_
              refine r_iincE hC ((w6 + 1)) dX5_sessions_54 rfl rfl (by omega) (by unfold inR; omega) ?_
              refine r_goto (tgt := 25) hC dX5_sessions_57 rfl ?_
              exact ih25 (v13) ((w6 + 1))  (by omega) (by omega)  (by omega) 
            refine r_if_eq (tgt := 50) hC dX5_sessions_43 rfl (fun h10 => ?_) (fun h10 => ?_)
            · refine r_iconst hC dX5_sessions_50 rfl ?_
              exact J51_11 (0)  (by omega) 
            · refine r_iconst hC dX5_sessions_46 rfl ?_
              refine r_goto (tgt := 51) hC dX5_sessions_47 rfl ?_
              exact J51_11 (1)  (by omega) 
      exact L25 123 (0) (0)  (by omega) (by omega)  (by omega) 
    · refine r_if_ne (tgt := 19) hC dX5_sessions_14 rfl (fun h14 => by omega) (fun h14 => ?_)
      refine r_iconst hC dX5_sessions_17 rfl ?_
      refine y_iret hK rfl dX5_sessions_18 ?_
      exact k _ (by omega)
theorem s_longest {e : Ev} {d : Nat} {P : Option Vl → Mm → Prop} {σ : Mm} {l w : Int}   (k : ∀ r : Int, -2147483648 ≤ r ∧ r ≤ 2147483647 → P (some (vI r)) σ) : WT e (d + 4) 93 [vR 2 0, vI l, vI w] σ P := by
  refine WT_in fun K hK => ?_
  have hK : StpY e cX5_longest RX5 (some .int) (WT e (d + 3)) P K := hK
  have hM := hK.1
  have hC := hK.1.1
  show K 0 [some (vR 2 0), some (vI l), some (vI w), none, none, none, none, none, none, none] [] σ
  refine r_rngz hC (fun g0 => ?_)
  have r_l : -2147483648 ≤ l ∧ l ≤ 2147483647 := inR_le (g0 (vI l) (by simp))
  have r_w : -2147483648 ≤ w ∧ w ≤ 2147483647 := inR_le (g0 (vI w) (by simp))
  refine r_aload_n hC dX5_longest_0 rfl ?_
  refine r_iload_n hC dX5_longest_1 rfl ?_
  refine z_inv1 hM dX5_longest_2 vl_RX5_123 rfl rfl rfl (Nat.le_of_ble_eq_true rfl) (Nat.le_of_ble_eq_true rfl) ?_
  refine s_openLane ?_ (fun h1 => ?_)
  · refine r_astoreN_n hC dX5_longest_5 rfl ?_
    refine r_aloadN_n hC dX5_longest_6 rfl ?_
    refine r_ifnullN (tgt := 17) hC dX5_longest_7 rfl ?_
    refine r_iconst hC dX5_longest_17 rfl ?_
    refine y_iret hK rfl dX5_longest_18 ?_
    exact k _ (by omega)
  · refine r_astore_n hC dX5_longest_5 rfl ?_
    refine r_aload_n hC dX5_longest_6 rfl ?_
    refine r_ifnullR hC dX5_longest_7 ?_
    refine r_iload_n hC dX5_longest_10 rfl ?_
    refine z_ins1 hM dX5_longest_11 tl_RX5_285 rfl (Nat.le_of_ble_eq_true rfl) (Nat.le_of_ble_eq_true rfl) ?_
    refine s_isGap (fun h3 => ?_) (fun h3 => ?_)
    · refine r_if_ne (tgt := 19) hC dX5_longest_14 rfl (fun h4 => ?_) (fun h4 => by omega)
      refine r_iconst hC dX5_longest_19 rfl ?_
      refine r_istore hC dX5_longest_20 rfl ?_
      refine r_iconst hC dX5_longest_22 rfl ?_
      refine r_istore hC dX5_longest_23 rfl ?_
      refine r_iconst hC dX5_longest_25 rfl ?_
      refine r_istore hC dX5_longest_26 rfl ?_
      show K _ [_, _, _, _, _, _, _, _, _, _] _ _
      refine r_iconst hC dX5_longest_28 rfl ?_
      refine r_istore hC dX5_longest_29 rfl ?_
      refine r_iconst hC dX5_longest_31 rfl ?_
      refine r_istore hC dX5_longest_32 rfl ?_
      have L34 : ∀ (n34 : Nat) (w5 w6 w7 w8 w9 : Int), -2147483648 ≤ w5 ∧ w5 ≤ 2147483647 → 0 ≤ w6 ∧ w6 ≤ 2147483647 → -2147483648 ≤ w7 ∧ w7 ≤ 2147483647 → -2147483648 ≤ w8 ∧ w8 ≤ 2147483647 → 0 ≤ w9 ∧ w9 ≤ 121 → 121 - w9 < (n34 : Int) → K 34 [some (vR 2 0), some (vI l), some (vI w), some (vR 7 l), some (vI w5), some (vI w6), some (vI w7), some (vI w8), some (vI w9), none] [] σ := by
        intro n34
        induction n34 with
        | zero => intro w5 w6 w7 w8 w9  f_w5 f_w6 f_w7 f_w8 f_w9  hm ; omega
        | succ n34 ih34 =>
          intro w5 w6 w7 w8 w9  f_w5 f_w6 f_w7 f_w8 f_w9  hm34 
          refine r_iload hC dX5_longest_34 rfl ?_
          refine r_aload_n hC dX5_longest_36 rfl ?_
          refine z_getI (jz := 6) hM dX5_longest_37 fl_RX5_154 rfl rfl rfl (fun v10 h_v10 o_v10 t_v10 => ?_)
          have q_v10 : 0 ≤ v10 ∧ v10 ≤ 121 := o_v10.1 rfl
          refine r_icmp_ge (tgt := 103) hC dX5_longest_40 rfl (fun h11 => ?_) (fun h11 => ?_)
          · refine r_iload hC dX5_longest_103 rfl ?_
            refine y_iret hK rfl dX5_longest_105 ?_
            exact k _ (by omega)
          · refine r_aload_n hC dX5_longest_43 rfl ?_
            refine r_iload hC dX5_longest_44 rfl ?_
            refine r_iload_n hC dX5_longest_46 rfl ?_
            refine z_inv2 hM dX5_longest_47 vl_RX5_221 rfl rfl rfl (Nat.le_of_ble_eq_true rfl) (Nat.le_of_ble_eq_true rfl) ?_
            refine s_startsSession (by omega) (by omega) (fun v12 h_v12 => ?_)
            refine r_istore hC dX5_longest_50 rfl ?_
            refine r_iload hC dX5_longest_52 rfl ?_
            refine r_iload hC dX5_longest_54 rfl ?_
            have J64_14 : ∀ (w14 : Int), 0 ≤ w14 ∧ w14 ≤ 1 → K 64 [some (vR 2 0), some (vI l), some (vI w), some (vR 7 l), some (vI w5), some (vI w6), some (vI w7), some (vI w8), some (vI w9), some (vI v12)] [vI w14, vI w7] σ := by
              intro w14  f_w14 
              refine r_iaddG hC dX5_longest_64 (fun v16 h_v16 => ?_)
              refine r_istore hC dX5_longest_65 rfl ?_
              refine r_iload hC dX5_longest_67 rfl ?_
              have J80_18 : ∀ (w18 : Int), -2147483648 ≤ w18 ∧ w18 ≤ 2147483647 → K 80 [some (vR 2 0), some (vI l), some (vI w), some (vR 7 l), some (vI w5), some (vI w6), some (vI v16), some (vI w8), some (vI w9), some (vI v12)] [vI w18] σ := by
                intro w18  f_w18 
                refine r_istore hC dX5_longest_80 rfl ?_
                refine r_iload hC dX5_longest_82 rfl ?_
                refine r_iload hC dX5_longest_84 rfl ?_
                have J97_22 : ∀ (w21 w22 : Int), -2147483648 ≤ w21 ∧ w21 ≤ 2147483647 → 0 ≤ w22 ∧ w22 ≤ 2147483647 → K 97 [some (vR 2 0), some (vI l), some (vI w), some (vR 7 l), some (vI w21), some (vI w22), some (vI v16), some (vI w18), some (vI w9), some (vI v12)] [] σ := by
                  intro w21 w22  f_w21 f_w22 
                  refine r_iincE hC ((w9 + 1)) dX5_longest_97 rfl rfl (by omega) (by unfold inR; omega) ?_
                  refine r_goto (tgt := 34) hC dX5_longest_100 rfl ?_
                  refine r_forget hC (ls2 := [some (vR 2 0), some (vI l), some (vI w), some (vR 7 l), some (vI w21), some (vI w22), some (vI v16), some (vI w18), some (vI (w9 + 1)), none]) (lsub_some (lsub_some (lsub_some (lsub_some (lsub_some (lsub_some (lsub_some (lsub_some (lsub_some (lsub_none lsub_nil)))))))))) ?_
                  exact ih34 (w21) (w22) (v16) (w18) ((w9 + 1))  (by omega) (by omega) (by omega) (by omega) (by omega)  (by omega) 
                refine r_icmp_le (tgt := 97) hC dX5_longest_86 rfl (fun h20 => ?_) (fun h20 => ?_)
                · exact J97_22 (w5) (w6)  (by omega) (by omega)
                · refine r_iload hC dX5_longest_89 rfl ?_
                  refine r_istore hC dX5_longest_91 rfl ?_
                  refine r_iload hC dX5_longest_93 rfl ?_
                  refine r_istore hC dX5_longest_95 rfl ?_
                  exact J97_22 (v16) (w18)  (by omega) (by omega) 
              refine r_if_eq (tgt := 76) hC dX5_longest_69 rfl (fun h17 => ?_) (fun h17 => ?_)
              · refine r_iload hC dX5_longest_76 rfl ?_
                refine r_iconst hC dX5_longest_78 rfl ?_
                refine r_iaddG hC dX5_longest_79 (fun v24 h_v24 => ?_)
                exact J80_18 (v24)  (by omega) 
              · refine r_iconst hC dX5_longest_72 rfl ?_
                refine r_goto (tgt := 80) hC dX5_longest_73 rfl ?_
                exact J80_18 (1)  (by omega) 
            refine r_if_eq (tgt := 63) hC dX5_longest_56 rfl (fun h13 => ?_) (fun h13 => ?_)
            · refine r_iconst hC dX5_longest_63 rfl ?_
              exact J64_14 (0)  (by omega) 
            · refine r_iconst hC dX5_longest_59 rfl ?_
              refine r_goto (tgt := 64) hC dX5_longest_60 rfl ?_
              exact J64_14 (1)  (by omega) 
      exact L34 123 ((-1)) (0) ((-1)) (0) (0)  (by omega) (by omega) (by omega) (by omega) (by omega)  (by omega) 
    · refine r_if_ne (tgt := 19) hC dX5_longest_14 rfl (fun h25 => by omega) (fun h25 => ?_)
      refine r_iconst hC dX5_longest_17 rfl ?_
      refine y_iret hK rfl dX5_longest_18 ?_
      exact k _ (by omega)
theorem s_endMove {e : Ev} {d : Nat} {P : Option Vl → Mm → Prop} {σ : Mm} {i h : Int} (b_i : 0 ≤ i ∧ i ≤ 7)  (k : P none σ) : WT e (d + 2) 6 [vR 11 i, vI h] σ P := by
  refine WT_in fun K hK => ?_
  have hK : StpY e cX0_endMove RX0 (none) (WT e (d + 1)) P K := hK
  have hM := hK.1
  have hC := hK.1.1
  show K 0 [some (vR 11 i), some (vI h), none, none] [] σ
  refine r_rngz hC (fun g0 => ?_)
  have r_h : -2147483648 ≤ h ∧ h ≤ 2147483647 := inR_le (g0 (vI h) (by simp))
  refine r_iload_n hC dX0_endMove_0 rfl ?_
  refine r_istore_n hC dX0_endMove_1 rfl ?_
  refine r_aload_n hC dX0_endMove_2 rfl ?_
  refine z_getI (jz := 1) hM dX0_endMove_3 fl_RX0_15 rfl rfl rfl (fun v1 h_v1 o_v1 t_v1 => ?_)
  have J49_3 : ∀ (w3 : Int), -2147483648 ≤ w3 ∧ w3 ≤ 2147483647 → K 49 [some (vR 11 i), some (vI h), some (vI w3), none] [] σ := by
    intro w3  f_w3 
    refine r_iconst hC dX0_endMove_49 rfl ?_
    refine r_aload_n hC dX0_endMove_50 rfl ?_
    refine z_getI (jz := 3) hM dX0_endMove_51 fl_RX0_21 rfl rfl rfl (fun v5 h_v5 o_v5 t_v5 => ?_)
    refine z_ins2 hM dX0_endMove_54 tl_RX0_43 rfl (Nat.le_of_ble_eq_true rfl) (Nat.le_of_ble_eq_true rfl) ?_
    refine s_min (fun v6 h_v6 => ?_)
    refine r_istore_n hC dX0_endMove_57 rfl ?_
    refine r_aload_n hC dX0_endMove_58 rfl ?_
    refine r_dup hC dX0_endMove_59 rfl ?_
    refine z_getI (jz := 3) hM dX0_endMove_60 fl_RX0_21 rfl rfl rfl (fun v7 h_v7 o_v7 t_v7 => ?_)
    refine r_iload_n hC dX0_endMove_63 rfl ?_
    refine r_isubG hC dX0_endMove_64 (fun v8 h_v8 => ?_)
    refine z_putIU (jz := 3) hM dX0_endMove_65 fw_RX0_21 rfl rfl rfl (by simp [Un, Tb, DL, DF, DR]) (by simp [Okv]) ?_
    refine r_iload_n hC dX0_endMove_68 rfl ?_
    refine r_iload_n hC dX0_endMove_69 rfl ?_
    refine r_iaddG hC dX0_endMove_70 (fun v9 h_v9 => ?_)
    refine r_istore_n hC dX0_endMove_71 rfl ?_
    refine r_aload_n hC dX0_endMove_72 rfl ?_
    refine z_getI (jz := 3) hM dX0_endMove_73 fl_RX0_21 rfl rfl rfl (fun v10 h_v10 o_v10 t_v10 => ?_)
    have J97_11 : K 97 [some (vR 11 i), some (vI h), some (vI v9), some (vI v6)] [] σ := by
      refine r_aload_n hC dX0_endMove_97 rfl ?_
      refine r_iload_n hC dX0_endMove_98 rfl ?_
      refine z_putIU (jz := 4) hM dX0_endMove_99 fw_RX0_24 rfl rfl rfl (by simp [Un, Tb, DL, DF, DR]) (by simp [Okv]) ?_
      refine r_aload_n hC dX0_endMove_102 rfl ?_
      refine r_dup hC dX0_endMove_103 rfl ?_
      refine z_getI (jz := 5) hM dX0_endMove_104 fl_RX0_27 rfl rfl rfl (fun v13 h_v13 o_v13 t_v13 => ?_)
      refine r_iload_n hC dX0_endMove_107 rfl ?_
      refine r_iaddG hC dX0_endMove_108 (fun v14 h_v14 => ?_)
      refine z_putIU (jz := 5) hM dX0_endMove_109 fw_RX0_27 rfl rfl rfl (by simp [Un, Tb, DL, DF, DR]) (by simp [Okv]) ?_
      refine r_aload_n hC dX0_endMove_112 rfl ?_
      refine r_aload_n hC dX0_endMove_113 rfl ?_
      refine z_getI (jz := 6) hM dX0_endMove_114 fl_RX0_30 rfl rfl rfl (fun v15 h_v15 o_v15 t_v15 => ?_)
      refine r_iload_n hC dX0_endMove_117 rfl ?_
      refine z_ins2 hM dX0_endMove_118 tl_RX0_37 rfl (Nat.le_of_ble_eq_true rfl) (Nat.le_of_ble_eq_true rfl) ?_
      refine s_max (fun v16 h_v16 => ?_)
      refine z_putIU (jz := 6) hM dX0_endMove_121 fw_RX0_30 rfl rfl rfl (by simp [Un, Tb, DL, DF, DR]) (by simp [Okv]) ?_
      refine y_vret hK rfl dX0_endMove_124 ?_
      exact k
    refine r_if_ne (tgt := 97) hC dX0_endMove_76 rfl (fun h11 => ?_) (fun h11 => ?_)
    · exact J97_11
    · refine r_aload_n hC dX0_endMove_79 rfl ?_
      refine r_dup hC dX0_endMove_80 rfl ?_
      refine z_getI (jz := 0) hM dX0_endMove_81 fl_RX0_9 rfl rfl rfl (fun v17 h_v17 o_v17 t_v17 => ?_)
      refine r_aload_n hC dX0_endMove_84 rfl ?_
      refine z_getI (jz := 1) hM dX0_endMove_85 fl_RX0_15 rfl rfl rfl (fun v18 h_v18 o_v18 t_v18 => ?_)
      refine r_iaddG hC dX0_endMove_88 (fun v19 h_v19 => ?_)
      refine z_putIU (jz := 0) hM dX0_endMove_89 fw_RX0_9 rfl rfl rfl (by simp [Un, Tb, DL, DF, DR]) (by simp [Okv]) ?_
      refine r_aload_n hC dX0_endMove_92 rfl ?_
      refine r_iconst hC dX0_endMove_93 rfl ?_
      refine z_putIU (jz := 1) hM dX0_endMove_94 fw_RX0_15 rfl rfl rfl (by simp [Un, Tb, DL, DF, DR]) (by simp [Okv]) ?_
      exact J97_11    
  refine r_if_ne (tgt := 49) hC dX0_endMove_6 rfl (fun h2 => ?_) (fun h2 => ?_)
  · exact J49_3 (h)  (by omega)
  · refine r_aload_n hC dX0_endMove_9 rfl ?_
    refine z_getI (jz := 2) hM dX0_endMove_10 fl_RX0_18 rfl rfl rfl (fun v20 h_v20 o_v20 t_v20 => ?_)
    refine r_aload_n hC dX0_endMove_13 rfl ?_
    refine z_getI (jz := 0) hM dX0_endMove_14 fl_RX0_9 rfl rfl rfl (fun v21 h_v21 o_v21 t_v21 => ?_)
    refine r_icmp_le (tgt := 49) hC dX0_endMove_17 rfl (fun h22 => ?_) (fun h22 => ?_)
    · exact J49_3 (h)  (by omega)
    · refine r_aload_n hC dX0_endMove_20 rfl ?_
      refine r_aload_n hC dX0_endMove_21 rfl ?_
      refine z_getI (jz := 2) hM dX0_endMove_22 fl_RX0_18 rfl rfl rfl (fun v23 h_v23 o_v23 t_v23 => ?_)
      refine z_putIU (jz := 1) hM dX0_endMove_25 fw_RX0_15 rfl rfl rfl (by simp [Un, Tb, DL, DF, DR]) (by simp [Okv]) ?_
      refine r_aload_n hC dX0_endMove_28 rfl ?_
      refine r_iconst hC dX0_endMove_29 rfl ?_
      refine z_putIU (jz := 2) hM dX0_endMove_30 fw_RX0_18 rfl rfl rfl (by simp [Un, Tb, DL, DF, DR]) (by simp [Okv]) ?_
      refine r_aload_n hC dX0_endMove_33 rfl ?_
      refine r_aload_n hC dX0_endMove_34 rfl ?_
      refine z_getI (jz := 1) hM dX0_endMove_35 fl_RX0_15 rfl rfl rfl (fun v24 h_v24 o_v24 t_v24 => ?_)
      refine r_aload_n hC dX0_endMove_38 rfl ?_
      refine z_getI (jz := 0) hM dX0_endMove_39 fl_RX0_9 rfl rfl rfl (fun v25 h_v25 o_v25 t_v25 => ?_)
      refine r_iaddG hC dX0_endMove_42 (fun v26 h_v26 => ?_)
      refine z_putIU (jz := 3) hM dX0_endMove_43 fw_RX0_21 rfl rfl rfl (by simp [Un, Tb, DL, DF, DR]) (by simp [Okv]) ?_
      refine r_iincG hC dX0_endMove_46 rfl rfl (fun v27 h_v27 => ?_)
      exact J49_3 (v27)  (by omega) 
theorem s_Flip_clear {e : Ev} {d : Nat} {P : Option Vl → Mm → Prop} {σ : Mm} {i : Int} (b_i : 0 ≤ i ∧ i ≤ 7)  (k : P none σ) : WT e (d + 1) 1 [vR 11 i] σ P := by
  refine WT_in fun K hK => ?_
  have hK : StpY e cX0_clear RX0 (none) (WT e (d + 0)) P K := hK
  have hM := hK.1
  have hC := hK.1.1
  show K 0 [some (vR 11 i)] [] σ
  refine r_aload_n hC dX0_clear_0 rfl ?_
  refine r_iconst hC dX0_clear_1 rfl ?_
  refine z_putIU (jz := 0) hM dX0_clear_2 fw_RX0_9 rfl rfl rfl (by simp [Un, Tb, DL, DF, DR]) (by simp [Okv]) ?_
  refine r_aload_n hC dX0_clear_5 rfl ?_
  refine r_iconst hC dX0_clear_6 rfl ?_
  refine z_putIU (jz := 1) hM dX0_clear_7 fw_RX0_15 rfl rfl rfl (by simp [Un, Tb, DL, DF, DR]) (by simp [Okv]) ?_
  refine r_aload_n hC dX0_clear_10 rfl ?_
  refine r_iconst hC dX0_clear_11 rfl ?_
  refine z_putIU (jz := 2) hM dX0_clear_12 fw_RX0_18 rfl rfl rfl (by simp [Un, Tb, DL, DF, DR]) (by simp [Okv]) ?_
  refine r_aload_n hC dX0_clear_15 rfl ?_
  refine r_iconst hC dX0_clear_16 rfl ?_
  refine z_putIU (jz := 3) hM dX0_clear_17 fw_RX0_21 rfl rfl rfl (by simp [Un, Tb, DL, DF, DR]) (by simp [Okv]) ?_
  refine r_aload_n hC dX0_clear_20 rfl ?_
  refine r_iconst hC dX0_clear_21 rfl ?_
  refine z_putIU (jz := 4) hM dX0_clear_22 fw_RX0_24 rfl rfl rfl (by simp [Un, Tb, DL, DF, DR]) (by simp [Okv]) ?_
  refine r_aload_n hC dX0_clear_25 rfl ?_
  refine r_iconst hC dX0_clear_26 rfl ?_
  refine z_putIU (jz := 5) hM dX0_clear_27 fw_RX0_27 rfl rfl rfl (by simp [Un, Tb, DL, DF, DR]) (by simp [Okv]) ?_
  refine r_aload_n hC dX0_clear_30 rfl ?_
  refine r_iconst hC dX0_clear_31 rfl ?_
  refine z_putIU (jz := 6) hM dX0_clear_32 fw_RX0_30 rfl rfl rfl (by simp [Un, Tb, DL, DF, DR]) (by simp [Okv]) ?_
  refine y_vret hK rfl dX0_clear_35 ?_
  exact k
theorem s_Flip_drop {e : Ev} {d : Nat} {P : Option Vl → Mm → Prop} {σ : Mm} {i : Int} (b_i : 0 ≤ i ∧ i ≤ 7)  (k : P none σ) : WT e (d + 3) 4 [vR 11 i] σ P := by
  refine WT_in fun K hK => ?_
  have hK : StpY e cX0_drop RX0 (none) (WT e (d + 2)) P K := hK
  have hM := hK.1
  have hC := hK.1.1
  show K 0 [some (vR 11 i)] [] σ
  refine r_aload_n hC dX0_drop_0 rfl ?_
  refine r_dup hC dX0_drop_1 rfl ?_
  refine z_getI (jz := 0) hM dX0_drop_2 fl_RX0_9 rfl rfl rfl (fun v1 h_v1 o_v1 t_v1 => ?_)
  refine r_iconst hC dX0_drop_5 rfl ?_
  refine r_isubG hC dX0_drop_6 (fun v2 h_v2 => ?_)
  refine z_putIU (jz := 0) hM dX0_drop_7 fw_RX0_9 rfl rfl rfl (by simp [Un, Tb, DL, DF, DR]) (by simp [Okv]) ?_
  refine r_aload_n hC dX0_drop_10 rfl ?_
  refine z_getI (jz := 3) hM dX0_drop_11 fl_RX0_21 rfl rfl rfl (fun v3 h_v3 o_v3 t_v3 => ?_)
  have J27_4 : K 27 [some (vR 11 i)] [] σ := by
    refine r_aload_n hC dX0_drop_27 rfl ?_
    refine r_iconst hC dX0_drop_28 rfl ?_
    refine z_inv1 hM dX0_drop_29 vl_RX0_33 rfl rfl rfl (Nat.le_of_ble_eq_true rfl) (Nat.le_of_ble_eq_true rfl) ?_
    refine s_endMove (by omega) ?_
    refine y_vret hK rfl dX0_drop_32 ?_
    exact k
  refine r_if_le (tgt := 27) hC dX0_drop_14 rfl (fun h4 => ?_) (fun h4 => ?_)
  · exact J27_4
  · refine r_aload_n hC dX0_drop_17 rfl ?_
    refine r_dup hC dX0_drop_18 rfl ?_
    refine z_getI (jz := 3) hM dX0_drop_19 fl_RX0_21 rfl rfl rfl (fun v6 h_v6 o_v6 t_v6 => ?_)
    refine r_iconst hC dX0_drop_22 rfl ?_
    refine r_isubG hC dX0_drop_23 (fun v7 h_v7 => ?_)
    refine z_putIU (jz := 3) hM dX0_drop_24 fw_RX0_21 rfl rfl rfl (by simp [Un, Tb, DL, DF, DR]) (by simp [Okv]) ?_
    exact J27_4    
theorem s_Flip_add {e : Ev} {d : Nat} {P : Option Vl → Mm → Prop} {σ : Mm} {i : Int} (b_i : 0 ≤ i ∧ i ≤ 7)  (k : P none σ) : WT e (d + 3) 3 [vR 11 i] σ P := by
  refine WT_in fun K hK => ?_
  have hK : StpY e cX0_add RX0 (none) (WT e (d + 2)) P K := hK
  have hM := hK.1
  have hC := hK.1.1
  show K 0 [some (vR 11 i), none] [] σ
  refine r_aload_n hC dX0_add_0 rfl ?_
  refine z_getI (jz := 2) hM dX0_add_1 fl_RX0_18 rfl rfl rfl (fun v1 h_v1 o_v1 t_v1 => ?_)
  have J12_3 : ∀ (w3 : Int), 0 ≤ w3 ∧ w3 ≤ 1 → K 12 [some (vR 11 i), none] [vI w3] σ := by
    intro w3  f_w3 
    refine r_istore_n hC dX0_add_12 rfl ?_
    refine r_aload_n hC dX0_add_13 rfl ?_
    refine r_dup hC dX0_add_14 rfl ?_
    refine z_getI (jz := 2) hM dX0_add_15 fl_RX0_18 rfl rfl rfl (fun v5 h_v5 o_v5 t_v5 => ?_)
    refine r_iconst hC dX0_add_18 rfl ?_
    refine r_iaddG hC dX0_add_19 (fun v6 h_v6 => ?_)
    refine z_putIU (jz := 2) hM dX0_add_20 fw_RX0_18 rfl rfl rfl (by simp [Un, Tb, DL, DF, DR]) (by simp [Okv]) ?_
    refine r_aload_n hC dX0_add_23 rfl ?_
    refine r_iload_n hC dX0_add_24 rfl ?_
    refine z_inv1 hM dX0_add_25 vl_RX0_33 rfl rfl rfl (Nat.le_of_ble_eq_true rfl) (Nat.le_of_ble_eq_true rfl) ?_
    refine s_endMove (by omega) ?_
    refine y_vret hK rfl dX0_add_28 ?_
    exact k
  refine r_if_le (tgt := 11) hC dX0_add_4 rfl (fun h2 => ?_) (fun h2 => ?_)
  · refine r_iconst hC dX0_add_11 rfl ?_
    exact J12_3 (0)  (by omega) 
  · refine r_iconst hC dX0_add_7 rfl ?_
    refine r_goto (tgt := 12) hC dX0_add_8 rfl ?_
    exact J12_3 (1)  (by omega) 
theorem s_Flip_layAnew {e : Ev} {d : Nat} {P : Option Vl → Mm → Prop} {σ : Mm} {i h : Int} (b_i : 0 ≤ i ∧ i ≤ 7)  (k : P none σ) : WT e (d + 2) 5 [vR 11 i, vI h] σ P := by
  refine WT_in fun K hK => ?_
  have hK : StpY e cX0_layAnew RX0 (none) (WT e (d + 1)) P K := hK
  have hM := hK.1
  have hC := hK.1.1
  show K 0 [some (vR 11 i), some (vI h)] [] σ
  refine r_rngz hC (fun g0 => ?_)
  have r_h : -2147483648 ≤ h ∧ h ≤ 2147483647 := inR_le (g0 (vI h) (by simp))
  refine r_aload_n hC dX0_layAnew_0 rfl ?_
  refine r_iload_n hC dX0_layAnew_1 rfl ?_
  refine z_putIU (jz := 0) hM dX0_layAnew_2 fw_RX0_9 rfl rfl rfl (by simp [Un, Tb, DL, DF, DR]) (by simp [Okv]) ?_
  refine r_aload_n hC dX0_layAnew_5 rfl ?_
  refine r_iconst hC dX0_layAnew_6 rfl ?_
  refine z_putIU (jz := 1) hM dX0_layAnew_7 fw_RX0_15 rfl rfl rfl (by simp [Un, Tb, DL, DF, DR]) (by simp [Okv]) ?_
  refine r_aload_n hC dX0_layAnew_10 rfl ?_
  refine r_iconst hC dX0_layAnew_11 rfl ?_
  refine z_putIU (jz := 2) hM dX0_layAnew_12 fw_RX0_18 rfl rfl rfl (by simp [Un, Tb, DL, DF, DR]) (by simp [Okv]) ?_
  refine r_aload_n hC dX0_layAnew_15 rfl ?_
  refine r_iconst hC dX0_layAnew_16 rfl ?_
  refine z_putIU (jz := 3) hM dX0_layAnew_17 fw_RX0_21 rfl rfl rfl (by simp [Un, Tb, DL, DF, DR]) (by simp [Okv]) ?_
  refine r_aload_n hC dX0_layAnew_20 rfl ?_
  refine r_iconst hC dX0_layAnew_21 rfl ?_
  refine r_iload_n hC dX0_layAnew_22 rfl ?_
  refine r_iconst hC dX0_layAnew_23 rfl ?_
  refine r_isubG hC dX0_layAnew_24 (fun v1 h_v1 => ?_)
  refine z_ins2 hM dX0_layAnew_25 tl_RX0_37 rfl (Nat.le_of_ble_eq_true rfl) (Nat.le_of_ble_eq_true rfl) ?_
  refine s_max (fun v2 h_v2 => ?_)
  refine z_putIU (jz := 4) hM dX0_layAnew_28 fw_RX0_24 rfl rfl rfl (by simp [Un, Tb, DL, DF, DR]) (by simp [Okv]) ?_
  refine r_aload_n hC dX0_layAnew_31 rfl ?_
  refine r_dup hC dX0_layAnew_32 rfl ?_
  refine z_getI (jz := 5) hM dX0_layAnew_33 fl_RX0_27 rfl rfl rfl (fun v3 h_v3 o_v3 t_v3 => ?_)
  refine r_aload_n hC dX0_layAnew_36 rfl ?_
  refine z_getI (jz := 4) hM dX0_layAnew_37 fl_RX0_24 rfl rfl rfl (fun v4 h_v4 o_v4 t_v4 => ?_)
  refine r_iaddG hC dX0_layAnew_40 (fun v5 h_v5 => ?_)
  refine z_putIU (jz := 5) hM dX0_layAnew_41 fw_RX0_27 rfl rfl rfl (by simp [Un, Tb, DL, DF, DR]) (by simp [Okv]) ?_
  refine y_vret hK rfl dX0_layAnew_44 ?_
  exact k
theorem s_Flip_copyFrom {e : Ev} {d : Nat} {P : Option Vl → Mm → Prop} {σ : Mm} {i j : Int} (b_i : 0 ≤ i ∧ i ≤ 7) (b_j : 0 ≤ j ∧ j ≤ 7)  (k : P none σ) : WT e (d + 1) 2 [vR 11 i, vR 11 j] σ P := by
  refine WT_in fun K hK => ?_
  have hK : StpY e cX0_copyFrom RX0 (none) (WT e (d + 0)) P K := hK
  have hM := hK.1
  have hC := hK.1.1
  show K 0 [some (vR 11 i), some (vR 11 j)] [] σ
  refine r_aload_n hC dX0_copyFrom_0 rfl ?_
  refine r_aload_n hC dX0_copyFrom_1 rfl ?_
  refine z_getI (jz := 0) hM dX0_copyFrom_2 fl_RX0_9 rfl rfl rfl (fun v1 h_v1 o_v1 t_v1 => ?_)
  refine z_putIU (jz := 0) hM dX0_copyFrom_5 fw_RX0_9 rfl rfl rfl (by simp [Un, Tb, DL, DF, DR]) (by simp [Okv]) ?_
  refine r_aload_n hC dX0_copyFrom_8 rfl ?_
  refine r_aload_n hC dX0_copyFrom_9 rfl ?_
  refine z_getI (jz := 1) hM dX0_copyFrom_10 fl_RX0_15 rfl rfl rfl (fun v2 h_v2 o_v2 t_v2 => ?_)
  refine z_putIU (jz := 1) hM dX0_copyFrom_13 fw_RX0_15 rfl rfl rfl (by simp [Un, Tb, DL, DF, DR]) (by simp [Okv]) ?_
  refine r_aload_n hC dX0_copyFrom_16 rfl ?_
  refine r_aload_n hC dX0_copyFrom_17 rfl ?_
  refine z_getI (jz := 2) hM dX0_copyFrom_18 fl_RX0_18 rfl rfl rfl (fun v3 h_v3 o_v3 t_v3 => ?_)
  refine z_putIU (jz := 2) hM dX0_copyFrom_21 fw_RX0_18 rfl rfl rfl (by simp [Un, Tb, DL, DF, DR]) (by simp [Okv]) ?_
  refine r_aload_n hC dX0_copyFrom_24 rfl ?_
  refine r_aload_n hC dX0_copyFrom_25 rfl ?_
  refine z_getI (jz := 3) hM dX0_copyFrom_26 fl_RX0_21 rfl rfl rfl (fun v4 h_v4 o_v4 t_v4 => ?_)
  refine z_putIU (jz := 3) hM dX0_copyFrom_29 fw_RX0_21 rfl rfl rfl (by simp [Un, Tb, DL, DF, DR]) (by simp [Okv]) ?_
  refine r_aload_n hC dX0_copyFrom_32 rfl ?_
  refine r_aload_n hC dX0_copyFrom_33 rfl ?_
  refine z_getI (jz := 4) hM dX0_copyFrom_34 fl_RX0_24 rfl rfl rfl (fun v5 h_v5 o_v5 t_v5 => ?_)
  refine z_putIU (jz := 4) hM dX0_copyFrom_37 fw_RX0_24 rfl rfl rfl (by simp [Un, Tb, DL, DF, DR]) (by simp [Okv]) ?_
  refine r_aload_n hC dX0_copyFrom_40 rfl ?_
  refine r_aload_n hC dX0_copyFrom_41 rfl ?_
  refine z_getI (jz := 5) hM dX0_copyFrom_42 fl_RX0_27 rfl rfl rfl (fun v6 h_v6 o_v6 t_v6 => ?_)
  refine z_putIU (jz := 5) hM dX0_copyFrom_45 fw_RX0_27 rfl rfl rfl (by simp [Un, Tb, DL, DF, DR]) (by simp [Okv]) ?_
  refine r_aload_n hC dX0_copyFrom_48 rfl ?_
  refine r_aload_n hC dX0_copyFrom_49 rfl ?_
  refine z_getI (jz := 6) hM dX0_copyFrom_50 fl_RX0_30 rfl rfl rfl (fun v7 h_v7 o_v7 t_v7 => ?_)
  refine z_putIU (jz := 6) hM dX0_copyFrom_53 fw_RX0_30 rfl rfl rfl (by simp [Un, Tb, DL, DF, DR]) (by simp [Okv]) ?_
  refine y_vret hK rfl dX0_copyFrom_56 ?_
  exact k
theorem s_cost {e : Ev} {d : Nat} {P : Option Vl → Mm → Prop} {σ : Mm} {l m w : Int}   (k : ∀ r : Int, -2147483648 ≤ r ∧ r ≤ 2147483647 → P (some (vI r)) σ) : WT e (d + 4) 96 [vR 2 0, vI l, vI m, vI w] σ P := by
  refine WT_in fun K hK => ?_
  have hK : StpY e cX5_cost RX5 (some .int) (WT e (d + 3)) P K := hK
  have hM := hK.1
  have hC := hK.1.1
  show K 0 [some (vR 2 0), some (vI l), some (vI m), some (vI w), none, none] [] σ
  refine r_rngz hC (fun g0 => ?_)
  have r_l : -2147483648 ≤ l ∧ l ≤ 2147483647 := inR_le (g0 (vI l) (by simp))
  have r_m : -2147483648 ≤ m ∧ m ≤ 2147483647 := inR_le (g0 (vI m) (by simp))
  have r_w : -2147483648 ≤ w ∧ w ≤ 2147483647 := inR_le (g0 (vI w) (by simp))
  refine r_aload_n hC dX5_cost_0 rfl ?_
  refine r_iload_n hC dX5_cost_1 rfl ?_
  refine z_inv1 hM dX5_cost_2 vl_RX5_123 rfl rfl rfl (Nat.le_of_ble_eq_true rfl) (Nat.le_of_ble_eq_true rfl) ?_
  refine s_openLane ?_ (fun h1 => ?_)
  · refine r_astoreN hC dX5_cost_5 rfl ?_
    refine r_aloadN hC dX5_cost_7 rfl ?_
    refine r_ifnullN (tgt := 32) hC dX5_cost_9 rfl ?_
    refine r_iconst hC dX5_cost_32 rfl ?_
    refine y_iret hK rfl dX5_cost_33 ?_
    exact k _ (by omega)
  · refine r_astore hC dX5_cost_5 rfl ?_
    refine r_aload hC dX5_cost_7 rfl ?_
    refine r_ifnullR hC dX5_cost_9 ?_
    refine r_iload_n hC dX5_cost_12 rfl ?_
    refine r_iconst hC dX5_cost_13 rfl ?_
    refine r_sipush hC dX5_cost_14 rfl ?_
    refine z_ins3 hM dX5_cost_17 tl_RX5_59 rfl (Nat.le_of_ble_eq_true rfl) (Nat.le_of_ble_eq_true rfl) ?_
    refine s_within (fun h3 => ?_) (fun h3 => ?_)
    · refine r_if_eq (tgt := 32) hC dX5_cost_20 rfl (fun h4 => by omega) (fun h4 => ?_)
      refine r_iload_n hC dX5_cost_23 rfl ?_
      refine r_iconst hC dX5_cost_24 rfl ?_
      refine r_iconst hC dX5_cost_25 rfl ?_
      refine z_ins3 hM dX5_cost_26 tl_RX5_59 rfl (Nat.le_of_ble_eq_true rfl) (Nat.le_of_ble_eq_true rfl) ?_
      refine s_within (fun h6 => ?_) (fun h6 => ?_)
      · refine r_if_ne (tgt := 34) hC dX5_cost_29 rfl (fun h7 => ?_) (fun h7 => by omega)
        refine r_aload_n hC dX5_cost_34 rfl ?_
        refine z_getR hM dX5_cost_35 fl_RX5_47 rfl rfl (vld_of (n := 8) rfl (by omega) (by omega)) ?_
        refine r_aload hC dX5_cost_38 rfl ?_
        refine z_getR hM dX5_cost_40 fl_RX5_189 rfl rfl (vld_of (n := 8) rfl (by omega) (by omega)) ?_
        refine z_inv1 hM dX5_cost_43 vl_RX5_300 rfl rfl rfl (Nat.le_of_ble_eq_true rfl) (Nat.le_of_ble_eq_true rfl) ?_
        refine s_Flip_copyFrom (by omega) (by omega) ?_
        refine r_aload_n hC dX5_cost_46 rfl ?_
        refine z_getR hM dX5_cost_47 fl_RX5_47 rfl rfl (vld_of (n := 8) rfl (by omega) (by omega)) ?_
        refine r_iconst hC dX5_cost_50 rfl ?_
        refine z_putIU (jz := 5) hM dX5_cost_51 fw_RX5_304 rfl rfl rfl (by simp [Un, Tb, DL, DF, DR]) (by simp [Okv]) ?_
        refine r_aload_n hC dX5_cost_54 rfl ?_
        refine z_getR hM dX5_cost_55 fl_RX5_47 rfl rfl (vld_of (n := 8) rfl (by omega) (by omega)) ?_
        refine r_iconst hC dX5_cost_58 rfl ?_
        refine z_putIU (jz := 6) hM dX5_cost_59 fw_RX5_307 rfl rfl rfl (by simp [Un, Tb, DL, DF, DR]) (by simp [Okv]) ?_
        refine r_iconst hC dX5_cost_62 rfl ?_
        refine r_istore hC dX5_cost_63 rfl ?_
        have L65 : ∀ (n65 : Nat) (w8 : Int), 0 ≤ w8 ∧ w8 ≤ 200 → 200 - w8 < (n65 : Int) → K 65 [some (vR 2 0), some (vI l), some (vI m), some (vI w), some (vR 7 l), some (vI w8)] [] σ := by
          intro n65
          induction n65 with
          | zero => intro w8  f_w8  hm ; omega
          | succ n65 ih65 =>
            intro w8  f_w8  hm65 
            refine r_iload hC dX5_cost_65 rfl ?_
            refine r_iload_n hC dX5_cost_67 rfl ?_
            refine r_icmp_ge (tgt := 84) hC dX5_cost_68 rfl (fun h9 => ?_) (fun h9 => ?_)
            · refine r_iload_n hC dX5_cost_84 rfl ?_
              have J105_11 : ∀ (w11 : Int), -2147483648 ≤ w11 ∧ w11 ≤ 2147483647 → K 105 [some (vR 2 0), some (vI l), some (vI m), some (vI w), some (vR 7 l), some (vI w8)] [vI w11] σ := by
                intro w11  f_w11 
                refine y_iret hK rfl dX5_cost_105 ?_
                exact k _ (by omega)
              refine r_if_ne (tgt := 98) hC dX5_cost_85 rfl (fun h10 => ?_) (fun h10 => ?_)
              · refine r_aload_n hC dX5_cost_98 rfl ?_
                refine z_getR hM dX5_cost_99 fl_RX5_47 rfl rfl (vld_of (n := 8) rfl (by omega) (by omega)) ?_
                refine z_getI (jz := 6) hM dX5_cost_102 fl_RX5_307 rfl rfl rfl (fun v13 h_v13 o_v13 t_v13 => ?_)
                exact J105_11 (v13)  (by omega) 
              · refine r_aload_n hC dX5_cost_88 rfl ?_
                refine z_getR hM dX5_cost_89 fl_RX5_47 rfl rfl (vld_of (n := 8) rfl (by omega) (by omega)) ?_
                refine z_getI (jz := 5) hM dX5_cost_92 fl_RX5_304 rfl rfl rfl (fun v14 h_v14 o_v14 t_v14 => ?_)
                refine r_goto (tgt := 105) hC dX5_cost_95 rfl ?_
                exact J105_11 (v14)  (by omega) 
            · refine r_aload_n hC dX5_cost_71 rfl ?_
              refine z_getR hM dX5_cost_72 fl_RX5_47 rfl rfl (vld_of (n := 8) rfl (by omega) (by omega)) ?_
              refine z_inv0 hM dX5_cost_75 vl_RX5_192 rfl rfl rfl (Nat.le_of_ble_eq_true rfl) (Nat.le_of_ble_eq_true rfl) ?_
              refine s_Flip_add (by omega) ?_
              refine r_iincE hC ((w8 + 1)) dX5_cost_78 rfl rfl (by omega) (by unfold inR; omega) ?_
              refine r_goto (tgt := 65) hC dX5_cost_81 rfl ?_
              exact ih65 ((w8 + 1))  (by omega)  (by omega) 
        exact L65 202 (0)  (by omega)  (by omega) 
      · refine r_if_ne (tgt := 34) hC dX5_cost_29 rfl (fun h15 => by omega) (fun h15 => ?_)
        refine r_iconst hC dX5_cost_32 rfl ?_
        refine y_iret hK rfl dX5_cost_33 ?_
        exact k _ (by omega)
    · refine r_if_eq (tgt := 32) hC dX5_cost_20 rfl (fun h16 => ?_) (fun h16 => by omega)
      refine r_iconst hC dX5_cost_32 rfl ?_
      refine y_iret hK rfl dX5_cost_33 ?_
      exact k _ (by omega)
theorem s_Watch_begin {e : Ev} {d : Nat} {P : Option Vl → Mm → Prop} {σ : Mm} {i l w b z : Int} (b_i : 0 ≤ i ∧ i ≤ 7) (b_z : 0 ≤ z ∧ z ≤ 1)  (k : P none σ) : WT e (d + 1) 43 [vR 12 i, vI l, vI w, vI b, vI z] σ P := by
  refine WT_in fun K hK => ?_
  have hK : StpY e cX4_begin RX4 (none) (WT e (d + 0)) P K := hK
  have hM := hK.1
  have hC := hK.1.1
  show K 0 [some (vR 12 i), some (vI l), some (vI w), some (vI b), some (vI z)] [] σ
  refine r_rngz hC (fun g0 => ?_)
  have r_l : -2147483648 ≤ l ∧ l ≤ 2147483647 := inR_le (g0 (vI l) (by simp))
  have r_w : -2147483648 ≤ w ∧ w ≤ 2147483647 := inR_le (g0 (vI w) (by simp))
  have r_b : -2147483648 ≤ b ∧ b ≤ 2147483647 := inR_le (g0 (vI b) (by simp))
  refine r_aload_n hC dX4_begin_0 rfl ?_
  refine r_iload_n hC dX4_begin_1 rfl ?_
  refine z_putIU (jz := 0) hM dX4_begin_2 fw_RX4_9 rfl rfl rfl (by simp [Un, Tb, DL, DF, DR]) (by simp [Okv]) ?_
  refine r_aload_n hC dX4_begin_5 rfl ?_
  refine r_iload_n hC dX4_begin_6 rfl ?_
  refine z_putIU (jz := 1) hM dX4_begin_7 fw_RX4_15 rfl rfl rfl (by simp [Un, Tb, DL, DF, DR]) (by simp [Okv]) ?_
  refine r_aload_n hC dX4_begin_10 rfl ?_
  refine r_iload_n hC dX4_begin_11 rfl ?_
  refine z_putIU (jz := 2) hM dX4_begin_12 fw_RX4_18 rfl rfl rfl (by simp [Un, Tb, DL, DF, DR]) (by simp [Okv]) ?_
  refine r_aload_n hC dX4_begin_15 rfl ?_
  refine r_iload hC dX4_begin_16 rfl ?_
  refine z_putZU (jz := 3) hM dX4_begin_18 fw_RX4_21 rfl rfl rfl (by omega) (by simp [Un, Tb, DL, DF, DR]) (by simp [Okv]) ?_
  refine r_aload_n hC dX4_begin_21 rfl ?_
  refine r_iconst hC dX4_begin_22 rfl ?_
  refine z_putIU (jz := 4) hM dX4_begin_23 fw_RX4_25 rfl rfl rfl (by simp [Un, Tb, DL, DF, DR]) (by simp [Okv]) ?_
  refine r_aload_n hC dX4_begin_26 rfl ?_
  refine r_iconst hC dX4_begin_27 rfl ?_
  refine z_putIU (jz := 5) hM dX4_begin_28 fw_RX4_28 rfl rfl rfl (by simp [Un, Tb, DL, DF, DR]) (by simp [Okv]) ?_
  refine y_vret hK rfl dX4_begin_31 ?_
  exact k
theorem s_Watch_note {e : Ev} {d : Nat} {P : Option Vl → Mm → Prop} {σ : Mm} {i z t : Int} (b_i : 0 ≤ i ∧ i ≤ 7) (b_z : 0 ≤ z ∧ z ≤ 1)  (k : P none σ) : WT e (d + 1) 44 [vR 12 i, vI z, vI t] σ P := by
  refine WT_in fun K hK => ?_
  have hK : StpY e cX4_note RX4 (none) (WT e (d + 0)) P K := hK
  have hM := hK.1
  have hC := hK.1.1
  show K 0 [some (vR 12 i), some (vI z), some (vI t)] [] σ
  refine r_rngz hC (fun g0 => ?_)
  have r_t : -2147483648 ≤ t ∧ t ≤ 2147483647 := inR_le (g0 (vI t) (by simp))
  refine r_iload_n hC dX4_note_0 rfl ?_
  have J26_1 : K 26 [some (vR 12 i), some (vI z), some (vI t)] [] σ := by
    refine r_aload_n hC dX4_note_26 rfl ?_
    refine r_iload_n hC dX4_note_27 rfl ?_
    refine z_putZU (jz := 3) hM dX4_note_28 fw_RX4_21 rfl rfl rfl (by omega) (by simp [Un, Tb, DL, DF, DR]) (by simp [Okv]) ?_
    refine y_vret hK rfl dX4_note_31 ?_
    exact k
  refine r_if_eq (tgt := 26) hC dX4_note_1 rfl (fun h1 => ?_) (fun h1 => ?_)
  · exact J26_1
  · refine r_aload_n hC dX4_note_4 rfl ?_
    refine z_getI (jz := 3) hM dX4_note_5 fl_RX4_21 rfl rfl rfl (fun v3 h_v3 o_v3 t_v3 => ?_)
    refine r_if_ne (tgt := 26) hC dX4_note_8 rfl (fun h4 => ?_) (fun h4 => ?_)
    · exact J26_1
    · refine r_aload_n hC dX4_note_11 rfl ?_
      refine r_dup hC dX4_note_12 rfl ?_
      refine z_getI (jz := 4) hM dX4_note_13 fl_RX4_25 rfl rfl rfl (fun v5 h_v5 o_v5 t_v5 => ?_)
      refine r_iconst hC dX4_note_16 rfl ?_
      refine r_iaddG hC dX4_note_17 (fun v6 h_v6 => ?_)
      refine z_putIU (jz := 4) hM dX4_note_18 fw_RX4_25 rfl rfl rfl (by simp [Un, Tb, DL, DF, DR]) (by simp [Okv]) ?_
      refine r_aload_n hC dX4_note_21 rfl ?_
      refine r_iload_n hC dX4_note_22 rfl ?_
      refine z_putIU (jz := 5) hM dX4_note_23 fw_RX4_28 rfl rfl rfl (by simp [Un, Tb, DL, DF, DR]) (by simp [Okv]) ?_
      exact J26_1    
theorem s_Watch_end {e : Ev} {d : Nat} {P : Option Vl → Mm → Prop} {σ : Mm} {i : Int} (b_i : 0 ≤ i ∧ i ≤ 7)  (k : P none σ) : WT e (d + 1) 45 [vR 12 i] σ P := by
  refine WT_in fun K hK => ?_
  have hK : StpY e cX4_end RX4 (none) (WT e (d + 0)) P K := hK
  have hM := hK.1
  have hC := hK.1.1
  show K 0 [some (vR 12 i)] [] σ
  refine r_aload_n hC dX4_end_0 rfl ?_
  refine r_iconst hC dX4_end_1 rfl ?_
  refine z_putIU (jz := 0) hM dX4_end_2 fw_RX4_9 rfl rfl rfl (by simp [Un, Tb, DL, DF, DR]) (by simp [Okv]) ?_
  refine y_vret hK rfl dX4_end_5 ?_
  exact k
theorem s_number {e : Ev} {d : Nat} {P : Option Vl → Mm → Prop} {σ : Mm} {w : Int}   (k : ∀ r : Int, -2147483648 ≤ r ∧ r ≤ 2147483647 → P (some (vI r)) σ) : WT e (d + 1) 10 [vR 14 0, vI w] σ P := by
  refine WT_in fun K hK => ?_
  have hK : StpY e cX1_number RX1 (some .int) (WT e (d + 0)) P K := hK
  have hM := hK.1
  have hC := hK.1.1
  show K 0 [some (vR 14 0), some (vI w)] [] σ
  refine r_rngz hC (fun g0 => ?_)
  have r_w : -2147483648 ≤ w ∧ w ≤ 2147483647 := inR_le (g0 (vI w) (by simp))
  refine r_aload_n hC dX1_number_0 rfl ?_
  refine z_getI (jz := 6) hM dX1_number_1 fl_RX1_34 rfl rfl rfl (fun v1 h_v1 o_v1 t_v1 => ?_)
  have J34_3 : ∀ (w3 : Int), -2147483648 ≤ w3 ∧ w3 ≤ 2147483647 → K 34 [some (vR 14 0), some (vI w)] [vI w3] σ := by
    intro w3  f_w3 
    refine y_iret hK rfl dX1_number_34 ?_
    exact k _ (by omega)
  refine r_if_eq (tgt := 23) hC dX1_number_4 rfl (fun h2 => ?_) (fun h2 => ?_)
  · refine r_ldc hC dX1_number_23 co_RX1_40 rfl ?_
    refine r_goto (tgt := 34) hC dX1_number_25 rfl ?_
    exact J34_3 ((-2147483648))  (by omega) 
  · refine r_iload_n hC dX1_number_7 rfl ?_
    refine r_if_lt (tgt := 23) hC dX1_number_8 rfl (fun h5 => ?_) (fun h5 => ?_)
    · refine r_ldc hC dX1_number_23 co_RX1_40 rfl ?_
      refine r_goto (tgt := 34) hC dX1_number_25 rfl ?_
      exact J34_3 ((-2147483648))  (by omega) 
    · refine r_iload_n hC dX1_number_11 rfl ?_
      refine z_nums hM dX1_number_12 sl_RX1_41 ?_
      refine r_aload_n hC dX1_number_15 rfl ?_
      refine z_getI (jz := 5) hM dX1_number_16 fl_RX1_30 rfl rfl rfl (fun v6 h_v6 o_v6 t_v6 => ?_)
      have q_v6 : 0 ≤ v6 ∧ v6 ≤ 9 := o_v6 rfl
      refine z_nald hM dX1_number_19 (by omega) (by omega) ?_
      obtain ⟨v7, e_v7⟩ : ∃ x, x = numF v6 := ⟨_, rfl⟩
      rw [← e_v7]
      have h_v7 : 1 ≤ v7 ∧ v7 ≤ 7 := by rw [e_v7]; exact numF_rng _
      refine r_icmp_lt (tgt := 28) hC dX1_number_20 rfl (fun h8 => ?_) (fun h8 => ?_)
      · refine r_aload_n hC dX1_number_28 rfl ?_
        refine z_getR hM dX1_number_29 fl_RX1_24 rfl rfl (vld_of (n := 1) rfl (by omega) (by omega)) ?_
        refine r_iload_n hC dX1_number_32 rfl ?_
        refine z_iald hM dX1_number_33 rfl (by omega) (by omega) (fun v9 h_v9 o_v9 t_v9 => ?_)
        exact J34_3 (v9)  (by omega) 
      · refine r_ldc hC dX1_number_23 co_RX1_40 rfl ?_
        refine r_goto (tgt := 34) hC dX1_number_25 rfl ?_
        exact J34_3 ((-2147483648))  (by omega) 
theorem s_reaches {e : Ev} {d : Nat} {P : Option Vl → Mm → Prop} {σ : Mm} {w b : Int}   (k : ∀ r : Int, 0 ≤ r ∧ r ≤ 1 → P (some (vI r)) σ) : WT e (d + 2) 11 [vR 14 0, vI w, vI b] σ P := by
  refine WT_in fun K hK => ?_
  have hK : StpY e cX1_reaches RX1 (some .boolean) (WT e (d + 1)) P K := hK
  have hM := hK.1
  have hC := hK.1.1
  show K 0 [some (vR 14 0), some (vI w), some (vI b), none] [] σ
  refine r_rngz hC (fun g0 => ?_)
  have r_w : -2147483648 ≤ w ∧ w ≤ 2147483647 := inR_le (g0 (vI w) (by simp))
  have r_b : -2147483648 ≤ b ∧ b ≤ 2147483647 := inR_le (g0 (vI b) (by simp))
  refine r_aload_n hC dX1_reaches_0 rfl ?_
  refine r_iload_n hC dX1_reaches_1 rfl ?_
  refine z_inv1 hM dX1_reaches_2 vl_RX1_44 rfl rfl rfl (Nat.le_of_ble_eq_true rfl) (Nat.le_of_ble_eq_true rfl) ?_
  refine s_number (fun v1 h_v1 => ?_)
  refine r_istore_n hC dX1_reaches_5 rfl ?_
  refine r_iload_n hC dX1_reaches_6 rfl ?_
  refine r_ldc hC dX1_reaches_7 co_RX1_40 rfl ?_
  have J22_3 : ∀ (w3 : Int), 0 ≤ w3 ∧ w3 ≤ 1 → K 22 [some (vR 14 0), some (vI w), some (vI b), some (vI v1)] [vI w3] σ := by
    intro w3  f_w3 
    refine y_zret hK rfl dX1_reaches_22 (by omega) ?_
    exact k _ (by omega)
  refine r_icmp_eq (tgt := 21) hC dX1_reaches_9 rfl (fun h2 => ?_) (fun h2 => ?_)
  · refine r_iconst hC dX1_reaches_21 rfl ?_
    exact J22_3 (0)  (by omega) 
  · refine r_iload_n hC dX1_reaches_12 rfl ?_
    refine r_iload_n hC dX1_reaches_13 rfl ?_
    refine r_icmp_lt (tgt := 21) hC dX1_reaches_14 rfl (fun h5 => ?_) (fun h5 => ?_)
    · refine r_iconst hC dX1_reaches_21 rfl ?_
      exact J22_3 (0)  (by omega) 
    · refine r_iconst hC dX1_reaches_17 rfl ?_
      refine r_goto (tgt := 22) hC dX1_reaches_18 rfl ?_
      exact J22_3 (1)  (by omega) 
theorem s_noteNumbers {e : Ev} {d : Nat} {P : Option Vl → Mm → Prop} {σ : Mm}   (k : P none σ) : WT e (d + 1) 12 [vR 14 0] σ P := by
  refine WT_in fun K hK => ?_
  have hK : StpY e cX1_noteNumbers RX1 (none) (WT e (d + 0)) P K := hK
  have hM := hK.1
  have hC := hK.1.1
  show K 0 [some (vR 14 0)] [] σ
  refine r_aload_n hC dX1_noteNumbers_0 rfl ?_
  refine z_getR hM dX1_noteNumbers_1 fl_RX1_24 rfl rfl (vld_of (n := 1) rfl (by omega) (by omega)) ?_
  refine r_iconst hC dX1_noteNumbers_4 rfl ?_
  refine r_aload_n hC dX1_noteNumbers_5 rfl ?_
  refine z_getR hM dX1_noteNumbers_6 fl_RX1_27 rfl rfl (vld_of (n := 1) rfl (by omega) (by omega)) ?_
  refine r_iconst hC dX1_noteNumbers_9 rfl ?_
  refine r_bipush hC dX1_noteNumbers_10 rfl ?_
  refine z_copyU hM dX1_noteNumbers_12 ac_RX1_48 rfl rfl (by omega) (by omega) (by omega) (by omega) (by omega) (Nat.le_of_ble_eq_true rfl) (fun _ => ⟨by simp [Un, Tb, DL, DF, DR], fun _ _ h => by simp [Okv] at *; try exact h⟩) ?_
  refine r_aload_n hC dX1_noteNumbers_15 rfl ?_
  refine r_aload_n hC dX1_noteNumbers_16 rfl ?_
  refine z_getI (jz := 6) hM dX1_noteNumbers_17 fl_RX1_34 rfl rfl rfl (fun v1 h_v1 o_v1 t_v1 => ?_)
  refine z_putIU (jz := 4) hM dX1_noteNumbers_20 fw_RX1_54 rfl rfl rfl (by simp [Un, Tb, DL, DF, DR]) (by simp [Okv]) ?_
  refine y_vret hK rfl dX1_noteNumbers_23 ?_
  exact k
theorem s_isAsNoted {e : Ev} {d : Nat} {P : Option Vl → Mm → Prop} {σ : Mm}   (k : ∀ r : Int, 0 ≤ r ∧ r ≤ 1 → P (some (vI r)) σ) : WT e (d + 1) 13 [vR 14 0] σ P := by
  refine WT_in fun K hK => ?_
  have hK : StpY e cX1_isAsNoted RX1 (some .boolean) (WT e (d + 0)) P K := hK
  have hM := hK.1
  have hC := hK.1.1
  show K 0 [some (vR 14 0), none] [] σ
  refine r_aload_n hC dX1_isAsNoted_0 rfl ?_
  refine z_getI (jz := 6) hM dX1_isAsNoted_1 fl_RX1_34 rfl rfl rfl (fun v1 h_v1 o_v1 t_v1 => ?_)
  refine r_if_eq (tgt := 14) hC dX1_isAsNoted_4 rfl (fun h2 => ?_) (fun h2 => ?_)
  · refine r_aload_n hC dX1_isAsNoted_14 rfl ?_
    refine z_getI (jz := 6) hM dX1_isAsNoted_15 fl_RX1_34 rfl rfl rfl (fun v3 h_v3 o_v3 t_v3 => ?_)
    refine r_aload_n hC dX1_isAsNoted_18 rfl ?_
    refine z_getI (jz := 4) hM dX1_isAsNoted_19 fl_RX1_54 rfl rfl rfl (fun v4 h_v4 o_v4 t_v4 => ?_)
    have J30_6 : ∀ (w6 : Int), 0 ≤ w6 ∧ w6 ≤ 1 → K 30 [some (vR 14 0), none] [vI w6] σ := by
      intro w6  f_w6 
      refine y_zret hK rfl dX1_isAsNoted_30 (by omega) ?_
      exact k _ (by omega)
    refine r_icmp_ne (tgt := 29) hC dX1_isAsNoted_22 rfl (fun h5 => ?_) (fun h5 => ?_)
    · refine r_iconst hC dX1_isAsNoted_29 rfl ?_
      exact J30_6 (0)  (by omega) 
    · refine r_iconst hC dX1_isAsNoted_25 rfl ?_
      refine r_goto (tgt := 30) hC dX1_isAsNoted_26 rfl ?_
      exact J30_6 (1)  (by omega) 
  · refine r_aload_n hC dX1_isAsNoted_7 rfl ?_
    refine z_getI (jz := 4) hM dX1_isAsNoted_8 fl_RX1_54 rfl rfl rfl (fun v8 h_v8 o_v8 t_v8 => ?_)
    refine r_if_ne (tgt := 31) hC dX1_isAsNoted_11 rfl (fun h9 => ?_) (fun h9 => ?_)
    · refine r_iconst hC dX1_isAsNoted_31 rfl ?_
      refine r_istore_n hC dX1_isAsNoted_32 rfl ?_
      have L33 : ∀ (n33 : Nat) (w10 : Int), 0 ≤ w10 ∧ w10 ≤ 7 → 7 - w10 < (n33 : Int) → K 33 [some (vR 14 0), some (vI w10)] [] σ := by
        intro n33
        induction n33 with
        | zero => intro w10  f_w10  hm ; omega
        | succ n33 ih33 =>
          intro w10  f_w10  hm33 
          refine r_iload_n hC dX1_isAsNoted_33 rfl ?_
          refine z_nums hM dX1_isAsNoted_34 sl_RX1_41 ?_
          refine r_aload_n hC dX1_isAsNoted_37 rfl ?_
          refine z_getI (jz := 5) hM dX1_isAsNoted_38 fl_RX1_30 rfl rfl rfl (fun v11 h_v11 o_v11 t_v11 => ?_)
          have q_v11 : 0 ≤ v11 ∧ v11 ≤ 9 := o_v11 rfl
          refine z_nald hM dX1_isAsNoted_41 (by omega) (by omega) ?_
          obtain ⟨v12, e_v12⟩ : ∃ x, x = numF v11 := ⟨_, rfl⟩
          rw [← e_v12]
          have h_v12 : 1 ≤ v12 ∧ v12 ≤ 7 := by rw [e_v12]; exact numF_rng _
          refine r_icmp_ge (tgt := 68) hC dX1_isAsNoted_42 rfl (fun h13 => ?_) (fun h13 => ?_)
          · refine r_iconst hC dX1_isAsNoted_68 rfl ?_
            refine y_zret hK rfl dX1_isAsNoted_69 (by omega) ?_
            exact k _ (by omega)
          · refine r_aload_n hC dX1_isAsNoted_45 rfl ?_
            refine z_getR hM dX1_isAsNoted_46 fl_RX1_24 rfl rfl (vld_of (n := 1) rfl (by omega) (by omega)) ?_
            refine r_iload_n hC dX1_isAsNoted_49 rfl ?_
            refine z_iald hM dX1_isAsNoted_50 rfl (by omega) (by omega) (fun v14 h_v14 o_v14 t_v14 => ?_)
            refine r_aload_n hC dX1_isAsNoted_51 rfl ?_
            refine z_getR hM dX1_isAsNoted_52 fl_RX1_27 rfl rfl (vld_of (n := 1) rfl (by omega) (by omega)) ?_
            refine r_iload_n hC dX1_isAsNoted_55 rfl ?_
            refine z_iald hM dX1_isAsNoted_56 rfl (by omega) (by omega) (fun v15 h_v15 o_v15 t_v15 => ?_)
            refine r_icmp_eq (tgt := 62) hC dX1_isAsNoted_57 rfl (fun h16 => ?_) (fun h16 => ?_)
            · refine r_iincE hC ((w10 + 1)) dX1_isAsNoted_62 rfl rfl (by omega) (by unfold inR; omega) ?_
              refine r_goto (tgt := 33) hC dX1_isAsNoted_65 rfl ?_
              exact ih33 ((w10 + 1))  (by omega)  (by omega) 
            · refine r_iconst hC dX1_isAsNoted_60 rfl ?_
              refine y_zret hK rfl dX1_isAsNoted_61 (by omega) ?_
              exact k _ (by omega)
      exact L33 9 (0)  (by omega)  (by omega) 
    · refine r_aload_n hC dX1_isAsNoted_14 rfl ?_
      refine z_getI (jz := 6) hM dX1_isAsNoted_15 fl_RX1_34 rfl rfl rfl (fun v17 h_v17 o_v17 t_v17 => ?_)
      refine r_aload_n hC dX1_isAsNoted_18 rfl ?_
      refine z_getI (jz := 4) hM dX1_isAsNoted_19 fl_RX1_54 rfl rfl rfl (fun v18 h_v18 o_v18 t_v18 => ?_)
      have J30_20 : ∀ (w20 : Int), 0 ≤ w20 ∧ w20 ≤ 1 → K 30 [some (vR 14 0), none] [vI w20] σ := by
        intro w20  f_w20 
        refine y_zret hK rfl dX1_isAsNoted_30 (by omega) ?_
        exact k _ (by omega)
      refine r_icmp_ne (tgt := 29) hC dX1_isAsNoted_22 rfl (fun h19 => ?_) (fun h19 => ?_)
      · refine r_iconst hC dX1_isAsNoted_29 rfl ?_
        exact J30_20 (0)  (by omega) 
      · refine r_iconst hC dX1_isAsNoted_25 rfl ?_
        refine r_goto (tgt := 30) hC dX1_isAsNoted_26 rfl ?_
        exact J30_20 (1)  (by omega) 
-- safety: the reference, first group
theorem m_isIn {e : Ev} {d : Nat} {P : Option Vl → Mm → Prop} {σ : Mm} {a lo hi : Int}   (k1 : (lo ≤ a ∧ a ≤ hi) → P (some (vI 1)) σ) (k0 : ¬ (lo ≤ a ∧ a ≤ hi) → P (some (vI 0)) σ) : WT e (d + 1) 136 [vI a, vI lo, vI hi] σ P := by
  refine WT_in fun K hK => ?_
  have hK : StpY e cX6_isIn RX6 (some .boolean) (WT e (d + 0)) P K := hK
  have hM := hK.1
  have hC := hK.1.1
  show K 0 [some (vI a), some (vI lo), some (vI hi)] [] σ
  refine r_rngz hC (fun g0 => ?_)
  have r_a : -2147483648 ≤ a ∧ a ≤ 2147483647 := inR_le (g0 (vI a) (by simp))
  have r_lo : -2147483648 ≤ lo ∧ lo ≤ 2147483647 := inR_le (g0 (vI lo) (by simp))
  have r_hi : -2147483648 ≤ hi ∧ hi ≤ 2147483647 := inR_le (g0 (vI hi) (by simp))
  refine r_iload_n hC dX6_isIn_0 rfl ?_
  refine r_iload_n hC dX6_isIn_1 rfl ?_
  refine r_icmp_lt (tgt := 14) hC dX6_isIn_2 rfl (fun h1 => ?_) (fun h1 => ?_)
  · refine r_iconst hC dX6_isIn_14 rfl ?_
    refine y_zret hK rfl dX6_isIn_15 (by omega) ?_
    exact k0 (by omega)
  · refine r_iload_n hC dX6_isIn_5 rfl ?_
    refine r_iload_n hC dX6_isIn_6 rfl ?_
    refine r_icmp_gt (tgt := 14) hC dX6_isIn_7 rfl (fun h2 => ?_) (fun h2 => ?_)
    · refine r_iconst hC dX6_isIn_14 rfl ?_
      refine y_zret hK rfl dX6_isIn_15 (by omega) ?_
      exact k0 (by omega)
    · refine r_iconst hC dX6_isIn_10 rfl ?_
      refine r_goto (tgt := 15) hC dX6_isIn_11 rfl ?_
      refine y_zret hK rfl dX6_isIn_15 (by omega) ?_
      exact k1 (by omega)
theorem m_of {e : Ev} {d : Nat} {P : Option Vl → Mm → Prop} {σ : Mm} {l f : Int} (b_l : 0 ≤ l ∧ l ≤ 7) (b_f : 0 ≤ f ∧ f ≤ 21)  (k : ∀ r : Int, (-2147483648 ≤ r ∧ r ≤ 2147483647) → (f = 5 → 0 ≤ r ∧ r ≤ 121) → (f = 0 → 0 ≤ r ∧ r ≤ 1) → (Tk e 31 (22 * l + f) → r = σ 31 0 (22 * l + f)) → P (some (vI r)) σ) : WT e (d + 1) 138 [vR 30 0, vI l, vI f] σ P := by
  refine WT_in fun K hK => ?_
  have hK : StpY e cX6_of RX6 (some .int) (WT e (d + 0)) P K := hK
  have hM := hK.1
  have hC := hK.1.1
  show K 0 [some (vR 30 0), some (vI l), some (vI f)] [] σ
  refine r_aload_n hC dX6_of_0 rfl ?_
  refine z_getR hM dX6_of_1 fl_RX6_7 rfl rfl (vld_of (n := 1) rfl (by omega) (by omega)) ?_
  refine r_bipush hC dX6_of_4 rfl ?_
  refine r_iload_n hC dX6_of_6 rfl ?_
  refine r_imulE hC ((22 * l)) dX6_of_7 (by omega) (by unfold inR; omega) ?_
  refine r_iload_n hC dX6_of_8 rfl ?_
  refine r_iaddE hC (((22 * l) + f)) dX6_of_9 (by omega) (by unfold inR; omega) ?_
  refine z_iald hM dX6_of_10 rfl (by omega) (by omega) (fun v1 h_v1 o_v1 t_v1 => ?_)
  refine y_iret hK rfl dX6_of_11 ?_
  exact k _ (by omega) (fun h => o_v1.1 (by omega)) (fun h => by have := o_v1.2 (by omega); omega) t_v1
theorem m_set {e : Ev} {d : Nat} {P : Option Vl → Mm → Prop} {σ : Mm} {l f v : Int} (b_l : 0 ≤ l ∧ l ≤ 7) (b_f : 4 ≤ f ∧ f ≤ 20) (hu : f ≠ 5)  (k : P none σ) : WT e (d + 1) 139 [vR 30 0, vI l, vI f, vI v] σ P := by
  refine WT_in fun K hK => ?_
  have hK : StpY e cX6_set RX6 (none) (WT e (d + 0)) P K := hK
  have hM := hK.1
  have hC := hK.1.1
  show K 0 [some (vR 30 0), some (vI l), some (vI f), some (vI v)] [] σ
  refine r_rngz hC (fun g0 => ?_)
  have r_v : -2147483648 ≤ v ∧ v ≤ 2147483647 := inR_le (g0 (vI v) (by simp))
  refine r_aload_n hC dX6_set_0 rfl ?_
  refine z_getR hM dX6_set_1 fl_RX6_7 rfl rfl (vld_of (n := 1) rfl (by omega) (by omega)) ?_
  refine r_bipush hC dX6_set_4 rfl ?_
  refine r_iload_n hC dX6_set_6 rfl ?_
  refine r_imulE hC ((22 * l)) dX6_set_7 (by omega) (by unfold inR; omega) ?_
  refine r_iload_n hC dX6_set_8 rfl ?_
  refine r_iaddE hC (((22 * l) + f)) dX6_set_9 (by omega) (by unfold inR; omega) ?_
  refine r_iload_n hC dX6_set_10 rfl ?_
  refine z_iastU hM dX6_set_11 rfl (by omega) (by omega) ⟨by simp only [Tb]; omega, by simp only [DL]; omega, by simp [DF], Or.inr (by simp [DR])⟩ ⟨fun h => by omega, fun h => by omega⟩ ?_
  refine y_vret hK rfl dX6_set_12 ?_
  exact k
theorem m_more {e : Ev} {d : Nat} {P : Option Vl → Mm → Prop} {σ : Mm} {l f v : Int} (b_l : 0 ≤ l ∧ l ≤ 7) (b_f : 4 ≤ f ∧ f ≤ 20) (hu : f ≠ 5)  (k : P none σ) : WT e (d + 1) 140 [vR 30 0, vI l, vI f, vI v] σ P := by
  refine WT_in fun K hK => ?_
  have hK : StpY e cX6_more RX6 (none) (WT e (d + 0)) P K := hK
  have hM := hK.1
  have hC := hK.1.1
  show K 0 [some (vR 30 0), some (vI l), some (vI f), some (vI v)] [] σ
  refine r_rngz hC (fun g0 => ?_)
  have r_v : -2147483648 ≤ v ∧ v ≤ 2147483647 := inR_le (g0 (vI v) (by simp))
  refine r_aload_n hC dX6_more_0 rfl ?_
  refine z_getR hM dX6_more_1 fl_RX6_7 rfl rfl (vld_of (n := 1) rfl (by omega) (by omega)) ?_
  refine r_bipush hC dX6_more_4 rfl ?_
  refine r_iload_n hC dX6_more_6 rfl ?_
  refine r_imulE hC ((22 * l)) dX6_more_7 (by omega) (by unfold inR; omega) ?_
  refine r_iload_n hC dX6_more_8 rfl ?_
  refine r_iaddE hC (((22 * l) + f)) dX6_more_9 (by omega) (by unfold inR; omega) ?_
  refine r_dup2 hC dX6_more_10 rfl rfl ?_
  refine z_iald hM dX6_more_11 rfl (by omega) (by omega) (fun v1 h_v1 o_v1 t_v1 => ?_)
  refine r_iload_n hC dX6_more_12 rfl ?_
  refine r_iaddG hC dX6_more_13 (fun v2 h_v2 => ?_)
  refine z_iastU hM dX6_more_14 rfl (by omega) (by omega) ⟨by simp only [Tb]; omega, by simp only [DL]; omega, by simp [DF], Or.inr (by simp [DR])⟩ ⟨fun h => by omega, fun h => by omega⟩ ?_
  refine y_vret hK rfl dX6_more_15 ?_
  exact k
theorem m_isLane {e : Ev} {d : Nat} {P : Option Vl → Mm → Prop} {σ : Mm} {l : Int}   (k1 : 0 ≤ l ∧ l ≤ 3 → P (some (vI 1)) σ) (k0 : P (some (vI 0)) σ) : WT e (d + 2) 137 [vR 30 0, vI l] σ P := by
  refine WT_in fun K hK => ?_
  have hK : StpY e cX6_isLane RX6 (some .boolean) (WT e (d + 1)) P K := hK
  have hM := hK.1
  have hC := hK.1.1
  show K 0 [some (vR 30 0), some (vI l)] [] σ
  refine r_rngz hC (fun g0 => ?_)
  have r_l : -2147483648 ≤ l ∧ l ≤ 2147483647 := inR_le (g0 (vI l) (by simp))
  refine r_iload_n hC dX6_isLane_0 rfl ?_
  refine r_iconst hC dX6_isLane_1 rfl ?_
  refine r_iconst hC dX6_isLane_2 rfl ?_
  refine z_ins3 hM dX6_isLane_3 tl_RX6_76 rfl (Nat.le_of_ble_eq_true rfl) (Nat.le_of_ble_eq_true rfl) ?_
  refine m_isIn (fun h2 => ?_) (fun h2 => ?_)
  · refine r_if_eq (tgt := 28) hC dX6_isLane_6 rfl (fun h3 => by omega) (fun h3 => ?_)
    refine r_aload_n hC dX6_isLane_9 rfl ?_
    refine z_getR hM dX6_isLane_10 fl_RX6_7 rfl rfl (vld_of (n := 1) rfl (by omega) (by omega)) ?_
    refine r_bipush hC dX6_isLane_13 rfl ?_
    refine r_iload_n hC dX6_isLane_15 rfl ?_
    refine r_imulE hC ((22 * l)) dX6_isLane_16 (by omega) (by unfold inR; omega) ?_
    refine r_iconst hC dX6_isLane_17 rfl ?_
    refine r_iaddE hC ((22 * l)) dX6_isLane_18 (by omega) (by unfold inR; omega) ?_
    refine z_iald hM dX6_isLane_19 rfl (by omega) (by omega) (fun v4 h_v4 o_v4 t_v4 => ?_)
    have q_v4 : 0 ≤ v4 ∧ v4 ≤ 1 := by have := o_v4.2 (by omega); omega
    refine r_iconst hC dX6_isLane_20 rfl ?_
    refine r_icmp_ne (tgt := 28) hC dX6_isLane_21 rfl (fun h5 => ?_) (fun h5 => ?_)
    · refine r_iconst hC dX6_isLane_28 rfl ?_
      refine y_zret hK rfl dX6_isLane_29 (by omega) ?_
      exact k0
    · refine r_iconst hC dX6_isLane_24 rfl ?_
      refine r_goto (tgt := 29) hC dX6_isLane_25 rfl ?_
      refine y_zret hK rfl dX6_isLane_29 (by omega) ?_
      exact k1 (by omega)
  · refine r_if_eq (tgt := 28) hC dX6_isLane_6 rfl (fun h6 => ?_) (fun h6 => by omega)
    refine r_iconst hC dX6_isLane_28 rfl ?_
    refine y_zret hK rfl dX6_isLane_29 (by omega) ?_
    exact k0
theorem m_heldOf {e : Ev} {d : Nat} {P : Option Vl → Mm → Prop} {σ : Mm} {l : Int} (b_l : 0 ≤ l ∧ l ≤ 7)  (k : ∀ r : Int, (0 ≤ r ∧ r ≤ 121) → (e.1 = true → r = σ 31 0 (22 * l + 5)) → P (some (vI r)) σ) : WT e (d + 2) 141 [vR 30 0, vI l] σ P := by
  refine WT_in fun K hK => ?_
  have hK : StpY e cX6_heldOf RX6 (some .int) (WT e (d + 1)) P K := hK
  have hM := hK.1
  have hC := hK.1.1
  show K 0 [some (vR 30 0), some (vI l)] [] σ
  refine r_aload_n hC dX6_heldOf_0 rfl ?_
  refine r_iload_n hC dX6_heldOf_1 rfl ?_
  refine r_iconst hC dX6_heldOf_2 rfl ?_
  refine z_inv2 hM dX6_heldOf_3 vl_RX6_80 rfl rfl rfl (Nat.le_of_ble_eq_true rfl) (Nat.le_of_ble_eq_true rfl) ?_
  refine m_of (by omega) (by omega) (fun v1 h_v1 h5_v1 h0_v1 t_v1 => ?_)
  have q_v1 := h5_v1 rfl
  refine y_iret hK rfl dX6_heldOf_6 ?_
  exact k _ (by omega) (fun he => t_v1 (Or.inr (Or.inl ⟨he, by simp only [DL]; omega⟩)))
theorem m_isUsed {e : Ev} {d : Nat} {P : Option Vl → Mm → Prop} {σ : Mm} {o : Int}   (k : ∀ r : Int, 0 ≤ r ∧ r ≤ 1 → P (some (vI r)) σ) : WT e (d + 2) 142 [vR 30 0, vI o] σ P := by
  refine WT_in fun K hK => ?_
  have hK : StpY e cX6_isUsed RX6 (some .boolean) (WT e (d + 1)) P K := hK
  have hM := hK.1
  have hC := hK.1.1
  show K 0 [some (vR 30 0), some (vI o), none] [] σ
  refine r_rngz hC (fun g0 => ?_)
  have r_o : -2147483648 ≤ o ∧ o ≤ 2147483647 := inR_le (g0 (vI o) (by simp))
  refine r_iconst hC dX6_isUsed_0 rfl ?_
  refine r_istore_n hC dX6_isUsed_1 rfl ?_
  have L2 : ∀ (n2 : Nat) (w1 : Int), 0 ≤ w1 ∧ w1 ≤ 7 → 7 - w1 < (n2 : Int) → K 2 [some (vR 30 0), some (vI o), some (vI w1)] [] σ := by
    intro n2
    induction n2 with
    | zero => intro w1  f_w1  hm ; omega
    | succ n2 ih2 =>
      intro w1  f_w1  hm2 
      refine r_iload_n hC dX6_isUsed_2 rfl ?_
      refine r_bipush hC dX6_isUsed_3 rfl ?_
      refine r_icmp_ge (tgt := 36) hC dX6_isUsed_5 rfl (fun h2 => ?_) (fun h2 => ?_)
      · refine r_iconst hC dX6_isUsed_36 rfl ?_
        refine y_zret hK rfl dX6_isUsed_37 (by omega) ?_
        exact k _ (by omega)
      · refine r_aload_n hC dX6_isUsed_8 rfl ?_
        refine r_iload_n hC dX6_isUsed_9 rfl ?_
        refine r_iconst hC dX6_isUsed_10 rfl ?_
        refine z_inv2 hM dX6_isUsed_11 vl_RX6_80 rfl rfl rfl (Nat.le_of_ble_eq_true rfl) (Nat.le_of_ble_eq_true rfl) ?_
        refine m_of (by omega) (by omega) (fun v3 h_v3 h5_v3 h0_v3 t_v3 => ?_)
        have q_v3 := h0_v3 rfl
        refine r_iconst hC dX6_isUsed_14 rfl ?_
        refine r_icmp_ne (tgt := 30) hC dX6_isUsed_15 rfl (fun h4 => ?_) (fun h4 => ?_)
        · refine r_iincE hC ((w1 + 1)) dX6_isUsed_30 rfl rfl (by omega) (by unfold inR; omega) ?_
          refine r_goto (tgt := 2) hC dX6_isUsed_33 rfl ?_
          exact ih2 ((w1 + 1))  (by omega)  (by omega) 
        · refine r_aload_n hC dX6_isUsed_18 rfl ?_
          refine r_iload_n hC dX6_isUsed_19 rfl ?_
          refine r_iconst hC dX6_isUsed_20 rfl ?_
          refine z_inv2 hM dX6_isUsed_21 vl_RX6_80 rfl rfl rfl (Nat.le_of_ble_eq_true rfl) (Nat.le_of_ble_eq_true rfl) ?_
          refine m_of (by omega) (by omega) (fun v5 h_v5 h5_v5 h0_v5 t_v5 => ?_)
          refine r_iload_n hC dX6_isUsed_24 rfl ?_
          refine r_icmp_ne (tgt := 30) hC dX6_isUsed_25 rfl (fun h6 => ?_) (fun h6 => ?_)
          · refine r_iincE hC ((w1 + 1)) dX6_isUsed_30 rfl rfl (by omega) (by unfold inR; omega) ?_
            refine r_goto (tgt := 2) hC dX6_isUsed_33 rfl ?_
            exact ih2 ((w1 + 1))  (by omega)  (by omega) 
          · refine r_iconst hC dX6_isUsed_28 rfl ?_
            refine y_zret hK rfl dX6_isUsed_29 (by omega) ?_
            exact k _ (by omega)
  exact L2 9 (0)  (by omega)  (by omega) 
theorem m_product {e : Ev} {d : Nat} {P : Option Vl → Mm → Prop} {σ : Mm} {x y : Int} (b_x : 0 ≤ x ∧ x ≤ 3) (b_y : 0 ≤ y ∧ y ≤ 3)  (k : ∀ r : Int, 0 ≤ r ∧ r ≤ 3 → P (some (vI r)) σ) : WT e (d + 1) 145 [vR 30 0, vI x, vI y] σ P := by
  refine WT_in fun K hK => ?_
  have hK : StpY e cX6_product RX6 (some .int) (WT e (d + 0)) P K := hK
  have hM := hK.1
  have hC := hK.1.1
  show K 0 [some (vR 30 0), some (vI x), some (vI y)] [] σ
  refine r_aload_n hC dX6_product_0 rfl ?_
  refine z_getR hM dX6_product_1 fl_RX6_22 rfl rfl (vld_of (n := 1) rfl (by omega) (by omega)) ?_
  refine r_iconst hC dX6_product_4 rfl ?_
  refine r_iload_n hC dX6_product_5 rfl ?_
  refine r_imulE hC ((4 * x)) dX6_product_6 (by omega) (by unfold inR; omega) ?_
  refine r_iload_n hC dX6_product_7 rfl ?_
  refine r_iaddE hC (((4 * x) + y)) dX6_product_8 (by omega) (by unfold inR; omega) ?_
  refine z_iald hM dX6_product_9 rfl (by omega) (by omega) (fun v1 h_v1 o_v1 t_v1 => ?_)
  have q_v1 : 0 ≤ v1 ∧ v1 ≤ 3 := o_v1
  refine y_iret hK rfl dX6_product_10 ?_
  exact k _ (by omega)
theorem m_associates {e : Ev} {d : Nat} {P : Option Vl → Mm → Prop} {σ : Mm} {t : Int} (b_t : 0 ≤ t ∧ t ≤ 63)  (k : ∀ r : Int, 0 ≤ r ∧ r ≤ 1 → P (some (vI r)) σ) : WT e (d + 2) 146 [vR 30 0, vI t] σ P := by
  refine WT_in fun K hK => ?_
  have hK : StpY e cX6_associates RX6 (some .boolean) (WT e (d + 1)) P K := hK
  have hM := hK.1
  have hC := hK.1.1
  show K 0 [some (vR 30 0), some (vI t), none, none, none] [] σ
  refine r_iload_n hC dX6_associates_0 rfl ?_
  refine r_bipush hC dX6_associates_1 rfl ?_
  refine r_idivN hC dX6_associates_3 (by omega) (by omega) ?_
  refine r_istore_n hC dX6_associates_4 rfl ?_
  refine r_iload_n hC dX6_associates_5 rfl ?_
  refine r_iconst hC dX6_associates_6 rfl ?_
  refine r_idivN hC dX6_associates_7 (by omega) (by omega) ?_
  refine r_iconst hC dX6_associates_8 rfl ?_
  refine r_iremN hC dX6_associates_9 (by omega) (by omega) ?_
  refine r_istore_n hC dX6_associates_10 rfl ?_
  refine r_iload_n hC dX6_associates_11 rfl ?_
  refine r_iconst hC dX6_associates_12 rfl ?_
  refine r_iremN hC dX6_associates_13 (by omega) (by omega) ?_
  refine r_istore hC dX6_associates_14 rfl ?_
  show K _ [_, _, _, _, _] _ _
  refine r_aload_n hC dX6_associates_16 rfl ?_
  refine r_aload_n hC dX6_associates_17 rfl ?_
  refine r_iload_n hC dX6_associates_18 rfl ?_
  refine r_iload_n hC dX6_associates_19 rfl ?_
  refine z_inv2 hM dX6_associates_20 vl_RX6_88 rfl rfl rfl (Nat.le_of_ble_eq_true rfl) (Nat.le_of_ble_eq_true rfl) ?_
  refine m_product (by omega) (by omega) (fun v1 h_v1 => ?_)
  refine r_iload hC dX6_associates_23 rfl ?_
  refine z_inv2 hM dX6_associates_25 vl_RX6_88 rfl rfl rfl (Nat.le_of_ble_eq_true rfl) (Nat.le_of_ble_eq_true rfl) ?_
  refine m_product (by omega) (by omega) (fun v2 h_v2 => ?_)
  refine r_aload_n hC dX6_associates_28 rfl ?_
  refine r_iload_n hC dX6_associates_29 rfl ?_
  refine r_aload_n hC dX6_associates_30 rfl ?_
  refine r_iload_n hC dX6_associates_31 rfl ?_
  refine r_iload hC dX6_associates_32 rfl ?_
  refine z_inv2 hM dX6_associates_34 vl_RX6_88 rfl rfl rfl (Nat.le_of_ble_eq_true rfl) (Nat.le_of_ble_eq_true rfl) ?_
  refine m_product (by omega) (by omega) (fun v3 h_v3 => ?_)
  refine z_inv2 hM dX6_associates_37 vl_RX6_88 rfl rfl rfl (Nat.le_of_ble_eq_true rfl) (Nat.le_of_ble_eq_true rfl) ?_
  refine m_product (by omega) (by omega) (fun v4 h_v4 => ?_)
  have J48_6 : ∀ (w6 : Int), 0 ≤ w6 ∧ w6 ≤ 1 → K 48 [some (vR 30 0), some (vI t), some (vI (t / 16)), some (vI ((t / 4) % 4)), some (vI (t % 4))] [vI w6] σ := by
    intro w6  f_w6 
    refine y_zret hK rfl dX6_associates_48 (by omega) ?_
    exact k _ (by omega)
  refine r_icmp_ne (tgt := 47) hC dX6_associates_40 rfl (fun h5 => ?_) (fun h5 => ?_)
  · refine r_iconst hC dX6_associates_47 rfl ?_
    exact J48_6 (0)  (by omega) 
  · refine r_iconst hC dX6_associates_43 rfl ?_
    refine r_goto (tgt := 48) hC dX6_associates_44 rfl ?_
    exact J48_6 (1)  (by omega) 
theorem m_firstThree {e : Ev} {d : Nat} {P : Option Vl → Mm → Prop} {σ : Mm}   (k : ∀ r : Int, -1 ≤ r ∧ r ≤ 63 → P (some (vI r)) σ) : WT e (d + 3) 147 [vR 30 0] σ P := by
  refine WT_in fun K hK => ?_
  have hK : StpY e cX6_firstThree RX6 (some .int) (WT e (d + 2)) P K := hK
  have hM := hK.1
  have hC := hK.1.1
  show K 0 [some (vR 30 0), none] [] σ
  refine r_iconst hC dX6_firstThree_0 rfl ?_
  refine r_istore_n hC dX6_firstThree_1 rfl ?_
  have L2 : ∀ (n2 : Nat) (w1 : Int), 0 ≤ w1 ∧ w1 ≤ 64 → 64 - w1 < (n2 : Int) → K 2 [some (vR 30 0), some (vI w1)] [] σ := by
    intro n2
    induction n2 with
    | zero => intro w1  f_w1  hm ; omega
    | succ n2 ih2 =>
      intro w1  f_w1  hm2 
      refine r_iload_n hC dX6_firstThree_2 rfl ?_
      refine r_bipush hC dX6_firstThree_3 rfl ?_
      refine r_icmp_ge (tgt := 24) hC dX6_firstThree_5 rfl (fun h2 => ?_) (fun h2 => ?_)
      · refine r_iconst hC dX6_firstThree_24 rfl ?_
        refine y_iret hK rfl dX6_firstThree_25 ?_
        exact k _ (by omega)
      · refine r_aload_n hC dX6_firstThree_8 rfl ?_
        refine r_iload_n hC dX6_firstThree_9 rfl ?_
        refine z_inv1 hM dX6_firstThree_10 vl_RX6_91 rfl rfl rfl (Nat.le_of_ble_eq_true rfl) (Nat.le_of_ble_eq_true rfl) ?_
        refine m_associates (by omega) (fun v3 h_v3 => ?_)
        refine r_if_ne (tgt := 18) hC dX6_firstThree_13 rfl (fun h4 => ?_) (fun h4 => ?_)
        · refine r_iincE hC ((w1 + 1)) dX6_firstThree_18 rfl rfl (by omega) (by unfold inR; omega) ?_
          refine r_goto (tgt := 2) hC dX6_firstThree_21 rfl ?_
          exact ih2 ((w1 + 1))  (by omega)  (by omega) 
        · refine r_iload_n hC dX6_firstThree_16 rfl ?_
          refine y_iret hK rfl dX6_firstThree_17 ?_
          exact k _ (by omega)
  exact L2 66 (0)  (by omega)  (by omega) 
theorem m_countAssociating {e : Ev} {d : Nat} {P : Option Vl → Mm → Prop} {σ : Mm}   (k : ∀ r : Int, -2147483648 ≤ r ∧ r ≤ 2147483647 → P (some (vI r)) σ) : WT e (d + 3) 149 [vR 30 0] σ P := by
  refine WT_in fun K hK => ?_
  have hK : StpY e cX6_countAssociating RX6 (some .int) (WT e (d + 2)) P K := hK
  have hM := hK.1
  have hC := hK.1.1
  show K 0 [some (vR 30 0), none, none] [] σ
  refine r_iconst hC dX6_countAssociating_0 rfl ?_
  refine r_istore_n hC dX6_countAssociating_1 rfl ?_
  refine r_iconst hC dX6_countAssociating_2 rfl ?_
  refine r_istore_n hC dX6_countAssociating_3 rfl ?_
  have L4 : ∀ (n4 : Nat) (w1 w2 : Int), -2147483648 ≤ w1 ∧ w1 ≤ 2147483647 → 0 ≤ w2 ∧ w2 ≤ 64 → 64 - w2 < (n4 : Int) → K 4 [some (vR 30 0), some (vI w1), some (vI w2)] [] σ := by
    intro n4
    induction n4 with
    | zero => intro w1 w2  f_w1 f_w2  hm ; omega
    | succ n4 ih4 =>
      intro w1 w2  f_w1 f_w2  hm4 
      refine r_iload_n hC dX6_countAssociating_4 rfl ?_
      refine r_bipush hC dX6_countAssociating_5 rfl ?_
      refine r_icmp_ge (tgt := 32) hC dX6_countAssociating_7 rfl (fun h3 => ?_) (fun h3 => ?_)
      · refine r_iload_n hC dX6_countAssociating_32 rfl ?_
        refine y_iret hK rfl dX6_countAssociating_33 ?_
        exact k _ (by omega)
      · refine r_iload_n hC dX6_countAssociating_10 rfl ?_
        refine r_aload_n hC dX6_countAssociating_11 rfl ?_
        refine r_iload_n hC dX6_countAssociating_12 rfl ?_
        refine z_inv1 hM dX6_countAssociating_13 vl_RX6_91 rfl rfl rfl (Nat.le_of_ble_eq_true rfl) (Nat.le_of_ble_eq_true rfl) ?_
        refine m_associates (by omega) (fun v4 h_v4 => ?_)
        have J24_6 : ∀ (w6 : Int), 0 ≤ w6 ∧ w6 ≤ 1 → K 24 [some (vR 30 0), some (vI w1), some (vI w2)] [vI w6, vI w1] σ := by
          intro w6  f_w6 
          refine r_iaddG hC dX6_countAssociating_24 (fun v8 h_v8 => ?_)
          refine r_istore_n hC dX6_countAssociating_25 rfl ?_
          refine r_iincE hC ((w2 + 1)) dX6_countAssociating_26 rfl rfl (by omega) (by unfold inR; omega) ?_
          refine r_goto (tgt := 4) hC dX6_countAssociating_29 rfl ?_
          exact ih4 (v8) ((w2 + 1))  (by omega) (by omega)  (by omega) 
        refine r_if_eq (tgt := 23) hC dX6_countAssociating_16 rfl (fun h5 => ?_) (fun h5 => ?_)
        · refine r_iconst hC dX6_countAssociating_23 rfl ?_
          exact J24_6 (0)  (by omega) 
        · refine r_iconst hC dX6_countAssociating_19 rfl ?_
          refine r_goto (tgt := 24) hC dX6_countAssociating_20 rfl ?_
          exact J24_6 (1)  (by omega) 
  exact L4 66 (0) (0)  (by omega) (by omega)  (by omega) 
theorem m_triple {e : Ev} {d : Nat} {P : Option Vl → Mm → Prop} {σ : Mm} {w : Int}   (k : ∀ r : Int, -2147483648 ≤ r ∧ r ≤ 2147483647 → P (some (vI r)) σ) : WT e (d + 4) 148 [vR 30 0, vI w] σ P := by
  refine WT_in fun K hK => ?_
  have hK : StpY e cX6_triple RX6 (some .int) (WT e (d + 3)) P K := hK
  have hM := hK.1
  have hC := hK.1.1
  show K 0 [some (vR 30 0), some (vI w), none] [] σ
  refine r_rngz hC (fun g0 => ?_)
  have r_w : -2147483648 ≤ w ∧ w ≤ 2147483647 := inR_le (g0 (vI w) (by simp))
  refine r_iload_n hC dX6_triple_0 rfl ?_
  refine r_iconst hC dX6_triple_1 rfl ?_
  refine r_icmp_ne (tgt := 10) hC dX6_triple_2 rfl (fun h1 => ?_) (fun h1 => ?_)
  · refine r_aload_n hC dX6_triple_10 rfl ?_
    refine z_inv0 hM dX6_triple_11 vl_RX6_98 rfl rfl rfl (Nat.le_of_ble_eq_true rfl) (Nat.le_of_ble_eq_true rfl) ?_
    refine m_firstThree (fun v2 h_v2 => ?_)
    refine r_istore_n hC dX6_triple_14 rfl ?_
    refine r_iload_n hC dX6_triple_15 rfl ?_
    refine r_if_lt (tgt := 28) hC dX6_triple_16 rfl (fun h3 => ?_) (fun h3 => ?_)
    · refine r_iconst hC dX6_triple_28 rfl ?_
      refine y_iret hK rfl dX6_triple_29 ?_
      exact k _ (by omega)
    · refine r_iload_n hC dX6_triple_19 rfl ?_
      refine r_iconst hC dX6_triple_20 rfl ?_
      refine r_iconst hC dX6_triple_21 rfl ?_
      refine z_ins3 hM dX6_triple_22 tl_RX6_76 rfl (Nat.le_of_ble_eq_true rfl) (Nat.le_of_ble_eq_true rfl) ?_
      refine m_isIn (fun h5 => ?_) (fun h5 => ?_)
      · refine r_if_ne (tgt := 30) hC dX6_triple_25 rfl (fun h6 => ?_) (fun h6 => by omega)
        refine r_iload_n hC dX6_triple_30 rfl ?_
        have J57_8 : ∀ (w8 : Int), 0 ≤ w8 ∧ w8 ≤ 3 → K 57 [some (vR 30 0), some (vI w), some (vI v2)] [vI w8] σ := by
          intro w8  f_w8 
          refine y_iret hK rfl dX6_triple_57 ?_
          exact k _ (by omega)
        refine r_if_ne (tgt := 41) hC dX6_triple_31 rfl (fun h7 => ?_) (fun h7 => ?_)
        · refine r_iload_n hC dX6_triple_41 rfl ?_
          refine r_iconst hC dX6_triple_42 rfl ?_
          refine r_icmp_ne (tgt := 54) hC dX6_triple_43 rfl (fun h10 => ?_) (fun h10 => ?_)
          · refine r_iload_n hC dX6_triple_54 rfl ?_
            refine r_iconst hC dX6_triple_55 rfl ?_
            refine r_iremN hC dX6_triple_56 (by omega) (by omega) ?_
            exact J57_8 ((v2 % 4))  (by omega) 
          · refine r_iload_n hC dX6_triple_46 rfl ?_
            refine r_iconst hC dX6_triple_47 rfl ?_
            refine r_idivN hC dX6_triple_48 (by omega) (by omega) ?_
            refine r_iconst hC dX6_triple_49 rfl ?_
            refine r_iremN hC dX6_triple_50 (by omega) (by omega) ?_
            refine r_goto (tgt := 57) hC dX6_triple_51 rfl ?_
            exact J57_8 (((v2 / 4) % 4))  (by omega) 
        · refine r_iload_n hC dX6_triple_34 rfl ?_
          refine r_bipush hC dX6_triple_35 rfl ?_
          refine r_idivN hC dX6_triple_37 (by omega) (by omega) ?_
          refine r_goto (tgt := 57) hC dX6_triple_38 rfl ?_
          exact J57_8 ((v2 / 16))  (by omega) 
      · refine r_if_ne (tgt := 30) hC dX6_triple_25 rfl (fun h11 => by omega) (fun h11 => ?_)
        refine r_iconst hC dX6_triple_28 rfl ?_
        refine y_iret hK rfl dX6_triple_29 ?_
        exact k _ (by omega)
  · refine r_aload_n hC dX6_triple_5 rfl ?_
    refine z_inv0 hM dX6_triple_6 vl_RX6_94 rfl rfl rfl (Nat.le_of_ble_eq_true rfl) (Nat.le_of_ble_eq_true rfl) ?_
    refine m_countAssociating (fun v12 h_v12 => ?_)
    refine y_iret hK rfl dX6_triple_9 ?_
    exact k _ (by omega)
theorem m_isSuch {e : Ev} {d : Nat} {P : Option Vl → Mm → Prop} {σ : Mm} {x w : Int} (b_x : 0 ≤ x ∧ x ≤ 3)  (k : ∀ r : Int, 0 ≤ r ∧ r ≤ 1 → P (some (vI r)) σ) : WT e (d + 2) 150 [vR 30 0, vI x, vI w] σ P := by
  refine WT_in fun K hK => ?_
  have hK : StpY e cX6_isSuch RX6 (some .boolean) (WT e (d + 1)) P K := hK
  have hM := hK.1
  have hC := hK.1.1
  show K 0 [some (vR 30 0), some (vI x), some (vI w), none, none] [] σ
  refine r_rngz hC (fun g0 => ?_)
  have r_w : -2147483648 ≤ w ∧ w ≤ 2147483647 := inR_le (g0 (vI w) (by simp))
  refine r_iconst hC dX6_isSuch_0 rfl ?_
  refine r_istore_n hC dX6_isSuch_1 rfl ?_
  have L2 : ∀ (n2 : Nat) (w1 : Int), 0 ≤ w1 ∧ w1 ≤ 4 → 4 - w1 < (n2 : Int) → K 2 [some (vR 30 0), some (vI x), some (vI w), some (vI w1), none] [] σ := by
    intro n2
    induction n2 with
    | zero => intro w1  f_w1  hm ; omega
    | succ n2 ih2 =>
      intro w1  f_w1  hm2 
      refine r_iload_n hC dX6_isSuch_2 rfl ?_
      refine r_iconst hC dX6_isSuch_3 rfl ?_
      refine r_icmp_ge (tgt := 48) hC dX6_isSuch_4 rfl (fun h2 => ?_) (fun h2 => ?_)
      · refine r_iconst hC dX6_isSuch_48 rfl ?_
        refine y_zret hK rfl dX6_isSuch_49 (by omega) ?_
        exact k _ (by omega)
      · refine r_iload_n hC dX6_isSuch_7 rfl ?_
        have J16_4 : ∀ (w4 : Int), 0 ≤ w4 ∧ w4 ≤ 3 → K 16 [some (vR 30 0), some (vI x), some (vI w), some (vI w1), none] [vI w4] σ := by
          intro w4  f_w4 
          refine r_istore hC dX6_isSuch_16 rfl ?_
          refine r_aload_n hC dX6_isSuch_18 rfl ?_
          refine r_iload_n hC dX6_isSuch_19 rfl ?_
          refine r_iload_n hC dX6_isSuch_20 rfl ?_
          refine z_inv2 hM dX6_isSuch_21 vl_RX6_88 rfl rfl rfl (Nat.le_of_ble_eq_true rfl) (Nat.le_of_ble_eq_true rfl) ?_
          refine m_product (by omega) (by omega) (fun v6 h_v6 => ?_)
          refine r_iload hC dX6_isSuch_24 rfl ?_
          refine r_icmp_ne (tgt := 40) hC dX6_isSuch_26 rfl (fun h7 => ?_) (fun h7 => ?_)
          · refine r_iconst hC dX6_isSuch_40 rfl ?_
            refine y_zret hK rfl dX6_isSuch_41 (by omega) ?_
            exact k _ (by omega)
          · refine r_aload_n hC dX6_isSuch_29 rfl ?_
            refine r_iload_n hC dX6_isSuch_30 rfl ?_
            refine r_iload_n hC dX6_isSuch_31 rfl ?_
            refine z_inv2 hM dX6_isSuch_32 vl_RX6_88 rfl rfl rfl (Nat.le_of_ble_eq_true rfl) (Nat.le_of_ble_eq_true rfl) ?_
            refine m_product (by omega) (by omega) (fun v8 h_v8 => ?_)
            refine r_iload hC dX6_isSuch_35 rfl ?_
            refine r_icmp_eq (tgt := 42) hC dX6_isSuch_37 rfl (fun h9 => ?_) (fun h9 => ?_)
            · refine r_iincE hC ((w1 + 1)) dX6_isSuch_42 rfl rfl (by omega) (by unfold inR; omega) ?_
              refine r_goto (tgt := 2) hC dX6_isSuch_45 rfl ?_
              refine r_forget hC (ls2 := [some (vR 30 0), some (vI x), some (vI w), some (vI (w1 + 1)), none]) (lsub_some (lsub_some (lsub_some (lsub_some (lsub_none lsub_nil))))) ?_
              exact ih2 ((w1 + 1))  (by omega)  (by omega) 
            · refine r_iconst hC dX6_isSuch_40 rfl ?_
              refine y_zret hK rfl dX6_isSuch_41 (by omega) ?_
              exact k _ (by omega)
        refine r_if_ne (tgt := 15) hC dX6_isSuch_8 rfl (fun h3 => ?_) (fun h3 => ?_)
        · refine r_iload_n hC dX6_isSuch_15 rfl ?_
          exact J16_4 (x)  (by omega) 
        · refine r_iload_n hC dX6_isSuch_11 rfl ?_
          refine r_goto (tgt := 16) hC dX6_isSuch_12 rfl ?_
          exact J16_4 (w1)  (by omega) 
  exact L2 6 (0)  (by omega)  (by omega) 
theorem m_element {e : Ev} {d : Nat} {P : Option Vl → Mm → Prop} {σ : Mm} {w : Int}   (k : ∀ r : Int, -2147483648 ≤ r ∧ r ≤ 2147483647 → P (some (vI r)) σ) : WT e (d + 3) 151 [vR 30 0, vI w] σ P := by
  refine WT_in fun K hK => ?_
  have hK : StpY e cX6_element RX6 (some .int) (WT e (d + 2)) P K := hK
  have hM := hK.1
  have hC := hK.1.1
  show K 0 [some (vR 30 0), some (vI w), none, none] [] σ
  refine r_rngz hC (fun g0 => ?_)
  have r_w : -2147483648 ≤ w ∧ w ≤ 2147483647 := inR_le (g0 (vI w) (by simp))
  refine r_iload_n hC dX6_element_0 rfl ?_
  refine r_iconst hC dX6_element_1 rfl ?_
  refine r_iconst hC dX6_element_2 rfl ?_
  refine z_ins3 hM dX6_element_3 tl_RX6_76 rfl (Nat.le_of_ble_eq_true rfl) (Nat.le_of_ble_eq_true rfl) ?_
  refine m_isIn (fun h2 => ?_) (fun h2 => ?_)
  · refine r_if_eq (tgt := 35) hC dX6_element_6 rfl (fun h3 => by omega) (fun h3 => ?_)
    refine r_iconst hC dX6_element_9 rfl ?_
    refine r_istore_n hC dX6_element_10 rfl ?_
    have L11 : ∀ (n11 : Nat) (w4 : Int), 0 ≤ w4 ∧ w4 ≤ 4 → 4 - w4 < (n11 : Int) → K 11 [some (vR 30 0), some (vI w), some (vI w4), none] [] σ := by
      intro n11
      induction n11 with
      | zero => intro w4  f_w4  hm ; omega
      | succ n11 ih11 =>
        intro w4  f_w4  hm11 
        refine r_iload_n hC dX6_element_11 rfl ?_
        refine r_iconst hC dX6_element_12 rfl ?_
        refine r_icmp_ge (tgt := 33) hC dX6_element_13 rfl (fun h5 => ?_) (fun h5 => ?_)
        · refine r_iconst hC dX6_element_33 rfl ?_
          refine y_iret hK rfl dX6_element_34 ?_
          exact k _ (by omega)
        · refine r_aload_n hC dX6_element_16 rfl ?_
          refine r_iload_n hC dX6_element_17 rfl ?_
          refine r_iload_n hC dX6_element_18 rfl ?_
          refine z_inv2 hM dX6_element_19 vl_RX6_101 rfl rfl rfl (Nat.le_of_ble_eq_true rfl) (Nat.le_of_ble_eq_true rfl) ?_
          refine m_isSuch (by omega) (fun v6 h_v6 => ?_)
          refine r_if_eq (tgt := 27) hC dX6_element_22 rfl (fun h7 => ?_) (fun h7 => ?_)
          · refine r_iincE hC ((w4 + 1)) dX6_element_27 rfl rfl (by omega) (by unfold inR; omega) ?_
            refine r_goto (tgt := 11) hC dX6_element_30 rfl ?_
            exact ih11 ((w4 + 1))  (by omega)  (by omega) 
          · refine r_iload_n hC dX6_element_25 rfl ?_
            refine y_iret hK rfl dX6_element_26 ?_
            exact k _ (by omega)
    exact L11 6 (0)  (by omega)  (by omega) 
  · refine r_if_eq (tgt := 35) hC dX6_element_6 rfl (fun h8 => ?_) (fun h8 => by omega)
    refine r_iconst hC dX6_element_35 rfl ?_
    refine r_istore_n hC dX6_element_36 rfl ?_
    refine r_iload_n hC dX6_element_37 rfl ?_
    refine r_iconst hC dX6_element_38 rfl ?_
    refine r_icmp_ne (tgt := 75) hC dX6_element_39 rfl (fun h9 => ?_) (fun h9 => ?_)
    · refine r_iload_n hC dX6_element_75 rfl ?_
      refine r_iconst hC dX6_element_76 rfl ?_
      refine r_icmp_eq (tgt := 82) hC dX6_element_77 rfl (fun h10 => ?_) (fun h10 => ?_)
      · refine r_iconst hC dX6_element_82 rfl ?_
        refine r_istore_n hC dX6_element_83 rfl ?_
        have L84 : ∀ (n84 : Nat) (w11 w12 : Int), -2147483648 ≤ w11 ∧ w11 ≤ 2147483647 → 0 ≤ w12 ∧ w12 ≤ 16 → 16 - w12 < (n84 : Int) → K 84 [some (vR 30 0), some (vI w), some (vI w11), some (vI w12)] [] σ := by
          intro n84
          induction n84 with
          | zero => intro w11 w12  f_w11 f_w12  hm ; omega
          | succ n84 ih84 =>
            intro w11 w12  f_w11 f_w12  hm84 
            refine r_iload_n hC dX6_element_84 rfl ?_
            refine r_bipush hC dX6_element_85 rfl ?_
            refine r_icmp_ge (tgt := 127) hC dX6_element_87 rfl (fun h13 => ?_) (fun h13 => ?_)
            · refine r_iload_n hC dX6_element_127 rfl ?_
              refine y_iret hK rfl dX6_element_128 ?_
              exact k _ (by omega)
            · refine r_iload_n hC dX6_element_90 rfl ?_
              refine r_aload_n hC dX6_element_91 rfl ?_
              refine r_iload_n hC dX6_element_92 rfl ?_
              refine r_iconst hC dX6_element_93 rfl ?_
              refine r_idivN hC dX6_element_94 (by omega) (by omega) ?_
              refine r_iload_n hC dX6_element_95 rfl ?_
              refine r_iconst hC dX6_element_96 rfl ?_
              refine r_iremN hC dX6_element_97 (by omega) (by omega) ?_
              refine z_inv2 hM dX6_element_98 vl_RX6_88 rfl rfl rfl (Nat.le_of_ble_eq_true rfl) (Nat.le_of_ble_eq_true rfl) ?_
              refine m_product (by omega) (by omega) (fun v14 h_v14 => ?_)
              refine r_aload_n hC dX6_element_101 rfl ?_
              refine r_iload_n hC dX6_element_102 rfl ?_
              refine r_iconst hC dX6_element_103 rfl ?_
              refine r_iremN hC dX6_element_104 (by omega) (by omega) ?_
              refine r_iload_n hC dX6_element_105 rfl ?_
              refine r_iconst hC dX6_element_106 rfl ?_
              refine r_idivN hC dX6_element_107 (by omega) (by omega) ?_
              refine z_inv2 hM dX6_element_108 vl_RX6_88 rfl rfl rfl (Nat.le_of_ble_eq_true rfl) (Nat.le_of_ble_eq_true rfl) ?_
              refine m_product (by omega) (by omega) (fun v15 h_v15 => ?_)
              have J119_17 : ∀ (w17 : Int), 0 ≤ w17 ∧ w17 ≤ 1 → K 119 [some (vR 30 0), some (vI w), some (vI w11), some (vI w12)] [vI w17, vI w11] σ := by
                intro w17  f_w17 
                refine r_iaddG hC dX6_element_119 (fun v19 h_v19 => ?_)
                refine r_istore_n hC dX6_element_120 rfl ?_
                refine r_iincE hC ((w12 + 1)) dX6_element_121 rfl rfl (by omega) (by unfold inR; omega) ?_
                refine r_goto (tgt := 84) hC dX6_element_124 rfl ?_
                exact ih84 (v19) ((w12 + 1))  (by omega) (by omega)  (by omega) 
              refine r_icmp_ne (tgt := 118) hC dX6_element_111 rfl (fun h16 => ?_) (fun h16 => ?_)
              · refine r_iconst hC dX6_element_118 rfl ?_
                exact J119_17 (0)  (by omega) 
              · refine r_iconst hC dX6_element_114 rfl ?_
                refine r_goto (tgt := 119) hC dX6_element_115 rfl ?_
                exact J119_17 (1)  (by omega) 
        exact L84 18 (0) (0)  (by omega) (by omega)  (by omega) 
      · refine r_iconst hC dX6_element_80 rfl ?_
        refine y_iret hK rfl dX6_element_81 ?_
        exact k _ (by omega)
    · refine r_iconst hC dX6_element_42 rfl ?_
      refine r_istore_n hC dX6_element_43 rfl ?_
      have L44 : ∀ (n44 : Nat) (w20 w21 : Int), -2147483648 ≤ w20 ∧ w20 ≤ 2147483647 → 0 ≤ w21 ∧ w21 ≤ 4 → 4 - w21 < (n44 : Int) → K 44 [some (vR 30 0), some (vI w), some (vI w20), some (vI w21)] [] σ := by
        intro n44
        induction n44 with
        | zero => intro w20 w21  f_w20 f_w21  hm ; omega
        | succ n44 ih44 =>
          intro w20 w21  f_w20 f_w21  hm44 
          refine r_iload_n hC dX6_element_44 rfl ?_
          refine r_iconst hC dX6_element_45 rfl ?_
          refine r_icmp_ge (tgt := 73) hC dX6_element_46 rfl (fun h22 => ?_) (fun h22 => ?_)
          · refine r_iload_n hC dX6_element_73 rfl ?_
            refine y_iret hK rfl dX6_element_74 ?_
            exact k _ (by omega)
          · refine r_iload_n hC dX6_element_49 rfl ?_
            refine r_aload_n hC dX6_element_50 rfl ?_
            refine r_iload_n hC dX6_element_51 rfl ?_
            refine r_iload_n hC dX6_element_52 rfl ?_
            refine z_inv2 hM dX6_element_53 vl_RX6_88 rfl rfl rfl (Nat.le_of_ble_eq_true rfl) (Nat.le_of_ble_eq_true rfl) ?_
            refine m_product (by omega) (by omega) (fun v23 h_v23 => ?_)
            refine r_iload_n hC dX6_element_56 rfl ?_
            have J65_25 : ∀ (w25 : Int), 0 ≤ w25 ∧ w25 ≤ 1 → K 65 [some (vR 30 0), some (vI w), some (vI w20), some (vI w21)] [vI w25, vI w20] σ := by
              intro w25  f_w25 
              refine r_iaddG hC dX6_element_65 (fun v27 h_v27 => ?_)
              refine r_istore_n hC dX6_element_66 rfl ?_
              refine r_iincE hC ((w21 + 1)) dX6_element_67 rfl rfl (by omega) (by unfold inR; omega) ?_
              refine r_goto (tgt := 44) hC dX6_element_70 rfl ?_
              exact ih44 (v27) ((w21 + 1))  (by omega) (by omega)  (by omega) 
            refine r_icmp_ne (tgt := 64) hC dX6_element_57 rfl (fun h24 => ?_) (fun h24 => ?_)
            · refine r_iconst hC dX6_element_64 rfl ?_
              exact J65_25 (0)  (by omega) 
            · refine r_iconst hC dX6_element_60 rfl ?_
              refine r_goto (tgt := 65) hC dX6_element_61 rfl ?_
              exact J65_25 (1)  (by omega) 
      exact L44 6 (0) (0)  (by omega) (by omega)  (by omega) 
theorem m_howMany {e : Ev} {d : Nat} {P : Option Vl → Mm → Prop} {σ : Mm} {o : Int}   (k : ∀ r : Int, 1 ≤ r ∧ r ≤ 7 → P (some (vI r)) σ) : WT e (d + 1) 156 [vI o] σ P := by
  refine WT_in fun K hK => ?_
  have hK : StpY e cX6_howMany RX6 (some .int) (WT e (d + 0)) P K := hK
  have hM := hK.1
  have hC := hK.1.1
  show K 0 [some (vI o)] [] σ
  refine r_rngz hC (fun g0 => ?_)
  have r_o : -2147483648 ≤ o ∧ o ≤ 2147483647 := inR_le (g0 (vI o) (by simp))
  refine r_iload_n hC dX6_howMany_0 rfl ?_
  rcases (by omega : (o < 0 ∨ 8 < o) ∨ o = 0 ∨ o = 1 ∨ o = 2 ∨ o = 3 ∨ o = 4 ∨ o = 5 ∨ o = 6 ∨ o = 7 ∨ o = 8) with h1 | h1 | h1 | h1 | h1 | h1 | h1 | h1 | h1 | h1
  · refine r_tableOut (tgt := 71) hC dX6_howMany_1 h1 rfl ?_
    refine r_iconst hC dX6_howMany_71 rfl ?_
    refine y_iret hK rfl dX6_howMany_72 ?_
    exact k _ (by omega)
  · refine r_tableIn (tgt := 52) (off := 51) hC dX6_howMany_1 (by omega) (by omega) (by rw [h1]; rfl) rfl ?_
    refine r_iconst hC dX6_howMany_52 rfl ?_
    refine y_iret hK rfl dX6_howMany_53 ?_
    exact k _ (by omega)
  · refine r_tableIn (tgt := 54) (off := 53) hC dX6_howMany_1 (by omega) (by omega) (by rw [h1]; rfl) rfl ?_
    refine r_iconst hC dX6_howMany_54 rfl ?_
    refine y_iret hK rfl dX6_howMany_55 ?_
    exact k _ (by omega)
  · refine r_tableIn (tgt := 56) (off := 55) hC dX6_howMany_1 (by omega) (by omega) (by rw [h1]; rfl) rfl ?_
    refine r_iconst hC dX6_howMany_56 rfl ?_
    refine y_iret hK rfl dX6_howMany_57 ?_
    exact k _ (by omega)
  · refine r_tableIn (tgt := 58) (off := 57) hC dX6_howMany_1 (by omega) (by omega) (by rw [h1]; rfl) rfl ?_
    refine r_iconst hC dX6_howMany_58 rfl ?_
    refine y_iret hK rfl dX6_howMany_59 ?_
    exact k _ (by omega)
  · refine r_tableIn (tgt := 60) (off := 59) hC dX6_howMany_1 (by omega) (by omega) (by rw [h1]; rfl) rfl ?_
    refine r_iconst hC dX6_howMany_60 rfl ?_
    refine y_iret hK rfl dX6_howMany_61 ?_
    exact k _ (by omega)
  · refine r_tableIn (tgt := 62) (off := 61) hC dX6_howMany_1 (by omega) (by omega) (by rw [h1]; rfl) rfl ?_
    refine r_iconst hC dX6_howMany_62 rfl ?_
    refine y_iret hK rfl dX6_howMany_63 ?_
    exact k _ (by omega)
  · refine r_tableIn (tgt := 64) (off := 63) hC dX6_howMany_1 (by omega) (by omega) (by rw [h1]; rfl) rfl ?_
    refine r_bipush hC dX6_howMany_64 rfl ?_
    refine y_iret hK rfl dX6_howMany_66 ?_
    exact k _ (by omega)
  · refine r_tableIn (tgt := 67) (off := 66) hC dX6_howMany_1 (by omega) (by omega) (by rw [h1]; rfl) rfl ?_
    refine r_iconst hC dX6_howMany_67 rfl ?_
    refine y_iret hK rfl dX6_howMany_68 ?_
    exact k _ (by omega)
  · refine r_tableIn (tgt := 69) (off := 68) hC dX6_howMany_1 (by omega) (by omega) (by rw [h1]; rfl) rfl ?_
    refine r_iconst hC dX6_howMany_69 rfl ?_
    refine y_iret hK rfl dX6_howMany_70 ?_
    exact k _ (by omega)
theorem m_isNumber {e : Ev} {d : Nat} {P : Option Vl → Mm → Prop} {σ : Mm} {l w : Int}   (k1 : 0 ≤ l ∧ l ≤ 3 ∧ 0 ≤ w ∧ w ≤ 6 → P (some (vI 1)) σ) (k0 : P (some (vI 0)) σ) : WT e (d + 3) 157 [vR 30 0, vI l, vI w] σ P := by
  refine WT_in fun K hK => ?_
  have hK : StpY e cX6_isNumber RX6 (some .boolean) (WT e (d + 2)) P K := hK
  have hM := hK.1
  have hC := hK.1.1
  show K 0 [some (vR 30 0), some (vI l), some (vI w)] [] σ
  refine r_rngz hC (fun g0 => ?_)
  have r_l : -2147483648 ≤ l ∧ l ≤ 2147483647 := inR_le (g0 (vI l) (by simp))
  have r_w : -2147483648 ≤ w ∧ w ≤ 2147483647 := inR_le (g0 (vI w) (by simp))
  refine r_aload_n hC dX6_isNumber_0 rfl ?_
  refine r_iload_n hC dX6_isNumber_1 rfl ?_
  refine z_inv1 hM dX6_isNumber_2 vl_RX6_124 rfl rfl rfl (Nat.le_of_ble_eq_true rfl) (Nat.le_of_ble_eq_true rfl) ?_
  refine m_isLane (fun h1 => ?_) ?_
  · refine r_if_eq (tgt := 31) hC dX6_isNumber_5 rfl (fun h2 => by omega) (fun h2 => ?_)
    refine r_iload_n hC dX6_isNumber_8 rfl ?_
    refine r_iconst hC dX6_isNumber_9 rfl ?_
    refine r_aload_n hC dX6_isNumber_10 rfl ?_
    refine r_iload_n hC dX6_isNumber_11 rfl ?_
    refine r_iconst hC dX6_isNumber_12 rfl ?_
    refine z_inv2 hM dX6_isNumber_13 vl_RX6_80 rfl rfl rfl (Nat.le_of_ble_eq_true rfl) (Nat.le_of_ble_eq_true rfl) ?_
    refine m_of (by omega) (by omega) (fun v3 h_v3 h5_v3 h0_v3 t_v3 => ?_)
    refine z_ins1 hM dX6_isNumber_16 tl_RX6_127 rfl (Nat.le_of_ble_eq_true rfl) (Nat.le_of_ble_eq_true rfl) ?_
    refine m_howMany (fun v4 h_v4 => ?_)
    refine r_iconst hC dX6_isNumber_19 rfl ?_
    refine r_isubE hC ((v4 - 1)) dX6_isNumber_20 (by omega) (by unfold inR; omega) ?_
    refine z_ins3 hM dX6_isNumber_21 tl_RX6_76 rfl (Nat.le_of_ble_eq_true rfl) (Nat.le_of_ble_eq_true rfl) ?_
    refine m_isIn (fun h6 => ?_) (fun h6 => ?_)
    · refine r_if_eq (tgt := 31) hC dX6_isNumber_24 rfl (fun h7 => by omega) (fun h7 => ?_)
      refine r_iconst hC dX6_isNumber_27 rfl ?_
      refine r_goto (tgt := 32) hC dX6_isNumber_28 rfl ?_
      refine y_zret hK rfl dX6_isNumber_32 (by omega) ?_
      exact k1 (by omega)
    · refine r_if_eq (tgt := 31) hC dX6_isNumber_24 rfl (fun h8 => ?_) (fun h8 => by omega)
      refine r_iconst hC dX6_isNumber_31 rfl ?_
      refine y_zret hK rfl dX6_isNumber_32 (by omega) ?_
      exact k0
  · refine r_if_eq (tgt := 31) hC dX6_isNumber_5 rfl (fun h9 => ?_) (fun h9 => by omega)
    refine r_iconst hC dX6_isNumber_31 rfl ?_
    refine y_zret hK rfl dX6_isNumber_32 (by omega) ?_
    exact k0
theorem m_isEvent {e : Ev} {d : Nat} {P : Option Vl → Mm → Prop} {σ : Mm} {l x : Int}   (k1 : 0 ≤ l ∧ l ≤ 3 ∧ 0 ≤ x ∧ x ≤ 120 → (e.1 = true → x < σ 31 0 (22 * l + 5)) → P (some (vI 1)) σ) (k0 : P (some (vI 0)) σ) : WT e (d + 3) 209 [vR 30 0, vI l, vI x] σ P := by
  refine WT_in fun K hK => ?_
  have hK : StpY e cX6_isEvent RX6 (some .boolean) (WT e (d + 2)) P K := hK
  have hM := hK.1
  have hC := hK.1.1
  show K 0 [some (vR 30 0), some (vI l), some (vI x)] [] σ
  refine r_rngz hC (fun g0 => ?_)
  have r_l : -2147483648 ≤ l ∧ l ≤ 2147483647 := inR_le (g0 (vI l) (by simp))
  have r_x : -2147483648 ≤ x ∧ x ≤ 2147483647 := inR_le (g0 (vI x) (by simp))
  refine r_aload_n hC dX6_isEvent_0 rfl ?_
  refine r_iload_n hC dX6_isEvent_1 rfl ?_
  refine z_inv1 hM dX6_isEvent_2 vl_RX6_124 rfl rfl rfl (Nat.le_of_ble_eq_true rfl) (Nat.le_of_ble_eq_true rfl) ?_
  refine m_isLane (fun h1 => ?_) ?_
  · refine r_if_eq (tgt := 27) hC dX6_isEvent_5 rfl (fun h2 => by omega) (fun h2 => ?_)
    refine r_iload_n hC dX6_isEvent_8 rfl ?_
    refine r_iconst hC dX6_isEvent_9 rfl ?_
    refine r_aload_n hC dX6_isEvent_10 rfl ?_
    refine r_iload_n hC dX6_isEvent_11 rfl ?_
    refine z_inv1 hM dX6_isEvent_12 vl_RX6_116 rfl rfl rfl (Nat.le_of_ble_eq_true rfl) (Nat.le_of_ble_eq_true rfl) ?_
    refine m_heldOf (by omega) (fun v3 h_v3 t_v3 => ?_)
    refine r_iconst hC dX6_isEvent_15 rfl ?_
    refine r_isubE hC ((v3 - 1)) dX6_isEvent_16 (by omega) (by unfold inR; omega) ?_
    refine z_ins3 hM dX6_isEvent_17 tl_RX6_76 rfl (Nat.le_of_ble_eq_true rfl) (Nat.le_of_ble_eq_true rfl) ?_
    refine m_isIn (fun h5 => ?_) (fun h5 => ?_)
    · refine r_if_eq (tgt := 27) hC dX6_isEvent_20 rfl (fun h6 => by omega) (fun h6 => ?_)
      refine r_iconst hC dX6_isEvent_23 rfl ?_
      refine r_goto (tgt := 28) hC dX6_isEvent_24 rfl ?_
      refine y_zret hK rfl dX6_isEvent_28 (by omega) ?_
      exact k1 (by omega) (fun he => by have := t_v3 he; omega)
    · refine r_if_eq (tgt := 27) hC dX6_isEvent_20 rfl (fun h7 => ?_) (fun h7 => by omega)
      refine r_iconst hC dX6_isEvent_27 rfl ?_
      refine y_zret hK rfl dX6_isEvent_28 (by omega) ?_
      exact k0
  · refine r_if_eq (tgt := 27) hC dX6_isEvent_5 rfl (fun h8 => ?_) (fun h8 => by omega)
    refine r_iconst hC dX6_isEvent_27 rfl ?_
    refine y_zret hK rfl dX6_isEvent_28 (by omega) ?_
    exact k0
theorem m_isTold {e : Ev} {d : Nat} {P : Option Vl → Mm → Prop} {σ : Mm} {v : Int}   (k1 : 0 ≤ v ∧ v ≤ 7 → P (some (vI 1)) σ) (k0 : P (some (vI 0)) σ) : WT e (d + 2) 183 [vR 30 0, vI v] σ P := by
  refine WT_in fun K hK => ?_
  have hK : StpY e cX6_isTold RX6 (some .boolean) (WT e (d + 1)) P K := hK
  have hM := hK.1
  have hC := hK.1.1
  show K 0 [some (vR 30 0), some (vI v)] [] σ
  refine r_rngz hC (fun g0 => ?_)
  have r_v : -2147483648 ≤ v ∧ v ≤ 2147483647 := inR_le (g0 (vI v) (by simp))
  refine r_iload_n hC dX6_isTold_0 rfl ?_
  refine r_iconst hC dX6_isTold_1 rfl ?_
  refine r_bipush hC dX6_isTold_2 rfl ?_
  refine z_ins3 hM dX6_isTold_4 tl_RX6_76 rfl (Nat.le_of_ble_eq_true rfl) (Nat.le_of_ble_eq_true rfl) ?_
  refine m_isIn (fun h2 => ?_) (fun h2 => ?_)
  · refine r_if_eq (tgt := 23) hC dX6_isTold_7 rfl (fun h3 => by omega) (fun h3 => ?_)
    refine r_aload_n hC dX6_isTold_10 rfl ?_
    refine z_getR hM dX6_isTold_11 fl_RX6_34 rfl rfl (vld_of (n := 1) rfl (by omega) (by omega)) ?_
    refine r_iload_n hC dX6_isTold_14 rfl ?_
    refine z_iald hM dX6_isTold_15 rfl (by omega) (by omega) (fun v4 h_v4 o_v4 t_v4 => ?_)
    refine r_if_lt (tgt := 23) hC dX6_isTold_16 rfl (fun h5 => ?_) (fun h5 => ?_)
    · refine r_iconst hC dX6_isTold_23 rfl ?_
      refine y_zret hK rfl dX6_isTold_24 (by omega) ?_
      exact k0
    · refine r_iconst hC dX6_isTold_19 rfl ?_
      refine r_goto (tgt := 24) hC dX6_isTold_20 rfl ?_
      refine y_zret hK rfl dX6_isTold_24 (by omega) ?_
      exact k1 (by omega)
  · refine r_if_eq (tgt := 23) hC dX6_isTold_7 rfl (fun h6 => ?_) (fun h6 => by omega)
    refine r_iconst hC dX6_isTold_23 rfl ?_
    refine y_zret hK rfl dX6_isTold_24 (by omega) ?_
    exact k0
theorem m_areAlike {e : Ev} {d : Nat} {P : Option Vl → Mm → Prop} {σ : Mm} {l o : Int}   (k1 : 0 ≤ l ∧ l ≤ 3 ∧ 0 ≤ o ∧ o ≤ 3 → P (some (vI 1)) σ) (k0 : P (some (vI 0)) σ) : WT e (d + 3) 231 [vR 30 0, vI l, vI o] σ P := by
  refine WT_in fun K hK => ?_
  have hK : StpY e cX6_areAlike RX6 (some .boolean) (WT e (d + 2)) P K := hK
  have hM := hK.1
  have hC := hK.1.1
  show K 0 [some (vR 30 0), some (vI l), some (vI o)] [] σ
  refine r_rngz hC (fun g0 => ?_)
  have r_l : -2147483648 ≤ l ∧ l ≤ 2147483647 := inR_le (g0 (vI l) (by simp))
  have r_o : -2147483648 ≤ o ∧ o ≤ 2147483647 := inR_le (g0 (vI o) (by simp))
  refine r_aload_n hC dX6_areAlike_0 rfl ?_
  refine r_iload_n hC dX6_areAlike_1 rfl ?_
  refine z_inv1 hM dX6_areAlike_2 vl_RX6_124 rfl rfl rfl (Nat.le_of_ble_eq_true rfl) (Nat.le_of_ble_eq_true rfl) ?_
  refine m_isLane (fun h1 => ?_) ?_
  · refine r_if_eq (tgt := 35) hC dX6_areAlike_5 rfl (fun h2 => by omega) (fun h2 => ?_)
    refine r_aload_n hC dX6_areAlike_8 rfl ?_
    refine r_iload_n hC dX6_areAlike_9 rfl ?_
    refine z_inv1 hM dX6_areAlike_10 vl_RX6_124 rfl rfl rfl (Nat.le_of_ble_eq_true rfl) (Nat.le_of_ble_eq_true rfl) ?_
    refine m_isLane (fun h3 => ?_) ?_
    · refine r_if_eq (tgt := 35) hC dX6_areAlike_13 rfl (fun h4 => by omega) (fun h4 => ?_)
      refine r_aload_n hC dX6_areAlike_16 rfl ?_
      refine r_iload_n hC dX6_areAlike_17 rfl ?_
      refine r_iconst hC dX6_areAlike_18 rfl ?_
      refine z_inv2 hM dX6_areAlike_19 vl_RX6_80 rfl rfl rfl (Nat.le_of_ble_eq_true rfl) (Nat.le_of_ble_eq_true rfl) ?_
      refine m_of (by omega) (by omega) (fun v5 h_v5 h5_v5 h0_v5 t_v5 => ?_)
      refine r_aload_n hC dX6_areAlike_22 rfl ?_
      refine r_iload_n hC dX6_areAlike_23 rfl ?_
      refine r_iconst hC dX6_areAlike_24 rfl ?_
      refine z_inv2 hM dX6_areAlike_25 vl_RX6_80 rfl rfl rfl (Nat.le_of_ble_eq_true rfl) (Nat.le_of_ble_eq_true rfl) ?_
      refine m_of (by omega) (by omega) (fun v6 h_v6 h5_v6 h0_v6 t_v6 => ?_)
      refine r_icmp_ne (tgt := 35) hC dX6_areAlike_28 rfl (fun h7 => ?_) (fun h7 => ?_)
      · refine r_iconst hC dX6_areAlike_35 rfl ?_
        refine y_zret hK rfl dX6_areAlike_36 (by omega) ?_
        exact k0
      · refine r_iconst hC dX6_areAlike_31 rfl ?_
        refine r_goto (tgt := 36) hC dX6_areAlike_32 rfl ?_
        refine y_zret hK rfl dX6_areAlike_36 (by omega) ?_
        exact k1 (by omega)
    · refine r_if_eq (tgt := 35) hC dX6_areAlike_13 rfl (fun h8 => ?_) (fun h8 => by omega)
      refine r_iconst hC dX6_areAlike_35 rfl ?_
      refine y_zret hK rfl dX6_areAlike_36 (by omega) ?_
      exact k0
  · refine r_if_eq (tgt := 35) hC dX6_areAlike_5 rfl (fun h9 => ?_) (fun h9 => by omega)
    refine r_iconst hC dX6_areAlike_35 rfl ?_
    refine y_zret hK rfl dX6_areAlike_36 (by omega) ?_
    exact k0
theorem m_isReached {e : Ev} {d : Nat} {P : Option Vl → Mm → Prop} {σ : Mm} {a b : Int}   (k : ∀ r : Int, 0 ≤ r ∧ r ≤ 1 → P (some (vI r)) σ) : WT e (d + 1) 173 [vI a, vI b] σ P := by
  refine WT_in fun K hK => ?_
  have hK : StpY e cX6_isReached RX6 (some .boolean) (WT e (d + 0)) P K := hK
  have hM := hK.1
  have hC := hK.1.1
  show K 0 [some (vI a), some (vI b)] [] σ
  refine r_rngz hC (fun g0 => ?_)
  have r_a : -2147483648 ≤ a ∧ a ≤ 2147483647 := inR_le (g0 (vI a) (by simp))
  have r_b : -2147483648 ≤ b ∧ b ≤ 2147483647 := inR_le (g0 (vI b) (by simp))
  refine r_iload_n hC dX6_isReached_0 rfl ?_
  refine r_ldc hC dX6_isReached_1 co_RX6_160 rfl ?_
  have J16_2 : ∀ (w2 : Int), 0 ≤ w2 ∧ w2 ≤ 1 → K 16 [some (vI a), some (vI b)] [vI w2] σ := by
    intro w2  f_w2 
    refine y_zret hK rfl dX6_isReached_16 (by omega) ?_
    exact k _ (by omega)
  refine r_icmp_eq (tgt := 15) hC dX6_isReached_3 rfl (fun h1 => ?_) (fun h1 => ?_)
  · refine r_iconst hC dX6_isReached_15 rfl ?_
    exact J16_2 (0)  (by omega) 
  · refine r_iload_n hC dX6_isReached_6 rfl ?_
    refine r_iload_n hC dX6_isReached_7 rfl ?_
    refine r_icmp_lt (tgt := 15) hC dX6_isReached_8 rfl (fun h4 => ?_) (fun h4 => ?_)
    · refine r_iconst hC dX6_isReached_15 rfl ?_
      exact J16_2 (0)  (by omega) 
    · refine r_iconst hC dX6_isReached_11 rfl ?_
      refine r_goto (tgt := 16) hC dX6_isReached_12 rfl ?_
      exact J16_2 (1)  (by omega) 
theorem m_bits {e : Ev} {d : Nat} {P : Option Vl → Mm → Prop} {σ : Mm} {a : Int}   (k : ∀ r : Int, -2147483648 ≤ r ∧ r ≤ 2147483647 → P (some (vI r)) σ) : WT e (d + 1) 166 [vI a] σ P := by
  refine WT_in fun K hK => ?_
  have hK : StpY e cX6_bits RX6 (some .int) (WT e (d + 0)) P K := hK
  have hM := hK.1
  have hC := hK.1.1
  show K 0 [some (vI a), none, none] [] σ
  refine r_rngz hC (fun g0 => ?_)
  have r_a : -2147483648 ≤ a ∧ a ≤ 2147483647 := inR_le (g0 (vI a) (by simp))
  refine r_iconst hC dX6_bits_0 rfl ?_
  refine r_istore_n hC dX6_bits_1 rfl ?_
  refine r_iconst hC dX6_bits_2 rfl ?_
  refine r_istore_n hC dX6_bits_3 rfl ?_
  have L4 : ∀ (n4 : Nat) (w1 w2 : Int), -2147483648 ≤ w1 ∧ w1 ≤ 2147483647 → 0 ≤ w2 ∧ w2 ≤ 4 → 4 - w2 < (n4 : Int) → K 4 [some (vI a), some (vI w1), some (vI w2)] [] σ := by
    intro n4
    induction n4 with
    | zero => intro w1 w2  f_w1 f_w2  hm ; omega
    | succ n4 ih4 =>
      intro w1 w2  f_w1 f_w2  hm4 
      refine r_iload_n hC dX6_bits_4 rfl ?_
      refine r_iconst hC dX6_bits_5 rfl ?_
      refine r_icmp_ge (tgt := 23) hC dX6_bits_6 rfl (fun h3 => ?_) (fun h3 => ?_)
      · refine r_iload_n hC dX6_bits_23 rfl ?_
        refine y_iret hK rfl dX6_bits_24 ?_
        exact k _ (by omega)
      · refine r_iload_n hC dX6_bits_9 rfl ?_
        refine r_iload_n hC dX6_bits_10 rfl ?_
        refine r_iload_n hC dX6_bits_11 rfl ?_
        refine r_ishrG hC dX6_bits_12 (fun v4 h_v4 => ?_)
        refine r_iconst hC dX6_bits_13 rfl ?_
        refine r_iandB hC dX6_bits_14 (by omega) (inR_lit rfl) (fun v5 h_v5 => ?_)
        refine r_iaddG hC dX6_bits_15 (fun v6 h_v6 => ?_)
        refine r_istore_n hC dX6_bits_16 rfl ?_
        refine r_iincE hC ((w2 + 1)) dX6_bits_17 rfl rfl (by omega) (by unfold inR; omega) ?_
        refine r_goto (tgt := 4) hC dX6_bits_20 rfl ?_
        exact ih4 (v6) ((w2 + 1))  (by omega) (by omega)  (by omega) 
  exact L4 6 (0) (0)  (by omega) (by omega)  (by omega) 
theorem m_rest {e : Ev} {d : Nat} {P : Option Vl → Mm → Prop} {σ : Mm} {a b : Int} (b_b : 1 ≤ b ∧ b ≤ 1000)  (k : ∀ r : Int, -998 ≤ r ∧ r ≤ 999 → P (some (vI r)) σ) : WT e (d + 1) 162 [vI a, vI b] σ P := by
  refine WT_in fun K hK => ?_
  have hK : StpY e cX6_rest RX6 (some .int) (WT e (d + 0)) P K := hK
  have hM := hK.1
  have hC := hK.1.1
  show K 0 [some (vI a), some (vI b), none] [] σ
  refine r_rngz hC (fun g0 => ?_)
  have r_a : -2147483648 ≤ a ∧ a ≤ 2147483647 := inR_le (g0 (vI a) (by simp))
  refine r_iload_n hC dX6_rest_0 rfl ?_
  refine r_iload_n hC dX6_rest_1 rfl ?_
  refine r_iremG hC dX6_rest_2 (by omega) (fun v1 h_v1 p_v1 m_v1 => ?_)
  refine r_istore_n hC dX6_rest_3 rfl ?_
  refine r_iload_n hC dX6_rest_4 rfl ?_
  have J15_3 : ∀ (w3 : Int), -998 ≤ w3 ∧ w3 ≤ 999 → K 15 [some (vI a), some (vI b), some (vI v1)] [vI w3] σ := by
    intro w3  f_w3 
    refine y_iret hK rfl dX6_rest_15 ?_
    exact k _ (by omega)
  refine r_if_ge (tgt := 14) hC dX6_rest_5 rfl (fun h2 => ?_) (fun h2 => ?_)
  · refine r_iload_n hC dX6_rest_14 rfl ?_
    exact J15_3 (v1)  (by omega) 
  · refine r_iload_n hC dX6_rest_8 rfl ?_
    refine r_iload_n hC dX6_rest_9 rfl ?_
    refine r_iaddE hC ((v1 + b)) dX6_rest_10 (by omega) (by unfold inR; omega) ?_
    refine r_goto (tgt := 15) hC dX6_rest_11 rfl ?_
    exact J15_3 ((v1 + b))  (by omega) 
theorem m_restb {e : Ev} {d : Nat} {P : Option Vl → Mm → Prop} {σ : Mm} {a b : Int} (b_b : 1 ≤ b ∧ b ≤ 1000)  (k : ∀ r : Int, 0 ≤ r ∧ r ≤ b - 1 → P (some (vI r)) σ) : WT e (d + 1) 162 [vI a, vI b] σ P := by
  refine WT_in fun K hK => ?_
  have hK : StpY e cX6_rest RX6 (some .int) (WT e (d + 0)) P K := hK
  have hM := hK.1
  have hC := hK.1.1
  show K 0 [some (vI a), some (vI b), none] [] σ
  refine r_rngz hC (fun g0 => ?_)
  have r_a : -2147483648 ≤ a ∧ a ≤ 2147483647 := inR_le (g0 (vI a) (by simp))
  refine r_iload_n hC dX6_rest_0 rfl ?_
  refine r_iload_n hC dX6_rest_1 rfl ?_
  refine r_iremG hC dX6_rest_2 (by omega) (fun v1 h_v1 p_v1 m_v1 => ?_)
  refine r_istore_n hC dX6_rest_3 rfl ?_
  refine r_iload_n hC dX6_rest_4 rfl ?_
  refine r_if_ge (tgt := 14) hC dX6_rest_5 rfl (fun h2 => ?_) (fun h2 => ?_)
  · refine r_iload_n hC dX6_rest_14 rfl ?_
    refine y_iret hK rfl dX6_rest_15 ?_
    exact k _ (by omega)
  · refine r_iload_n hC dX6_rest_8 rfl ?_
    refine r_iload_n hC dX6_rest_9 rfl ?_
    refine r_iaddE hC ((v1 + b)) dX6_rest_10 (by omega) (by unfold inR; omega) ?_
    refine r_goto (tgt := 15) hC dX6_rest_11 rfl ?_
    refine y_iret hK rfl dX6_rest_15 ?_
    exact k _ (by omega)
theorem m_greatest {ea eb : Bool} {d : Nat} {P : Option Vl → Mm → Prop} {σ : Mm} {n : Int} (b_n : 1 ≤ n ∧ n ≤ 242) (hn : σ 30 0 8 = n)  (k : P none σ) : WT (ea, eb, true) (d + 1) 160 [vR 30 0] σ P := by
  refine WT_in fun K hK => ?_
  have hK : StpY (ea, eb, true) cX6_greatest RX6 (none) (WT (ea, eb, true) (d + 0)) P K := hK
  have hM := hK.1
  have hC := hK.1.1
  show K 0 [some (vR 30 0), none, none, none] [] σ
  refine r_iconst hC dX6_greatest_0 rfl ?_
  refine r_istore_n hC dX6_greatest_1 rfl ?_
  refine r_iconst hC dX6_greatest_2 rfl ?_
  refine r_istore_n hC dX6_greatest_3 rfl ?_
  refine r_iconst hC dX6_greatest_4 rfl ?_
  refine r_istore_n hC dX6_greatest_5 rfl ?_
  have L6 : ∀ (n6 : Nat) (w1 w2 : Int), 0 ≤ w1 ∧ w1 ≤ 242 → 0 ≤ w2 ∧ w2 ≤ 241 → 242 - w1 < (n6 : Int) → K 6 [some (vR 30 0), some (vI w2), some (vI 0), some (vI w1)] [] σ := by
    intro n6
    induction n6 with
    | zero => intro w1 w2  f_w1 f_w2  hm ; omega
    | succ n6 ih6 =>
      intro w1 w2  f_w1 f_w2  hm6 
      refine r_iload_n hC dX6_greatest_6 rfl ?_
      refine r_aload_n hC dX6_greatest_7 rfl ?_
      refine z_getI (jz := 8) hM dX6_greatest_8 fl_RX6_105 rfl rfl rfl (fun v3 h_v3 o_v3 t_v3 => ?_)
      rw [(t_v3 (Or.inr (Or.inr (Or.inr ⟨rfl, rfl⟩)))).trans hn]
      refine r_icmp_ge (tgt := 37) hC dX6_greatest_11 rfl (fun h4 => ?_) (fun h4 => ?_)
      · refine r_iconst hC dX6_greatest_37 rfl ?_
        refine r_istore_n hC dX6_greatest_38 rfl ?_
        have L39 : ∀ (n39 : Nat) (w5 w6 : Int), -2147483648 ≤ w5 ∧ w5 ≤ 2147483647 → 0 ≤ w6 ∧ w6 ≤ 242 → 242 - w6 < (n39 : Int) → K 39 [some (vR 30 0), some (vI w2), some (vI w5), some (vI w6)] [] σ := by
          intro n39
          induction n39 with
          | zero => intro w5 w6  f_w5 f_w6  hm ; omega
          | succ n39 ih39 =>
            intro w5 w6  f_w5 f_w6  hm39 
            refine r_iload_n hC dX6_greatest_39 rfl ?_
            refine r_aload_n hC dX6_greatest_40 rfl ?_
            refine z_getI (jz := 8) hM dX6_greatest_41 fl_RX6_105 rfl rfl rfl (fun v7 h_v7 o_v7 t_v7 => ?_)
            rw [(t_v7 (Or.inr (Or.inr (Or.inr ⟨rfl, rfl⟩)))).trans hn]
            refine r_icmp_ge (tgt := 76) hC dX6_greatest_44 rfl (fun h8 => ?_) (fun h8 => ?_)
            · refine r_aload_n hC dX6_greatest_76 rfl ?_
              refine z_getR hM dX6_greatest_77 fl_RX6_31 rfl rfl (vld_of (n := 1) rfl (by omega) (by omega)) ?_
              refine r_iconst hC dX6_greatest_80 rfl ?_
              refine r_aload_n hC dX6_greatest_81 rfl ?_
              refine z_getR hM dX6_greatest_82 fl_RX6_28 rfl rfl (vld_of (n := 1) rfl (by omega) (by omega)) ?_
              refine r_iload_n hC dX6_greatest_85 rfl ?_
              refine z_iald hM dX6_greatest_86 rfl (by omega) (by omega) (fun v9 h_v9 o_v9 t_v9 => ?_)
              refine z_iastU hM dX6_greatest_87 rfl (by omega) (by omega) (by simp [Un, Tb, DL, DF, DR]) (by simp [Okv]) ?_
              refine r_aload_n hC dX6_greatest_88 rfl ?_
              refine z_getR hM dX6_greatest_89 fl_RX6_31 rfl rfl (vld_of (n := 1) rfl (by omega) (by omega)) ?_
              refine r_iconst hC dX6_greatest_92 rfl ?_
              refine r_iload_n hC dX6_greatest_93 rfl ?_
              refine z_iastU hM dX6_greatest_94 rfl (by omega) (by omega) (by simp [Un, Tb, DL, DF, DR]) (by simp [Okv]) ?_
              refine r_aload_n hC dX6_greatest_95 rfl ?_
              refine z_getR hM dX6_greatest_96 fl_RX6_31 rfl rfl (vld_of (n := 1) rfl (by omega) (by omega)) ?_
              refine r_iconst hC dX6_greatest_99 rfl ?_
              refine r_iload_n hC dX6_greatest_100 rfl ?_
              refine z_iastU hM dX6_greatest_101 rfl (by omega) (by omega) (by simp [Un, Tb, DL, DF, DR]) (by simp [Okv]) ?_
              refine r_aload_n hC dX6_greatest_102 rfl ?_
              refine z_getR hM dX6_greatest_103 fl_RX6_31 rfl rfl (vld_of (n := 1) rfl (by omega) (by omega)) ?_
              refine r_iconst hC dX6_greatest_106 rfl ?_
              refine r_aload_n hC dX6_greatest_107 rfl ?_
              refine z_getI (jz := 8) hM dX6_greatest_108 fl_RX6_105 rfl rfl rfl (fun v10 h_v10 o_v10 t_v10 => ?_)
              rw [(t_v10 (Or.inr (Or.inr (Or.inr ⟨rfl, rfl⟩)))).trans hn]
              refine z_iastU hM dX6_greatest_111 rfl (by omega) (by omega) (by simp [Un, Tb, DL, DF, DR]) (by simp [Okv]) ?_
              refine y_vret hK rfl dX6_greatest_112 ?_
              exact k
            · refine r_iload_n hC dX6_greatest_47 rfl ?_
              refine r_aload_n hC dX6_greatest_48 rfl ?_
              refine z_getR hM dX6_greatest_49 fl_RX6_28 rfl rfl (vld_of (n := 1) rfl (by omega) (by omega)) ?_
              refine r_iload_n hC dX6_greatest_52 rfl ?_
              refine z_iald hM dX6_greatest_53 rfl (by omega) (by omega) (fun v11 h_v11 o_v11 t_v11 => ?_)
              refine r_aload_n hC dX6_greatest_54 rfl ?_
              refine z_getR hM dX6_greatest_55 fl_RX6_28 rfl rfl (vld_of (n := 1) rfl (by omega) (by omega)) ?_
              refine r_iload_n hC dX6_greatest_58 rfl ?_
              refine z_iald hM dX6_greatest_59 rfl (by omega) (by omega) (fun v12 h_v12 o_v12 t_v12 => ?_)
              have J68_14 : ∀ (w14 : Int), 0 ≤ w14 ∧ w14 ≤ 1 → K 68 [some (vR 30 0), some (vI w2), some (vI w5), some (vI w6)] [vI w14, vI w5] σ := by
                intro w14  f_w14 
                refine r_iaddG hC dX6_greatest_68 (fun v16 h_v16 => ?_)
                refine r_istore_n hC dX6_greatest_69 rfl ?_
                refine r_iincE hC ((w6 + 1)) dX6_greatest_70 rfl rfl (by omega) (by unfold inR; omega) ?_
                refine r_goto (tgt := 39) hC dX6_greatest_73 rfl ?_
                exact ih39 (v16) ((w6 + 1))  (by omega) (by omega)  (by omega) 
              refine r_icmp_ne (tgt := 67) hC dX6_greatest_60 rfl (fun h13 => ?_) (fun h13 => ?_)
              · refine r_iconst hC dX6_greatest_67 rfl ?_
                exact J68_14 (0)  (by omega) 
              · refine r_iconst hC dX6_greatest_63 rfl ?_
                refine r_goto (tgt := 68) hC dX6_greatest_64 rfl ?_
                exact J68_14 (1)  (by omega) 
        exact L39 244 (0) (0)  (by omega) (by omega)  (by omega) 
      · refine r_aload_n hC dX6_greatest_14 rfl ?_
        refine z_getR hM dX6_greatest_15 fl_RX6_28 rfl rfl (vld_of (n := 1) rfl (by omega) (by omega)) ?_
        refine r_iload_n hC dX6_greatest_18 rfl ?_
        refine z_iald hM dX6_greatest_19 rfl (by omega) (by omega) (fun v17 h_v17 o_v17 t_v17 => ?_)
        refine r_aload_n hC dX6_greatest_20 rfl ?_
        refine z_getR hM dX6_greatest_21 fl_RX6_28 rfl rfl (vld_of (n := 1) rfl (by omega) (by omega)) ?_
        refine r_iload_n hC dX6_greatest_24 rfl ?_
        refine z_iald hM dX6_greatest_25 rfl (by omega) (by omega) (fun v18 h_v18 o_v18 t_v18 => ?_)
        have J31_20 : ∀ (w20 : Int), 0 ≤ w20 ∧ w20 ≤ 241 → K 31 [some (vR 30 0), some (vI w20), some (vI 0), some (vI w1)] [] σ := by
          intro w20  f_w20 
          refine r_iincE hC ((w1 + 1)) dX6_greatest_31 rfl rfl (by omega) (by unfold inR; omega) ?_
          refine r_goto (tgt := 6) hC dX6_greatest_34 rfl ?_
          exact ih6 ((w1 + 1)) (w20)  (by omega) (by omega)  (by omega) 
        refine r_icmp_le (tgt := 31) hC dX6_greatest_26 rfl (fun h19 => ?_) (fun h19 => ?_)
        · exact J31_20 (w2)  (by omega)
        · refine r_iload_n hC dX6_greatest_29 rfl ?_
          refine r_istore_n hC dX6_greatest_30 rfl ?_
          exact J31_20 (w1)  (by omega) 
  exact L6 244 (0) (0)  (by omega) (by omega)  (by omega) 
theorem m_line {ea eb : Bool} {d : Nat} {P : Option Vl → Mm → Prop} {σ : Mm} {n : Int} (b_n : 1 ≤ n ∧ n ≤ 242) (hn : σ 30 0 8 = n)  (k : P none σ) : WT (ea, eb, true) (d + 2) 163 [vR 30 0] σ P := by
  refine WT_in fun K hK => ?_
  have hK : StpY (ea, eb, true) cX6_line RX6 (none) (WT (ea, eb, true) (d + 1)) P K := hK
  have hM := hK.1
  have hC := hK.1.1
  show K 0 [some (vR 30 0), none, none, none, none] [] σ
  refine r_iconst hC dX6_line_0 rfl ?_
  refine r_istore_n hC dX6_line_1 rfl ?_
  refine r_iconst hC dX6_line_2 rfl ?_
  refine r_istore_n hC dX6_line_3 rfl ?_
  refine r_iconst hC dX6_line_4 rfl ?_
  refine r_istore_n hC dX6_line_5 rfl ?_
  have L6 : ∀ (n6 : Nat) (w1 w2 w3 : Int), 0 ≤ w1 ∧ w1 ≤ 996 → 0 ≤ w2 ∧ w2 ≤ 996 → 0 ≤ w3 ∧ w3 ≤ 242 → 242 - w3 < (n6 : Int) → K 6 [some (vR 30 0), some (vI w1), some (vI w2), some (vI w3), none] [] σ := by
    intro n6
    induction n6 with
    | zero => intro w1 w2 w3  f_w1 f_w2 f_w3  hm ; omega
    | succ n6 ih6 =>
      intro w1 w2 w3  f_w1 f_w2 f_w3  hm6 
      refine r_iload_n hC dX6_line_6 rfl ?_
      refine r_aload_n hC dX6_line_7 rfl ?_
      refine z_getI (jz := 8) hM dX6_line_8 fl_RX6_105 rfl rfl rfl (fun v4 h_v4 o_v4 t_v4 => ?_)
      rw [(t_v4 (Or.inr (Or.inr (Or.inr ⟨rfl, rfl⟩)))).trans hn]
      refine r_icmp_ge (tgt := 70) hC dX6_line_11 rfl (fun h5 => ?_) (fun h5 => ?_)
      · refine r_aload_n hC dX6_line_70 rfl ?_
        refine z_getR hM dX6_line_71 fl_RX6_31 rfl rfl (vld_of (n := 1) rfl (by omega) (by omega)) ?_
        refine r_iconst hC dX6_line_74 rfl ?_
        refine r_iload_n hC dX6_line_75 rfl ?_
        refine z_iastU hM dX6_line_76 rfl (by omega) (by omega) (by simp [Un, Tb, DL, DF, DR]) (by simp [Okv]) ?_
        refine r_aload_n hC dX6_line_77 rfl ?_
        refine z_getR hM dX6_line_78 fl_RX6_31 rfl rfl (vld_of (n := 1) rfl (by omega) (by omega)) ?_
        refine r_iconst hC dX6_line_81 rfl ?_
        refine r_iload_n hC dX6_line_82 rfl ?_
        refine z_iastU hM dX6_line_83 rfl (by omega) (by omega) (by simp [Un, Tb, DL, DF, DR]) (by simp [Okv]) ?_
        refine y_vret hK rfl dX6_line_84 ?_
        exact k
      · refine r_aload_n hC dX6_line_14 rfl ?_
        refine z_getR hM dX6_line_15 fl_RX6_28 rfl rfl (vld_of (n := 1) rfl (by omega) (by omega)) ?_
        refine r_iload_n hC dX6_line_18 rfl ?_
        refine z_iald hM dX6_line_19 rfl (by omega) (by omega) (fun v6 h_v6 o_v6 t_v6 => ?_)
        refine r_sipush hC dX6_line_20 rfl ?_
        refine z_ins2 hM dX6_line_23 tl_RX6_164 rfl (Nat.le_of_ble_eq_true rfl) (Nat.le_of_ble_eq_true rfl) ?_
        refine m_restb (by omega) (fun v7 h_v7 => ?_)
        refine r_istore hC dX6_line_26 rfl ?_
        refine r_iload hC dX6_line_28 rfl ?_
        refine r_iload_n hC dX6_line_30 rfl ?_
        have m8 := mul_nn (a := v7) (b := w1) (A := 996) (B := 996) (by omega) (by omega) (by omega) (by omega)
        refine r_imulE hC ((v7 * w1)) dX6_line_31 (by omega) (by unfold inR; omega) ?_
        refine r_sipush hC dX6_line_32 rfl ?_
        refine r_iremN hC dX6_line_35 (by omega) (by omega) ?_
        refine r_istore_n hC dX6_line_36 rfl ?_
        refine r_iload hC dX6_line_37 rfl ?_
        refine r_iload_n hC dX6_line_39 rfl ?_
        have m9 := mul_nn (a := v7) (b := w2) (A := 996) (B := 996) (by omega) (by omega) (by omega) (by omega)
        refine r_imulE hC ((v7 * w2)) dX6_line_40 (by omega) (by unfold inR; omega) ?_
        refine r_bipush hC dX6_line_41 rfl ?_
        refine r_aload_n hC dX6_line_43 rfl ?_
        refine z_getR hM dX6_line_44 fl_RX6_28 rfl rfl (vld_of (n := 1) rfl (by omega) (by omega)) ?_
        refine r_iload_n hC dX6_line_47 rfl ?_
        refine z_iald hM dX6_line_48 rfl (by omega) (by omega) (fun v10 h_v10 o_v10 t_v10 => ?_)
        refine r_imulG hC dX6_line_49 (fun v11 h_v11 => ?_)
        refine r_iconst hC dX6_line_50 rfl ?_
        refine r_iaddG hC dX6_line_51 (fun v12 h_v12 => ?_)
        refine r_sipush hC dX6_line_52 rfl ?_
        refine z_ins2 hM dX6_line_55 tl_RX6_164 rfl (Nat.le_of_ble_eq_true rfl) (Nat.le_of_ble_eq_true rfl) ?_
        refine m_restb (by omega) (fun v13 h_v13 => ?_)
        refine r_iaddE hC (((v7 * w2) + v13)) dX6_line_58 (by omega) (by unfold inR; omega) ?_
        refine r_sipush hC dX6_line_59 rfl ?_
        refine r_iremN hC dX6_line_62 (by omega) (by omega) ?_
        refine r_istore_n hC dX6_line_63 rfl ?_
        show K _ [_, _, _, _, _] _ _
        refine r_iincE hC ((w3 + 1)) dX6_line_64 rfl rfl (by omega) (by unfold inR; omega) ?_
        refine r_goto (tgt := 6) hC dX6_line_67 rfl ?_
        refine r_forget hC (ls2 := [some (vR 30 0), some (vI ((v7 * w1) % 997)), some (vI (((v7 * w2) + v13) % 997)), some (vI (w3 + 1)), none]) (lsub_some (lsub_some (lsub_some (lsub_some (lsub_none lsub_nil))))) ?_
        exact ih6 (((v7 * w1) % 997)) ((((v7 * w2) + v13) % 997)) ((w3 + 1))  (by omega) (by omega) (by omega)  (by omega) 
  exact L6 244 (1) (0) (0)  (by omega) (by omega) (by omega)  (by omega) 
theorem m_run {ea eb : Bool} {d : Nat} {P : Option Vl → Mm → Prop} {σ : Mm} {n : Int} (b_n : 1 ≤ n ∧ n ≤ 242) (hn : σ 30 0 8 = n)  (k : P none σ) : WT (ea, eb, true) (d + 1) 164 [vR 30 0] σ P := by
  refine WT_in fun K hK => ?_
  have hK : StpY (ea, eb, true) cX6_run RX6 (none) (WT (ea, eb, true) (d + 0)) P K := hK
  have hM := hK.1
  have hC := hK.1.1
  show K 0 [some (vR 30 0), none, none, none, none, none, none, none] [] σ
  refine r_iconst hC dX6_run_0 rfl ?_
  refine r_istore_n hC dX6_run_1 rfl ?_
  refine r_ldc hC dX6_run_2 co_RX6_160 rfl ?_
  refine r_istore_n hC dX6_run_4 rfl ?_
  refine r_ldc hC dX6_run_5 co_RX6_160 rfl ?_
  refine r_istore_n hC dX6_run_7 rfl ?_
  show K _ [_, _, _, _, _, _, _, _] _ _
  refine r_ldc hC dX6_run_8 co_RX6_160 rfl ?_
  refine r_istore hC dX6_run_10 rfl ?_
  refine r_iconst hC dX6_run_12 rfl ?_
  refine r_istore hC dX6_run_13 rfl ?_
  have L15 : ∀ (n15 : Nat) (w1 w2 w3 w4 w5 : Int), -2147483648 ≤ w1 ∧ w1 ≤ 2147483647 → -2147483648 ≤ w2 ∧ w2 ≤ 2147483647 → -2147483648 ≤ w3 ∧ w3 ≤ 2147483647 → -2147483648 ≤ w4 ∧ w4 ≤ 2147483647 → 0 ≤ w5 ∧ w5 ≤ 242 → 242 - w5 < (n15 : Int) → K 15 [some (vR 30 0), some (vI w1), some (vI w2), some (vI w3), some (vI w4), some (vI w5), none, none] [] σ := by
    intro n15
    induction n15 with
    | zero => intro w1 w2 w3 w4 w5  f_w1 f_w2 f_w3 f_w4 f_w5  hm ; omega
    | succ n15 ih15 =>
      intro w1 w2 w3 w4 w5  f_w1 f_w2 f_w3 f_w4 f_w5  hm15 
      refine r_iload hC dX6_run_15 rfl ?_
      refine r_aload_n hC dX6_run_17 rfl ?_
      refine z_getI (jz := 8) hM dX6_run_18 fl_RX6_105 rfl rfl rfl (fun v6 h_v6 o_v6 t_v6 => ?_)
      rw [(t_v6 (Or.inr (Or.inr (Or.inr ⟨rfl, rfl⟩)))).trans hn]
      refine r_icmp_ge (tgt := 101) hC dX6_run_21 rfl (fun h7 => ?_) (fun h7 => ?_)
      · refine r_aload_n hC dX6_run_101 rfl ?_
        refine z_getR hM dX6_run_102 fl_RX6_31 rfl rfl (vld_of (n := 1) rfl (by omega) (by omega)) ?_
        refine r_iconst hC dX6_run_105 rfl ?_
        refine r_iload_n hC dX6_run_106 rfl ?_
        refine z_iastU hM dX6_run_107 rfl (by omega) (by omega) (by simp [Un, Tb, DL, DF, DR]) (by simp [Okv]) ?_
        refine r_aload_n hC dX6_run_108 rfl ?_
        refine z_getR hM dX6_run_109 fl_RX6_31 rfl rfl (vld_of (n := 1) rfl (by omega) (by omega)) ?_
        refine r_iconst hC dX6_run_112 rfl ?_
        refine r_iload_n hC dX6_run_113 rfl ?_
        refine z_iastU hM dX6_run_114 rfl (by omega) (by omega) (by simp [Un, Tb, DL, DF, DR]) (by simp [Okv]) ?_
        refine r_aload_n hC dX6_run_115 rfl ?_
        refine z_getR hM dX6_run_116 fl_RX6_31 rfl rfl (vld_of (n := 1) rfl (by omega) (by omega)) ?_
        refine r_iconst hC dX6_run_119 rfl ?_
        refine r_iload_n hC dX6_run_120 rfl ?_
        refine z_iastU hM dX6_run_121 rfl (by omega) (by omega) (by simp [Un, Tb, DL, DF, DR]) (by simp [Okv]) ?_
        refine r_aload_n hC dX6_run_122 rfl ?_
        refine z_getR hM dX6_run_123 fl_RX6_31 rfl rfl (vld_of (n := 1) rfl (by omega) (by omega)) ?_
        refine r_iconst hC dX6_run_126 rfl ?_
        refine r_iload hC dX6_run_127 rfl ?_
        refine z_iastU hM dX6_run_129 rfl (by omega) (by omega) (by simp [Un, Tb, DL, DF, DR]) (by simp [Okv]) ?_
        refine y_vret hK rfl dX6_run_130 ?_
        exact k
      · refine r_iload_n hC dX6_run_24 rfl ?_
        refine r_aload_n hC dX6_run_25 rfl ?_
        refine z_getR hM dX6_run_26 fl_RX6_28 rfl rfl (vld_of (n := 1) rfl (by omega) (by omega)) ?_
        refine r_iload hC dX6_run_29 rfl ?_
        refine z_iald hM dX6_run_31 rfl (by omega) (by omega) (fun v8 h_v8 o_v8 t_v8 => ?_)
        refine r_iaddG hC dX6_run_32 (fun v9 h_v9 => ?_)
        refine r_istore_n hC dX6_run_33 rfl ?_
        refine r_iload_n hC dX6_run_34 rfl ?_
        refine r_iload_n hC dX6_run_35 rfl ?_
        have J41_11 : ∀ (w11 : Int), -2147483648 ≤ w11 ∧ w11 ≤ 2147483647 → K 41 [some (vR 30 0), some (vI v9), some (vI w2), some (vI w11), some (vI w4), some (vI w5), none, none] [] σ := by
          intro w11  f_w11 
          refine r_iconst hC dX6_run_41 rfl ?_
          refine r_istore hC dX6_run_42 rfl ?_
          refine r_iload hC dX6_run_44 rfl ?_
          refine r_istore hC dX6_run_46 rfl ?_
          have L48 : ∀ (n48 : Nat) (w13 w14 w15 : Int), -2147483648 ≤ w13 ∧ w13 ≤ 2147483647 → -2147483648 ≤ w14 ∧ w14 ≤ 2147483647 → 0 ≤ w15 ∧ w15 ≤ 242 → 242 - w15 < (n48 : Int) → K 48 [some (vR 30 0), some (vI v9), some (vI w13), some (vI w11), some (vI w4), some (vI w5), some (vI w14), some (vI w15)] [] σ := by
            intro n48
            induction n48 with
            | zero => intro w13 w14 w15  f_w13 f_w14 f_w15  hm ; omega
            | succ n48 ih48 =>
              intro w13 w14 w15  f_w13 f_w14 f_w15  hm48 
              refine r_iload hC dX6_run_48 rfl ?_
              refine r_aload_n hC dX6_run_50 rfl ?_
              refine z_getI (jz := 8) hM dX6_run_51 fl_RX6_105 rfl rfl rfl (fun v16 h_v16 o_v16 t_v16 => ?_)
              rw [(t_v16 (Or.inr (Or.inr (Or.inr ⟨rfl, rfl⟩)))).trans hn]
              refine r_icmp_ge (tgt := 84) hC dX6_run_54 rfl (fun h17 => ?_) (fun h17 => ?_)
              · refine r_iload hC dX6_run_84 rfl ?_
                refine r_iload hC dX6_run_86 rfl ?_
                have J95_19 : ∀ (w19 : Int), -2147483648 ≤ w19 ∧ w19 ≤ 2147483647 → K 95 [some (vR 30 0), some (vI v9), some (vI w13), some (vI w11), some (vI w19), some (vI w5), some (vI w14), some (vI w15)] [] σ := by
                  intro w19  f_w19 
                  refine r_iincE hC ((w5 + 1)) dX6_run_95 rfl rfl (by omega) (by unfold inR; omega) ?_
                  refine r_goto (tgt := 15) hC dX6_run_98 rfl ?_
                  refine r_forget hC (ls2 := [some (vR 30 0), some (vI v9), some (vI w13), some (vI w11), some (vI w19), some (vI (w5 + 1)), none, none]) (lsub_some (lsub_some (lsub_some (lsub_some (lsub_some (lsub_some (lsub_none (lsub_none lsub_nil)))))))) ?_
                  exact ih15 (v9) (w13) (w11) (w19) ((w5 + 1))  (by omega) (by omega) (by omega) (by omega) (by omega)  (by omega) 
                refine r_icmp_le (tgt := 95) hC dX6_run_88 rfl (fun h18 => ?_) (fun h18 => ?_)
                · exact J95_19 (w4)  (by omega)
                · refine r_iload hC dX6_run_91 rfl ?_
                  refine r_istore hC dX6_run_93 rfl ?_
                  exact J95_19 (w14)  (by omega) 
              · refine r_iload hC dX6_run_57 rfl ?_
                refine r_aload_n hC dX6_run_59 rfl ?_
                refine z_getR hM dX6_run_60 fl_RX6_28 rfl rfl (vld_of (n := 1) rfl (by omega) (by omega)) ?_
                refine r_iload hC dX6_run_63 rfl ?_
                refine z_iald hM dX6_run_65 rfl (by omega) (by omega) (fun v21 h_v21 o_v21 t_v21 => ?_)
                refine r_iaddG hC dX6_run_66 (fun v22 h_v22 => ?_)
                refine r_istore hC dX6_run_67 rfl ?_
                refine r_iload hC dX6_run_69 rfl ?_
                refine r_iload_n hC dX6_run_71 rfl ?_
                have J78_24 : ∀ (w24 : Int), -2147483648 ≤ w24 ∧ w24 ≤ 2147483647 → K 78 [some (vR 30 0), some (vI v9), some (vI w24), some (vI w11), some (vI w4), some (vI w5), some (vI v22), some (vI w15)] [] σ := by
                  intro w24  f_w24 
                  refine r_iincE hC ((w15 + 1)) dX6_run_78 rfl rfl (by omega) (by unfold inR; omega) ?_
                  refine r_goto (tgt := 48) hC dX6_run_81 rfl ?_
                  exact ih48 (w24) (v22) ((w15 + 1))  (by omega) (by omega) (by omega)  (by omega) 
                refine r_icmp_le (tgt := 78) hC dX6_run_72 rfl (fun h23 => ?_) (fun h23 => ?_)
                · exact J78_24 (w13)  (by omega)
                · refine r_iload hC dX6_run_75 rfl ?_
                  refine r_istore_n hC dX6_run_77 rfl ?_
                  exact J78_24 (v22)  (by omega) 
          exact L48 244 (w2) (0) (w5)  (by omega) (by omega) (by omega)  (by omega) 
        refine r_icmp_le (tgt := 41) hC dX6_run_36 rfl (fun h10 => ?_) (fun h10 => ?_)
        · exact J41_11 (w3)  (by omega)
        · refine r_iload_n hC dX6_run_39 rfl ?_
          refine r_istore_n hC dX6_run_40 rfl ?_
          exact J41_11 (v9)  (by omega) 
  exact L15 244 (0) ((-2147483648)) ((-2147483648)) ((-2147483648)) (0)  (by omega) (by omega) (by omega) (by omega) (by omega)  (by omega) 
theorem m_send {ea eb : Bool} {d : Nat} {P : Option Vl → Mm → Prop} {σ : Mm} {n : Int} (b_n : 1 ≤ n ∧ n ≤ 242) (hn : σ 30 0 8 = n)  (k : P none σ) : WT (ea, eb, true) (d + 2) 165 [vR 30 0] σ P := by
  refine WT_in fun K hK => ?_
  have hK : StpY (ea, eb, true) cX6_send RX6 (none) (WT (ea, eb, true) (d + 1)) P K := hK
  have hM := hK.1
  have hC := hK.1.1
  show K 0 [some (vR 30 0), none, none, none, none] [] σ
  refine r_iconst hC dX6_send_0 rfl ?_
  refine r_istore_n hC dX6_send_1 rfl ?_
  refine r_iconst hC dX6_send_2 rfl ?_
  refine r_istore_n hC dX6_send_3 rfl ?_
  have L4 : ∀ (n4 : Nat) (w1 w2 : Int), -2147483648 ≤ w1 ∧ w1 ≤ 2147483647 → 0 ≤ w2 ∧ w2 ≤ 4 → 4 - w2 < (n4 : Int) → K 4 [some (vR 30 0), some (vI w1), some (vI w2), none, none] [] σ := by
    intro n4
    induction n4 with
    | zero => intro w1 w2  f_w1 f_w2  hm ; omega
    | succ n4 ih4 =>
      intro w1 w2  f_w1 f_w2  hm4 
      refine r_iload_n hC dX6_send_4 rfl ?_
      refine r_iconst hC dX6_send_5 rfl ?_
      refine r_icmp_ge (tgt := 72) hC dX6_send_6 rfl (fun h3 => ?_) (fun h3 => ?_)
      · refine r_aload_n hC dX6_send_72 rfl ?_
        refine z_getR hM dX6_send_73 fl_RX6_31 rfl rfl (vld_of (n := 1) rfl (by omega) (by omega)) ?_
        refine r_iconst hC dX6_send_76 rfl ?_
        refine r_iload_n hC dX6_send_77 rfl ?_
        refine z_ins1 hM dX6_send_78 tl_RX6_167 rfl (Nat.le_of_ble_eq_true rfl) (Nat.le_of_ble_eq_true rfl) ?_
        refine m_bits (fun v4 h_v4 => ?_)
        refine z_iastU hM dX6_send_81 rfl (by omega) (by omega) (by simp [Un, Tb, DL, DF, DR]) (by simp [Okv]) ?_
        refine y_vret hK rfl dX6_send_82 ?_
        exact k
      · refine r_iload_n hC dX6_send_9 rfl ?_
        refine r_istore_n hC dX6_send_10 rfl ?_
        refine r_iconst hC dX6_send_11 rfl ?_
        refine r_istore hC dX6_send_12 rfl ?_
        have L14 : ∀ (n14 : Nat) (w5 w6 : Int), 0 ≤ w5 ∧ w5 ≤ 3 → 0 ≤ w6 ∧ w6 ≤ 242 → 242 - w6 < (n14 : Int) → K 14 [some (vR 30 0), some (vI w1), some (vI w2), some (vI w5), some (vI w6)] [] σ := by
          intro n14
          induction n14 with
          | zero => intro w5 w6  f_w5 f_w6  hm ; omega
          | succ n14 ih14 =>
            intro w5 w6  f_w5 f_w6  hm14 
            refine r_iload hC dX6_send_14 rfl ?_
            refine r_aload_n hC dX6_send_16 rfl ?_
            refine z_getI (jz := 8) hM dX6_send_17 fl_RX6_105 rfl rfl rfl (fun v7 h_v7 o_v7 t_v7 => ?_)
            rw [(t_v7 (Or.inr (Or.inr (Or.inr ⟨rfl, rfl⟩)))).trans hn]
            refine r_icmp_ge (tgt := 53) hC dX6_send_20 rfl (fun h8 => ?_) (fun h8 => ?_)
            · refine r_aload_n hC dX6_send_53 rfl ?_
              refine z_getR hM dX6_send_54 fl_RX6_31 rfl rfl (vld_of (n := 1) rfl (by omega) (by omega)) ?_
              refine r_iload_n hC dX6_send_57 rfl ?_
              refine r_iload_n hC dX6_send_58 rfl ?_
              refine z_iastU hM dX6_send_59 rfl (by omega) (by omega) (by simp [Un, Tb, DL, DF, DR]) (by simp [Okv]) ?_
              refine r_iload_n hC dX6_send_60 rfl ?_
              refine r_iconst hC dX6_send_61 rfl ?_
              refine r_iload_n hC dX6_send_62 rfl ?_
              refine r_ishlG hC dX6_send_63 (fun v9 h_v9 => ?_)
              refine r_iorG hC dX6_send_64 (fun v10 h_v10 => ?_)
              refine r_istore_n hC dX6_send_65 rfl ?_
              refine r_iincE hC ((w2 + 1)) dX6_send_66 rfl rfl (by omega) (by unfold inR; omega) ?_
              refine r_goto (tgt := 4) hC dX6_send_69 rfl ?_
              refine r_forget hC (ls2 := [some (vR 30 0), some (vI v10), some (vI (w2 + 1)), none, none]) (lsub_some (lsub_some (lsub_some (lsub_none (lsub_none lsub_nil))))) ?_
              exact ih4 (v10) ((w2 + 1))  (by omega) (by omega)  (by omega) 
            · refine r_aload_n hC dX6_send_23 rfl ?_
              refine z_getR hM dX6_send_24 fl_RX6_25 rfl rfl (vld_of (n := 1) rfl (by omega) (by omega)) ?_
              refine r_aload_n hC dX6_send_27 rfl ?_
              refine z_getR hM dX6_send_28 fl_RX6_28 rfl rfl (vld_of (n := 1) rfl (by omega) (by omega)) ?_
              refine r_iload hC dX6_send_31 rfl ?_
              refine z_iald hM dX6_send_33 rfl (by omega) (by omega) (fun v11 h_v11 o_v11 t_v11 => ?_)
              refine r_bipush hC dX6_send_34 rfl ?_
              refine z_ins2 hM dX6_send_36 tl_RX6_164 rfl (Nat.le_of_ble_eq_true rfl) (Nat.le_of_ble_eq_true rfl) ?_
              refine m_restb (by omega) (fun v12 h_v12 => ?_)
              refine z_iald hM dX6_send_39 rfl (by omega) (by omega) (fun v13 h_v13 o_v13 t_v13 => ?_)
              refine r_iconst hC dX6_send_40 rfl ?_
              refine r_iload_n hC dX6_send_41 rfl ?_
              refine r_imulE hC ((2 * w5)) dX6_send_42 (by omega) (by unfold inR; omega) ?_
              refine r_ishrG hC dX6_send_43 (fun v14 h_v14 => ?_)
              refine r_iconst hC dX6_send_44 rfl ?_
              refine r_iandB hC dX6_send_45 (by omega) (inR_lit rfl) (fun v15 h_v15 => ?_)
              refine r_istore_n hC dX6_send_46 rfl ?_
              refine r_iincE hC ((w6 + 1)) dX6_send_47 rfl rfl (by omega) (by unfold inR; omega) ?_
              refine r_goto (tgt := 14) hC dX6_send_50 rfl ?_
              exact ih14 (v15) ((w6 + 1))  (by omega) (by omega)  (by omega) 
        exact L14 244 (w2) (0)  (by omega) (by omega)  (by omega) 
  exact L4 6 (0) (0)  (by omega) (by omega)  (by omega) 
theorem m_nest {ea eb : Bool} {d : Nat} {P : Option Vl → Mm → Prop} {σ : Mm} {n : Int} (b_n : 1 ≤ n ∧ n ≤ 242) (hn : σ 30 0 8 = n)  (k : P none σ) : WT (ea, eb, true) (d + 1) 167 [vR 30 0] σ P := by
  refine WT_in fun K hK => ?_
  have hK : StpY (ea, eb, true) cX6_nest RX6 (none) (WT (ea, eb, true) (d + 0)) P K := hK
  have hM := hK.1
  have hC := hK.1.1
  show K 0 [some (vR 30 0), none, none, none, none, none, none] [] σ
  refine r_iconst hC dX6_nest_0 rfl ?_
  refine r_istore_n hC dX6_nest_1 rfl ?_
  refine r_iconst hC dX6_nest_2 rfl ?_
  refine r_istore_n hC dX6_nest_3 rfl ?_
  refine r_iconst hC dX6_nest_4 rfl ?_
  refine r_istore_n hC dX6_nest_5 rfl ?_
  show K _ [_, _, _, _, _, _, _] _ _
  refine r_iconst hC dX6_nest_6 rfl ?_
  refine r_istore hC dX6_nest_7 rfl ?_
  refine r_iconst hC dX6_nest_9 rfl ?_
  refine r_istore hC dX6_nest_10 rfl ?_
  refine r_iconst hC dX6_nest_12 rfl ?_
  refine r_istore hC dX6_nest_13 rfl ?_
  have L15 : ∀ (n15 : Nat) (w1 w2 w3 w4 w5 w6 : Int), -2147483648 ≤ w1 ∧ w1 ≤ 2147483647 → -2147483648 ≤ w2 ∧ w2 ≤ 2147483647 → -2147483648 ≤ w3 ∧ w3 ≤ 2147483647 → 0 ≤ w4 ∧ w4 ≤ 2147483647 → 0 ≤ w5 ∧ w5 ≤ 242 → -2147483648 ≤ w6 ∧ w6 ≤ 2147483647 → 242 - w5 < (n15 : Int) → K 15 [some (vR 30 0), some (vI w1), some (vI w2), some (vI w6), some (vI w3), some (vI w4), some (vI w5)] [] σ := by
    intro n15
    induction n15 with
    | zero => intro w1 w2 w3 w4 w5 w6  f_w1 f_w2 f_w3 f_w4 f_w5 f_w6  hm ; omega
    | succ n15 ih15 =>
      intro w1 w2 w3 w4 w5 w6  f_w1 f_w2 f_w3 f_w4 f_w5 f_w6  hm15 
      refine r_iload hC dX6_nest_15 rfl ?_
      refine r_aload_n hC dX6_nest_17 rfl ?_
      refine z_getI (jz := 8) hM dX6_nest_18 fl_RX6_105 rfl rfl rfl (fun v7 h_v7 o_v7 t_v7 => ?_)
      rw [(t_v7 (Or.inr (Or.inr (Or.inr ⟨rfl, rfl⟩)))).trans hn]
      refine r_icmp_ge (tgt := 93) hC dX6_nest_21 rfl (fun h8 => ?_) (fun h8 => ?_)
      · refine r_aload_n hC dX6_nest_93 rfl ?_
        refine z_getR hM dX6_nest_94 fl_RX6_31 rfl rfl (vld_of (n := 1) rfl (by omega) (by omega)) ?_
        refine r_iconst hC dX6_nest_97 rfl ?_
        refine r_iload_n hC dX6_nest_98 rfl ?_
        refine z_iastU hM dX6_nest_99 rfl (by omega) (by omega) (by simp [Un, Tb, DL, DF, DR]) (by simp [Okv]) ?_
        refine r_aload_n hC dX6_nest_100 rfl ?_
        refine z_getR hM dX6_nest_101 fl_RX6_31 rfl rfl (vld_of (n := 1) rfl (by omega) (by omega)) ?_
        refine r_iconst hC dX6_nest_104 rfl ?_
        refine r_iload_n hC dX6_nest_105 rfl ?_
        refine z_iastU hM dX6_nest_106 rfl (by omega) (by omega) (by simp [Un, Tb, DL, DF, DR]) (by simp [Okv]) ?_
        refine r_aload_n hC dX6_nest_107 rfl ?_
        refine z_getR hM dX6_nest_108 fl_RX6_31 rfl rfl (vld_of (n := 1) rfl (by omega) (by omega)) ?_
        refine r_iconst hC dX6_nest_111 rfl ?_
        refine r_iload_n hC dX6_nest_112 rfl ?_
        refine z_iastU hM dX6_nest_113 rfl (by omega) (by omega) (by simp [Un, Tb, DL, DF, DR]) (by simp [Okv]) ?_
        refine r_aload_n hC dX6_nest_114 rfl ?_
        refine z_getR hM dX6_nest_115 fl_RX6_31 rfl rfl (vld_of (n := 1) rfl (by omega) (by omega)) ?_
        refine r_iconst hC dX6_nest_118 rfl ?_
        refine r_iload hC dX6_nest_119 rfl ?_
        refine z_iastU hM dX6_nest_121 rfl (by omega) (by omega) (by simp [Un, Tb, DL, DF, DR]) (by simp [Okv]) ?_
        refine y_vret hK rfl dX6_nest_122 ?_
        exact k
      · refine r_iload hC dX6_nest_24 rfl ?_
        refine r_aload_n hC dX6_nest_26 rfl ?_
        refine z_getR hM dX6_nest_27 fl_RX6_28 rfl rfl (vld_of (n := 1) rfl (by omega) (by omega)) ?_
        refine r_iload hC dX6_nest_30 rfl ?_
        refine z_iald hM dX6_nest_32 rfl (by omega) (by omega) (fun v9 h_v9 o_v9 t_v9 => ?_)
        have J41_11 : ∀ (w11 : Int), -1 ≤ w11 ∧ w11 ≤ 1 → K 41 [some (vR 30 0), some (vI w1), some (vI w2), some (vI w6), some (vI w3), some (vI w4), some (vI w5)] [vI w11, vI w3] σ := by
          intro w11  f_w11 
          refine r_iaddG hC dX6_nest_41 (fun v13 h_v13 => ?_)
          refine r_istore hC dX6_nest_42 rfl ?_
          refine r_iload hC dX6_nest_44 rfl ?_
          refine r_iload hC dX6_nest_46 rfl ?_
          have J55_15 : ∀ (w15 : Int), 0 ≤ w15 ∧ w15 ≤ 2147483647 → K 55 [some (vR 30 0), some (vI w1), some (vI w2), some (vI w6), some (vI v13), some (vI w15), some (vI w5)] [] σ := by
            intro w15  f_w15 
            refine r_aload_n hC dX6_nest_55 rfl ?_
            refine z_getR hM dX6_nest_56 fl_RX6_28 rfl rfl (vld_of (n := 1) rfl (by omega) (by omega)) ?_
            refine r_iload hC dX6_nest_59 rfl ?_
            refine z_iald hM dX6_nest_61 rfl (by omega) (by omega) (fun v17 h_v17 o_v17 t_v17 => ?_)
            have J87_21 : ∀ (w19 w20 w21 : Int), -2147483648 ≤ w19 ∧ w19 ≤ 2147483647 → -2147483648 ≤ w20 ∧ w20 ≤ 2147483647 → -2147483648 ≤ w21 ∧ w21 ≤ 2147483647 → K 87 [some (vR 30 0), some (vI w21), some (vI w19), some (vI w20), some (vI v13), some (vI w15), some (vI w5)] [] σ := by
              intro w19 w20 w21  f_w19 f_w20 f_w21 
              refine r_iincE hC ((w5 + 1)) dX6_nest_87 rfl rfl (by omega) (by unfold inR; omega) ?_
              refine r_goto (tgt := 15) hC dX6_nest_90 rfl ?_
              exact ih15 (w21) (w19) (v13) (w15) ((w5 + 1)) (w20)  (by omega) (by omega) (by omega) (by omega) (by omega) (by omega)  (by omega) 
            refine r_if_lt (tgt := 71) hC dX6_nest_62 rfl (fun h18 => ?_) (fun h18 => ?_)
            · refine r_iload_n hC dX6_nest_71 rfl ?_
              refine r_if_ne (tgt := 81) hC dX6_nest_72 rfl (fun h23 => ?_) (fun h23 => ?_)
              · refine r_iincG hC dX6_nest_81 rfl rfl (fun v24 h_v24 => ?_)
                refine r_iincG hC dX6_nest_84 rfl rfl (fun v25 h_v25 => ?_)
                exact J87_21 (v24) (v25) (w1)  (by omega) (by omega) (by omega) 
              · refine r_iincG hC dX6_nest_75 rfl rfl (fun v26 h_v26 => ?_)
                refine r_goto (tgt := 87) hC dX6_nest_78 rfl ?_
                exact J87_21 (w2) (w6) (v26)  (by omega) (by omega) (by omega) 
            · refine r_iincG hC dX6_nest_65 rfl rfl (fun v27 h_v27 => ?_)
              refine r_goto (tgt := 87) hC dX6_nest_68 rfl ?_
              exact J87_21 (v27) (w6) (w1)  (by omega) (by omega) (by omega) 
          refine r_icmp_le (tgt := 55) hC dX6_nest_48 rfl (fun h14 => ?_) (fun h14 => ?_)
          · exact J55_15 (w4)  (by omega)
          · refine r_iload hC dX6_nest_51 rfl ?_
            refine r_istore hC dX6_nest_53 rfl ?_
            exact J55_15 (v13)  (by omega) 
        refine r_if_ge (tgt := 40) hC dX6_nest_33 rfl (fun h10 => ?_) (fun h10 => ?_)
        · refine r_iconst hC dX6_nest_40 rfl ?_
          exact J41_11 (1)  (by omega) 
        · refine r_iconst hC dX6_nest_36 rfl ?_
          refine r_goto (tgt := 41) hC dX6_nest_37 rfl ?_
          exact J41_11 ((-1))  (by omega) 
  exact L15 244 (0) (0) (0) (0) (0) (0)  (by omega) (by omega) (by omega) (by omega) (by omega) (by omega)  (by omega) 
theorem m_steps {ea eb : Bool} {d : Nat} {P : Option Vl → Mm → Prop} {σ : Mm} {n : Int} (b_n : 1 ≤ n ∧ n ≤ 242) (hn : σ 30 0 8 = n)  (k : P none σ) : WT (ea, eb, true) (d + 1) 170 [vR 30 0] σ P := by
  refine WT_in fun K hK => ?_
  have hK : StpY (ea, eb, true) cX6_steps RX6 (none) (WT (ea, eb, true) (d + 0)) P K := hK
  have hM := hK.1
  have hC := hK.1.1
  show K 0 [some (vR 30 0), none, none, none, none, none] [] σ
  refine r_iconst hC dX6_steps_0 rfl ?_
  refine r_istore_n hC dX6_steps_1 rfl ?_
  refine r_iconst hC dX6_steps_2 rfl ?_
  refine r_istore_n hC dX6_steps_3 rfl ?_
  refine r_iconst hC dX6_steps_4 rfl ?_
  refine r_istore_n hC dX6_steps_5 rfl ?_
  show K _ [_, _, _, _, _, _] _ _
  refine r_iconst hC dX6_steps_6 rfl ?_
  refine r_istore hC dX6_steps_7 rfl ?_
  refine r_iconst hC dX6_steps_9 rfl ?_
  refine r_istore hC dX6_steps_10 rfl ?_
  have L12 : ∀ (n12 : Nat) (w1 w2 w3 w4 w5 : Int), -2147483648 ≤ w1 ∧ w1 ≤ 2147483647 → -2147483648 ≤ w2 ∧ w2 ≤ 2147483647 → -2147483648 ≤ w3 ∧ w3 ≤ 2147483647 → 1 ≤ w4 ∧ w4 ≤ 2147483647 → 1 ≤ w5 ∧ w5 ≤ 242 → 242 - w5 < (n12 : Int) → K 12 [some (vR 30 0), some (vI w1), some (vI w2), some (vI w3), some (vI w4), some (vI w5)] [] σ := by
    intro n12
    induction n12 with
    | zero => intro w1 w2 w3 w4 w5  f_w1 f_w2 f_w3 f_w4 f_w5  hm ; omega
    | succ n12 ih12 =>
      intro w1 w2 w3 w4 w5  f_w1 f_w2 f_w3 f_w4 f_w5  hm12 
      refine r_iload hC dX6_steps_12 rfl ?_
      refine r_aload_n hC dX6_steps_14 rfl ?_
      refine z_getI (jz := 8) hM dX6_steps_15 fl_RX6_105 rfl rfl rfl (fun v6 h_v6 o_v6 t_v6 => ?_)
      rw [(t_v6 (Or.inr (Or.inr (Or.inr ⟨rfl, rfl⟩)))).trans hn]
      refine r_icmp_ge (tgt := 117) hC dX6_steps_18 rfl (fun h7 => ?_) (fun h7 => ?_)
      · refine r_aload_n hC dX6_steps_117 rfl ?_
        refine z_getR hM dX6_steps_118 fl_RX6_31 rfl rfl (vld_of (n := 1) rfl (by omega) (by omega)) ?_
        refine r_iconst hC dX6_steps_121 rfl ?_
        refine r_iload_n hC dX6_steps_122 rfl ?_
        refine z_iastU hM dX6_steps_123 rfl (by omega) (by omega) (by simp [Un, Tb, DL, DF, DR]) (by simp [Okv]) ?_
        refine r_aload_n hC dX6_steps_124 rfl ?_
        refine z_getR hM dX6_steps_125 fl_RX6_31 rfl rfl (vld_of (n := 1) rfl (by omega) (by omega)) ?_
        refine r_iconst hC dX6_steps_128 rfl ?_
        refine r_iload_n hC dX6_steps_129 rfl ?_
        refine z_iastU hM dX6_steps_130 rfl (by omega) (by omega) (by simp [Un, Tb, DL, DF, DR]) (by simp [Okv]) ?_
        refine r_aload_n hC dX6_steps_131 rfl ?_
        refine z_getR hM dX6_steps_132 fl_RX6_31 rfl rfl (vld_of (n := 1) rfl (by omega) (by omega)) ?_
        refine r_iconst hC dX6_steps_135 rfl ?_
        refine r_aload_n hC dX6_steps_136 rfl ?_
        refine z_getR hM dX6_steps_137 fl_RX6_28 rfl rfl (vld_of (n := 1) rfl (by omega) (by omega)) ?_
        refine r_iconst hC dX6_steps_140 rfl ?_
        refine z_iald hM dX6_steps_141 rfl (by omega) (by omega) (fun v8 h_v8 o_v8 t_v8 => ?_)
        refine z_iastU hM dX6_steps_142 rfl (by omega) (by omega) (by simp [Un, Tb, DL, DF, DR]) (by simp [Okv]) ?_
        refine r_aload_n hC dX6_steps_143 rfl ?_
        refine z_getR hM dX6_steps_144 fl_RX6_31 rfl rfl (vld_of (n := 1) rfl (by omega) (by omega)) ?_
        refine r_iconst hC dX6_steps_147 rfl ?_
        refine r_aload_n hC dX6_steps_148 rfl ?_
        refine z_getR hM dX6_steps_149 fl_RX6_28 rfl rfl (vld_of (n := 1) rfl (by omega) (by omega)) ?_
        refine r_aload_n hC dX6_steps_152 rfl ?_
        refine z_getI (jz := 8) hM dX6_steps_153 fl_RX6_105 rfl rfl rfl (fun v9 h_v9 o_v9 t_v9 => ?_)
        rw [(t_v9 (Or.inr (Or.inr (Or.inr ⟨rfl, rfl⟩)))).trans hn]
        refine r_iconst hC dX6_steps_156 rfl ?_
        refine r_isubE hC ((n - 1)) dX6_steps_157 (by omega) (by unfold inR; omega) ?_
        refine z_iald hM dX6_steps_158 rfl (by omega) (by omega) (fun v10 h_v10 o_v10 t_v10 => ?_)
        refine z_iastU hM dX6_steps_159 rfl (by omega) (by omega) (by simp [Un, Tb, DL, DF, DR]) (by simp [Okv]) ?_
        refine r_aload_n hC dX6_steps_160 rfl ?_
        refine z_getR hM dX6_steps_161 fl_RX6_31 rfl rfl (vld_of (n := 1) rfl (by omega) (by omega)) ?_
        refine r_iconst hC dX6_steps_164 rfl ?_
        refine r_iload hC dX6_steps_165 rfl ?_
        refine z_iastU hM dX6_steps_167 rfl (by omega) (by omega) (by simp [Un, Tb, DL, DF, DR]) (by simp [Okv]) ?_
        refine y_vret hK rfl dX6_steps_168 ?_
        exact k
      · refine r_iload_n hC dX6_steps_21 rfl ?_
        refine r_aload_n hC dX6_steps_22 rfl ?_
        refine z_getR hM dX6_steps_23 fl_RX6_28 rfl rfl (vld_of (n := 1) rfl (by omega) (by omega)) ?_
        refine r_iload hC dX6_steps_26 rfl ?_
        refine z_iald hM dX6_steps_28 rfl (by omega) (by omega) (fun v11 h_v11 o_v11 t_v11 => ?_)
        refine r_aload_n hC dX6_steps_29 rfl ?_
        refine z_getR hM dX6_steps_30 fl_RX6_28 rfl rfl (vld_of (n := 1) rfl (by omega) (by omega)) ?_
        refine r_iload hC dX6_steps_33 rfl ?_
        refine r_iconst hC dX6_steps_35 rfl ?_
        refine r_isubE hC ((w5 - 1)) dX6_steps_36 (by omega) (by unfold inR; omega) ?_
        refine z_iald hM dX6_steps_37 rfl (by omega) (by omega) (fun v12 h_v12 o_v12 t_v12 => ?_)
        have J46_14 : ∀ (w14 : Int), 0 ≤ w14 ∧ w14 ≤ 1 → K 46 [some (vR 30 0), some (vI w1), some (vI w2), some (vI w3), some (vI w4), some (vI w5)] [vI w14, vI w1] σ := by
          intro w14  f_w14 
          refine r_iaddG hC dX6_steps_46 (fun v16 h_v16 => ?_)
          refine r_istore_n hC dX6_steps_47 rfl ?_
          refine r_iload_n hC dX6_steps_48 rfl ?_
          refine r_aload_n hC dX6_steps_49 rfl ?_
          refine z_getR hM dX6_steps_50 fl_RX6_28 rfl rfl (vld_of (n := 1) rfl (by omega) (by omega)) ?_
          refine r_iload hC dX6_steps_53 rfl ?_
          refine z_iald hM dX6_steps_55 rfl (by omega) (by omega) (fun v17 h_v17 o_v17 t_v17 => ?_)
          refine r_aload_n hC dX6_steps_56 rfl ?_
          refine z_getR hM dX6_steps_57 fl_RX6_28 rfl rfl (vld_of (n := 1) rfl (by omega) (by omega)) ?_
          refine r_iload hC dX6_steps_60 rfl ?_
          refine r_iconst hC dX6_steps_62 rfl ?_
          refine r_isubE hC ((w5 - 1)) dX6_steps_63 (by omega) (by unfold inR; omega) ?_
          refine z_iald hM dX6_steps_64 rfl (by omega) (by omega) (fun v18 h_v18 o_v18 t_v18 => ?_)
          have J73_20 : ∀ (w20 : Int), 0 ≤ w20 ∧ w20 ≤ 1 → K 73 [some (vR 30 0), some (vI v16), some (vI w2), some (vI w3), some (vI w4), some (vI w5)] [vI w20, vI w2] σ := by
            intro w20  f_w20 
            refine r_iaddG hC dX6_steps_73 (fun v22 h_v22 => ?_)
            refine r_istore_n hC dX6_steps_74 rfl ?_
            refine r_aload_n hC dX6_steps_75 rfl ?_
            refine z_getR hM dX6_steps_76 fl_RX6_28 rfl rfl (vld_of (n := 1) rfl (by omega) (by omega)) ?_
            refine r_iload hC dX6_steps_79 rfl ?_
            refine z_iald hM dX6_steps_81 rfl (by omega) (by omega) (fun v23 h_v23 o_v23 t_v23 => ?_)
            refine r_aload_n hC dX6_steps_82 rfl ?_
            refine z_getR hM dX6_steps_83 fl_RX6_28 rfl rfl (vld_of (n := 1) rfl (by omega) (by omega)) ?_
            refine r_iload hC dX6_steps_86 rfl ?_
            refine r_iconst hC dX6_steps_88 rfl ?_
            refine r_isubE hC ((w5 - 1)) dX6_steps_89 (by omega) (by unfold inR; omega) ?_
            refine z_iald hM dX6_steps_90 rfl (by omega) (by omega) (fun v24 h_v24 o_v24 t_v24 => ?_)
            have J101_26 : ∀ (w26 : Int), -2147483648 ≤ w26 ∧ w26 ≤ 2147483647 → K 101 [some (vR 30 0), some (vI v16), some (vI v22), some (vI w3), some (vI w4), some (vI w5)] [vI w26] σ := by
              intro w26  f_w26 
              refine r_istore_n hC dX6_steps_101 rfl ?_
              refine r_iload_n hC dX6_steps_102 rfl ?_
              refine r_iload hC dX6_steps_103 rfl ?_
              have J111_29 : ∀ (w29 : Int), 1 ≤ w29 ∧ w29 ≤ 2147483647 → K 111 [some (vR 30 0), some (vI v16), some (vI v22), some (vI w26), some (vI w29), some (vI w5)] [] σ := by
                intro w29  f_w29 
                refine r_iincE hC ((w5 + 1)) dX6_steps_111 rfl rfl (by omega) (by unfold inR; omega) ?_
                refine r_goto (tgt := 12) hC dX6_steps_114 rfl ?_
                exact ih12 (v16) (v22) (w26) (w29) ((w5 + 1))  (by omega) (by omega) (by omega) (by omega) (by omega)  (by omega) 
              refine r_icmp_le (tgt := 111) hC dX6_steps_105 rfl (fun h28 => ?_) (fun h28 => ?_)
              · exact J111_29 (w4)  (by omega)
              · refine r_iload_n hC dX6_steps_108 rfl ?_
                refine r_istore hC dX6_steps_109 rfl ?_
                exact J111_29 (w26)  (by omega) 
            refine r_icmp_ge (tgt := 98) hC dX6_steps_91 rfl (fun h25 => ?_) (fun h25 => ?_)
            · refine r_iload_n hC dX6_steps_98 rfl ?_
              refine r_iconst hC dX6_steps_99 rfl ?_
              refine r_iaddG hC dX6_steps_100 (fun v31 h_v31 => ?_)
              exact J101_26 (v31)  (by omega) 
            · refine r_iconst hC dX6_steps_94 rfl ?_
              refine r_goto (tgt := 101) hC dX6_steps_95 rfl ?_
              exact J101_26 (1)  (by omega) 
          refine r_icmp_le (tgt := 72) hC dX6_steps_65 rfl (fun h19 => ?_) (fun h19 => ?_)
          · refine r_iconst hC dX6_steps_72 rfl ?_
            exact J73_20 (0)  (by omega) 
          · refine r_iconst hC dX6_steps_68 rfl ?_
            refine r_goto (tgt := 73) hC dX6_steps_69 rfl ?_
            exact J73_20 (1)  (by omega) 
        refine r_icmp_ge (tgt := 45) hC dX6_steps_38 rfl (fun h13 => ?_) (fun h13 => ?_)
        · refine r_iconst hC dX6_steps_45 rfl ?_
          exact J46_14 (0)  (by omega) 
        · refine r_iconst hC dX6_steps_41 rfl ?_
          refine r_goto (tgt := 46) hC dX6_steps_42 rfl ?_
          exact J46_14 (1)  (by omega) 
  exact L12 243 (0) (0) (1) (1) (1)  (by omega) (by omega) (by omega) (by omega) (by omega)  (by omega) 
theorem m_spread {ea eb : Bool} {d : Nat} {P : Option Vl → Mm → Prop} {σ : Mm} {n : Int} (b_n : 1 ≤ n ∧ n ≤ 242) (hn : σ 30 0 8 = n)  (k : P none σ) : WT (ea, eb, true) (d + 1) 171 [vR 30 0] σ P := by
  refine WT_in fun K hK => ?_
  have hK : StpY (ea, eb, true) cX6_spread RX6 (none) (WT (ea, eb, true) (d + 0)) P K := hK
  have hM := hK.1
  have hC := hK.1.1
  show K 0 [some (vR 30 0), none, none, none, none] [] σ
  refine r_ldc hC dX6_spread_0 co_RX6_160 rfl ?_
  refine r_istore_n hC dX6_spread_2 rfl ?_
  refine r_ldc hC dX6_spread_3 co_RX6_160 rfl ?_
  refine r_istore_n hC dX6_spread_5 rfl ?_
  refine r_iconst hC dX6_spread_6 rfl ?_
  refine r_istore_n hC dX6_spread_7 rfl ?_
  show K _ [_, _, _, _, _] _ _
  refine r_iconst hC dX6_spread_8 rfl ?_
  refine r_istore hC dX6_spread_9 rfl ?_
  have L11 : ∀ (n11 : Nat) (w1 w2 w3 w4 : Int), -2147483648 ≤ w1 ∧ w1 ≤ 2147483647 → -2147483648 ≤ w2 ∧ w2 ≤ 2147483647 → -2147483648 ≤ w3 ∧ w3 ≤ 2147483647 → 0 ≤ w4 ∧ w4 ≤ 242 → 242 - w4 < (n11 : Int) → K 11 [some (vR 30 0), some (vI w1), some (vI w2), some (vI w3), some (vI w4)] [] σ := by
    intro n11
    induction n11 with
    | zero => intro w1 w2 w3 w4  f_w1 f_w2 f_w3 f_w4  hm ; omega
    | succ n11 ih11 =>
      intro w1 w2 w3 w4  f_w1 f_w2 f_w3 f_w4  hm11 
      refine r_iload hC dX6_spread_11 rfl ?_
      refine r_aload_n hC dX6_spread_13 rfl ?_
      refine z_getI (jz := 8) hM dX6_spread_14 fl_RX6_105 rfl rfl rfl (fun v5 h_v5 o_v5 t_v5 => ?_)
      rw [(t_v5 (Or.inr (Or.inr (Or.inr ⟨rfl, rfl⟩)))).trans hn]
      refine r_icmp_ge (tgt := 103) hC dX6_spread_17 rfl (fun h6 => ?_) (fun h6 => ?_)
      · refine r_aload_n hC dX6_spread_103 rfl ?_
        refine z_getR hM dX6_spread_104 fl_RX6_31 rfl rfl (vld_of (n := 1) rfl (by omega) (by omega)) ?_
        refine r_iconst hC dX6_spread_107 rfl ?_
        refine r_iload_n hC dX6_spread_108 rfl ?_
        refine z_iastU hM dX6_spread_109 rfl (by omega) (by omega) (by simp [Un, Tb, DL, DF, DR]) (by simp [Okv]) ?_
        refine r_aload_n hC dX6_spread_110 rfl ?_
        refine z_getR hM dX6_spread_111 fl_RX6_31 rfl rfl (vld_of (n := 1) rfl (by omega) (by omega)) ?_
        refine r_iconst hC dX6_spread_114 rfl ?_
        refine r_iload_n hC dX6_spread_115 rfl ?_
        refine z_iastU hM dX6_spread_116 rfl (by omega) (by omega) (by simp [Un, Tb, DL, DF, DR]) (by simp [Okv]) ?_
        refine r_aload_n hC dX6_spread_117 rfl ?_
        refine z_getR hM dX6_spread_118 fl_RX6_31 rfl rfl (vld_of (n := 1) rfl (by omega) (by omega)) ?_
        refine r_iconst hC dX6_spread_121 rfl ?_
        refine r_iload_n hC dX6_spread_122 rfl ?_
        refine z_iastU hM dX6_spread_123 rfl (by omega) (by omega) (by simp [Un, Tb, DL, DF, DR]) (by simp [Okv]) ?_
        refine y_vret hK rfl dX6_spread_124 ?_
        exact k
      · refine r_aload_n hC dX6_spread_20 rfl ?_
        refine z_getR hM dX6_spread_21 fl_RX6_28 rfl rfl (vld_of (n := 1) rfl (by omega) (by omega)) ?_
        refine r_iload hC dX6_spread_24 rfl ?_
        refine z_iald hM dX6_spread_26 rfl (by omega) (by omega) (fun v7 h_v7 o_v7 t_v7 => ?_)
        have J33_9 : ∀ (w9 : Int), -2147483648 ≤ w9 ∧ w9 ≤ 2147483647 → K 33 [some (vR 30 0), some (vI w1), some (vI w2), some (vI w9), some (vI w4)] [] σ := by
          intro w9  f_w9 
          refine r_aload_n hC dX6_spread_33 rfl ?_
          refine z_getR hM dX6_spread_34 fl_RX6_28 rfl rfl (vld_of (n := 1) rfl (by omega) (by omega)) ?_
          refine r_iload hC dX6_spread_37 rfl ?_
          refine z_iald hM dX6_spread_39 rfl (by omega) (by omega) (fun v11 h_v11 o_v11 t_v11 => ?_)
          have J68_13 : ∀ (w13 : Int), -2147483648 ≤ w13 ∧ w13 ≤ 2147483647 → K 68 [some (vR 30 0), some (vI w13), some (vI w2), some (vI w9), some (vI w4)] [] σ := by
            intro w13  f_w13 
            refine r_aload_n hC dX6_spread_68 rfl ?_
            refine z_getR hM dX6_spread_69 fl_RX6_28 rfl rfl (vld_of (n := 1) rfl (by omega) (by omega)) ?_
            refine r_iload hC dX6_spread_72 rfl ?_
            refine z_iald hM dX6_spread_74 rfl (by omega) (by omega) (fun v15 h_v15 o_v15 t_v15 => ?_)
            have J97_17 : ∀ (w17 : Int), -2147483648 ≤ w17 ∧ w17 ≤ 2147483647 → K 97 [some (vR 30 0), some (vI w13), some (vI w17), some (vI w9), some (vI w4)] [] σ := by
              intro w17  f_w17 
              refine r_iincE hC ((w4 + 1)) dX6_spread_97 rfl rfl (by omega) (by unfold inR; omega) ?_
              refine r_goto (tgt := 11) hC dX6_spread_100 rfl ?_
              exact ih11 (w13) (w17) (w9) ((w4 + 1))  (by omega) (by omega) (by omega) (by omega)  (by omega) 
            refine r_if_ge (tgt := 97) hC dX6_spread_75 rfl (fun h16 => ?_) (fun h16 => ?_)
            · exact J97_17 (w2)  (by omega)
            · refine r_aload_n hC dX6_spread_78 rfl ?_
              refine z_getR hM dX6_spread_79 fl_RX6_28 rfl rfl (vld_of (n := 1) rfl (by omega) (by omega)) ?_
              refine r_iload hC dX6_spread_82 rfl ?_
              refine z_iald hM dX6_spread_84 rfl (by omega) (by omega) (fun v19 h_v19 o_v19 t_v19 => ?_)
              refine r_iload_n hC dX6_spread_85 rfl ?_
              refine r_icmp_le (tgt := 97) hC dX6_spread_86 rfl (fun h20 => ?_) (fun h20 => ?_)
              · exact J97_17 (w2)  (by omega)
              · refine r_aload_n hC dX6_spread_89 rfl ?_
                refine z_getR hM dX6_spread_90 fl_RX6_28 rfl rfl (vld_of (n := 1) rfl (by omega) (by omega)) ?_
                refine r_iload hC dX6_spread_93 rfl ?_
                refine z_iald hM dX6_spread_95 rfl (by omega) (by omega) (fun v21 h_v21 o_v21 t_v21 => ?_)
                refine r_istore_n hC dX6_spread_96 rfl ?_
                exact J97_17 (v21)  (by omega) 
          refine r_if_le (tgt := 68) hC dX6_spread_40 rfl (fun h12 => ?_) (fun h12 => ?_)
          · exact J68_13 (w1)  (by omega)
          · refine r_iload_n hC dX6_spread_43 rfl ?_
            refine r_ldc hC dX6_spread_44 co_RX6_160 rfl ?_
            refine r_icmp_eq (tgt := 60) hC dX6_spread_46 rfl (fun h22 => ?_) (fun h22 => ?_)
            · refine r_aload_n hC dX6_spread_60 rfl ?_
              refine z_getR hM dX6_spread_61 fl_RX6_28 rfl rfl (vld_of (n := 1) rfl (by omega) (by omega)) ?_
              refine r_iload hC dX6_spread_64 rfl ?_
              refine z_iald hM dX6_spread_66 rfl (by omega) (by omega) (fun v23 h_v23 o_v23 t_v23 => ?_)
              refine r_istore_n hC dX6_spread_67 rfl ?_
              exact J68_13 (v23)  (by omega) 
            · refine r_aload_n hC dX6_spread_49 rfl ?_
              refine z_getR hM dX6_spread_50 fl_RX6_28 rfl rfl (vld_of (n := 1) rfl (by omega) (by omega)) ?_
              refine r_iload hC dX6_spread_53 rfl ?_
              refine z_iald hM dX6_spread_55 rfl (by omega) (by omega) (fun v24 h_v24 o_v24 t_v24 => ?_)
              refine r_iload_n hC dX6_spread_56 rfl ?_
              refine r_icmp_ge (tgt := 68) hC dX6_spread_57 rfl (fun h25 => ?_) (fun h25 => ?_)
              · exact J68_13 (w1)  (by omega)
              · refine r_aload_n hC dX6_spread_60 rfl ?_
                refine z_getR hM dX6_spread_61 fl_RX6_28 rfl rfl (vld_of (n := 1) rfl (by omega) (by omega)) ?_
                refine r_iload hC dX6_spread_64 rfl ?_
                refine z_iald hM dX6_spread_66 rfl (by omega) (by omega) (fun v26 h_v26 o_v26 t_v26 => ?_)
                refine r_istore_n hC dX6_spread_67 rfl ?_
                exact J68_13 (v26)  (by omega) 
        refine r_if_ne (tgt := 33) hC dX6_spread_27 rfl (fun h8 => ?_) (fun h8 => ?_)
        · exact J33_9 (w3)  (by omega)
        · refine r_iincG hC dX6_spread_30 rfl rfl (fun v27 h_v27 => ?_)
          exact J33_9 (v27)  (by omega) 
  exact L11 244 ((-2147483648)) ((-2147483648)) (0) (0)  (by omega) (by omega) (by omega) (by omega)  (by omega) 
theorem m_multiply {ea eb : Bool} {d : Nat} {P : Option Vl → Mm → Prop} {σ : Mm} {n : Int} (b_n : 1 ≤ n ∧ n ≤ 242) (hn : σ 30 0 8 = n)  (k : P none σ) : WT (ea, eb, true) (d + 2) 172 [vR 30 0] σ P := by
  refine WT_in fun K hK => ?_
  have hK : StpY (ea, eb, true) cX6_multiply RX6 (none) (WT (ea, eb, true) (d + 1)) P K := hK
  have hM := hK.1
  have hC := hK.1.1
  show K 0 [some (vR 30 0), none, none] [] σ
  refine r_aload_n hC dX6_multiply_0 rfl ?_
  refine z_getR hM dX6_multiply_1 fl_RX6_28 rfl rfl (vld_of (n := 1) rfl (by omega) (by omega)) ?_
  refine r_iconst hC dX6_multiply_4 rfl ?_
  refine z_iald hM dX6_multiply_5 rfl (by omega) (by omega) (fun v1 h_v1 o_v1 t_v1 => ?_)
  refine r_iconst hC dX6_multiply_6 rfl ?_
  refine z_ins2 hM dX6_multiply_7 tl_RX6_164 rfl (Nat.le_of_ble_eq_true rfl) (Nat.le_of_ble_eq_true rfl) ?_
  refine m_restb (by omega) (fun v2 h_v2 => ?_)
  refine r_istore_n hC dX6_multiply_10 rfl ?_
  refine r_iconst hC dX6_multiply_11 rfl ?_
  refine r_istore_n hC dX6_multiply_12 rfl ?_
  have L13 : ∀ (n13 : Nat) (w3 w4 : Int), 0 ≤ w3 ∧ w3 ≤ 3 → 1 ≤ w4 ∧ w4 ≤ 242 → 242 - w4 < (n13 : Int) → K 13 [some (vR 30 0), some (vI w3), some (vI w4)] [] σ := by
    intro n13
    induction n13 with
    | zero => intro w3 w4  f_w3 f_w4  hm ; omega
    | succ n13 ih13 =>
      intro w3 w4  f_w3 f_w4  hm13 
      refine r_iload_n hC dX6_multiply_13 rfl ?_
      refine r_aload_n hC dX6_multiply_14 rfl ?_
      refine z_getI (jz := 8) hM dX6_multiply_15 fl_RX6_105 rfl rfl rfl (fun v5 h_v5 o_v5 t_v5 => ?_)
      rw [(t_v5 (Or.inr (Or.inr (Or.inr ⟨rfl, rfl⟩)))).trans hn]
      refine r_icmp_ge (tgt := 43) hC dX6_multiply_18 rfl (fun h6 => ?_) (fun h6 => ?_)
      · refine r_aload_n hC dX6_multiply_43 rfl ?_
        refine z_getR hM dX6_multiply_44 fl_RX6_31 rfl rfl (vld_of (n := 1) rfl (by omega) (by omega)) ?_
        refine r_iconst hC dX6_multiply_47 rfl ?_
        refine r_iload_n hC dX6_multiply_48 rfl ?_
        refine z_iastU hM dX6_multiply_49 rfl (by omega) (by omega) (by simp [Un, Tb, DL, DF, DR]) (by simp [Okv]) ?_
        refine y_vret hK rfl dX6_multiply_50 ?_
        exact k
      · refine r_aload_n hC dX6_multiply_21 rfl ?_
        refine r_iload_n hC dX6_multiply_22 rfl ?_
        refine r_aload_n hC dX6_multiply_23 rfl ?_
        refine z_getR hM dX6_multiply_24 fl_RX6_28 rfl rfl (vld_of (n := 1) rfl (by omega) (by omega)) ?_
        refine r_iload_n hC dX6_multiply_27 rfl ?_
        refine z_iald hM dX6_multiply_28 rfl (by omega) (by omega) (fun v7 h_v7 o_v7 t_v7 => ?_)
        refine r_iconst hC dX6_multiply_29 rfl ?_
        refine z_ins2 hM dX6_multiply_30 tl_RX6_164 rfl (Nat.le_of_ble_eq_true rfl) (Nat.le_of_ble_eq_true rfl) ?_
        refine m_restb (by omega) (fun v8 h_v8 => ?_)
        refine z_inv2 hM dX6_multiply_33 vl_RX6_88 rfl rfl rfl (Nat.le_of_ble_eq_true rfl) (Nat.le_of_ble_eq_true rfl) ?_
        refine m_product (by omega) (by omega) (fun v9 h_v9 => ?_)
        refine r_istore_n hC dX6_multiply_36 rfl ?_
        refine r_iincE hC ((w4 + 1)) dX6_multiply_37 rfl rfl (by omega) (by unfold inR; omega) ?_
        refine r_goto (tgt := 13) hC dX6_multiply_40 rfl ?_
        exact ih13 (v9) ((w4 + 1))  (by omega) (by omega)  (by omega) 
  exact L13 243 (v2) (1)  (by omega) (by omega)  (by omega) 
theorem m_share {ea eb : Bool} {d : Nat} {P : Option Vl → Mm → Prop} {σ : Mm} {n : Int} (b_n : 1 ≤ n ∧ n ≤ 242) (hn : σ 30 0 8 = n)  (k : P none σ) : WT (ea, eb, true) (d + 1) 161 [vR 30 0] σ P := by
  refine WT_in fun K hK => ?_
  have hK : StpY (ea, eb, true) cX6_share RX6 (none) (WT (ea, eb, true) (d + 0)) P K := hK
  have hM := hK.1
  have hC := hK.1.1
  show K 0 [some (vR 30 0), none, none, none, none, none] [] σ
  refine r_iconst hC dX6_share_0 rfl ?_
  refine r_istore_n hC dX6_share_1 rfl ?_
  refine r_iconst hC dX6_share_2 rfl ?_
  refine r_istore_n hC dX6_share_3 rfl ?_
  refine r_iconst hC dX6_share_4 rfl ?_
  refine r_istore_n hC dX6_share_5 rfl ?_
  have L6 : ∀ (n6 : Nat) (w1 w2 w3 : Int), 0 ≤ w1 ∧ w1 ≤ 2147483647 → -2147483648 ≤ w2 ∧ w2 ≤ 2147483647 → 0 ≤ w3 ∧ w3 ≤ 242 → 242 - w3 < (n6 : Int) → K 6 [some (vR 30 0), some (vI w1), some (vI w2), some (vI w3), none, none] [] σ := by
    intro n6
    induction n6 with
    | zero => intro w1 w2 w3  f_w1 f_w2 f_w3  hm ; omega
    | succ n6 ih6 =>
      intro w1 w2 w3  f_w1 f_w2 f_w3  hm6 
      refine r_iload_n hC dX6_share_6 rfl ?_
      refine r_aload_n hC dX6_share_7 rfl ?_
      refine z_getI (jz := 8) hM dX6_share_8 fl_RX6_105 rfl rfl rfl (fun v4 h_v4 o_v4 t_v4 => ?_)
      rw [(t_v4 (Or.inr (Or.inr (Or.inr ⟨rfl, rfl⟩)))).trans hn]
      refine r_icmp_ge (tgt := 81) hC dX6_share_11 rfl (fun h5 => ?_) (fun h5 => ?_)
      · refine r_aload_n hC dX6_share_81 rfl ?_
        refine z_getR hM dX6_share_82 fl_RX6_31 rfl rfl (vld_of (n := 1) rfl (by omega) (by omega)) ?_
        refine r_iconst hC dX6_share_85 rfl ?_
        refine r_iload_n hC dX6_share_86 rfl ?_
        refine z_iastU hM dX6_share_87 rfl (by omega) (by omega) (by simp [Un, Tb, DL, DF, DR]) (by simp [Okv]) ?_
        refine r_aload_n hC dX6_share_88 rfl ?_
        refine z_getR hM dX6_share_89 fl_RX6_31 rfl rfl (vld_of (n := 1) rfl (by omega) (by omega)) ?_
        refine r_iconst hC dX6_share_92 rfl ?_
        refine r_iload_n hC dX6_share_93 rfl ?_
        refine z_iastU hM dX6_share_94 rfl (by omega) (by omega) (by simp [Un, Tb, DL, DF, DR]) (by simp [Okv]) ?_
        refine y_vret hK rfl dX6_share_95 ?_
        exact k
      · refine r_aload_n hC dX6_share_14 rfl ?_
        refine z_getR hM dX6_share_15 fl_RX6_28 rfl rfl (vld_of (n := 1) rfl (by omega) (by omega)) ?_
        refine r_iload_n hC dX6_share_18 rfl ?_
        refine z_iald hM dX6_share_19 rfl (by omega) (by omega) (fun v6 h_v6 o_v6 t_v6 => ?_)
        have J39_8 : ∀ (w8 : Int), -2147483648 ≤ w8 ∧ w8 ≤ 2147483647 → K 39 [some (vR 30 0), some (vI w1), some (vI w2), some (vI w3), none, none] [vI w8] σ := by
          intro w8  f_w8 
          refine r_istore hC dX6_share_39 rfl ?_
          refine r_iload_n hC dX6_share_41 rfl ?_
          refine r_iload hC dX6_share_42 rfl ?_
          have J52_11 : ∀ (w11 : Int), 0 ≤ w11 ∧ w11 ≤ 1 → K 52 [some (vR 30 0), some (vI w1), some (vI w2), some (vI w3), some (vI w8), none] [vI w11, vI w2] σ := by
            intro w11  f_w11 
            refine r_iaddG hC dX6_share_52 (fun v13 h_v13 => ?_)
            refine r_istore_n hC dX6_share_53 rfl ?_
            have L54 : ∀ (n54 : Nat) (w14 w15 : Int), 0 ≤ w14 ∧ w14 ≤ 2147483647 → -2147483648 ≤ w15 ∧ w15 ≤ 2147483647 → w15 + 2147483648 < (n54 : Int) → K 54 [some (vR 30 0), some (vI w14), some (vI v13), some (vI w3), some (vI w15), none] [] σ := by
              intro n54
              induction n54 with
              | zero => intro w14 w15  f_w14 f_w15  hm ; omega
              | succ n54 ih54 =>
                intro w14 w15  f_w14 f_w15  hm54 
                refine r_iload hC dX6_share_54 rfl ?_
                refine r_if_le (tgt := 75) hC dX6_share_56 rfl (fun h16 => ?_) (fun h16 => ?_)
                · refine r_iincE hC ((w3 + 1)) dX6_share_75 rfl rfl (by omega) (by unfold inR; omega) ?_
                  refine r_goto (tgt := 6) hC dX6_share_78 rfl ?_
                  refine r_forget hC (ls2 := [some (vR 30 0), some (vI w14), some (vI v13), some (vI (w3 + 1)), none, none]) (lsub_some (lsub_some (lsub_some (lsub_some (lsub_none (lsub_none lsub_nil)))))) ?_
                  exact ih6 (w14) (v13) ((w3 + 1))  (by omega) (by omega) (by omega)  (by omega) 
                · refine r_iload_n hC dX6_share_59 rfl ?_
                  refine r_iload hC dX6_share_60 rfl ?_
                  refine r_iremP hC dX6_share_62 (by omega) (by omega) (fun v17 h_v17 => ?_)
                  refine r_istore hC dX6_share_63 rfl ?_
                  refine r_iload hC dX6_share_65 rfl ?_
                  refine r_istore_n hC dX6_share_67 rfl ?_
                  refine r_iload hC dX6_share_68 rfl ?_
                  refine r_istore hC dX6_share_70 rfl ?_
                  show K _ [_, _, _, _, _, _] _ _
                  refine r_goto (tgt := 54) hC dX6_share_72 rfl ?_
                  refine r_forget hC (ls2 := [some (vR 30 0), some (vI w15), some (vI v13), some (vI w3), some (vI v17), none]) (lsub_some (lsub_some (lsub_some (lsub_some (lsub_some (lsub_none lsub_nil)))))) ?_
                  exact ih54 (w15) (v17)  (by omega) (by omega)  (by omega) 
            exact L54 4294967298 (w1) (w8)  (by omega) (by omega)  (by omega) 
          refine r_if_ne (tgt := 51) hC dX6_share_44 rfl (fun h10 => ?_) (fun h10 => ?_)
          · refine r_iconst hC dX6_share_51 rfl ?_
            exact J52_11 (1)  (by omega) 
          · refine r_iconst hC dX6_share_47 rfl ?_
            refine r_goto (tgt := 52) hC dX6_share_48 rfl ?_
            exact J52_11 (0)  (by omega) 
        refine r_if_ge (tgt := 33) hC dX6_share_20 rfl (fun h7 => ?_) (fun h7 => ?_)
        · refine r_aload_n hC dX6_share_33 rfl ?_
          refine z_getR hM dX6_share_34 fl_RX6_28 rfl rfl (vld_of (n := 1) rfl (by omega) (by omega)) ?_
          refine r_iload_n hC dX6_share_37 rfl ?_
          refine z_iald hM dX6_share_38 rfl (by omega) (by omega) (fun v18 h_v18 o_v18 t_v18 => ?_)
          exact J39_8 (v18)  (by omega) 
        · refine r_aload_n hC dX6_share_23 rfl ?_
          refine z_getR hM dX6_share_24 fl_RX6_28 rfl rfl (vld_of (n := 1) rfl (by omega) (by omega)) ?_
          refine r_iload_n hC dX6_share_27 rfl ?_
          refine z_iald hM dX6_share_28 rfl (by omega) (by omega) (fun v19 h_v19 o_v19 t_v19 => ?_)
          refine r_inegG hC dX6_share_29 (fun v20 h_v20 => ?_)
          refine r_goto (tgt := 39) hC dX6_share_30 rfl ?_
          exact J39_8 (v20)  (by omega) 
  exact L6 244 (0) (0) (0)  (by omega) (by omega) (by omega)  (by omega) 
