-- safety: the reference, first group
def HM (τ : Mm) : Prop := ∀ l : Int, 0 ≤ l → l ≤ 3 → 0 ≤ τ 31 0 (22 * l + 5) ∧ τ 31 0 (22 * l + 5) ≤ 120
theorem HM.h31 {σ : Mm} (h : HM σ) {l : Int} (h0 : 0 ≤ l) (h1 : l ≤ 3) : 0 ≤ σ 31 0 (22 * l + 5) ∧ σ 31 0 (22 * l + 5) ≤ 120 := h l h0 h1
theorem HM.tr {eb : Bool} {σ ρ : Mm} (h : HM σ) (hT : ∀ (c : Nat) (i j : Int), Tk (false, eb, false) c j → ρ c i j = σ c i j) : HM ρ := fun l a b => by
  rw [hT 31 0 (22 * l + 5) (Or.inl (by simp only [Tb]; omega))]
  exact h l a b
theorem qm_isIn {e : Ev} {d : Nat} {P : Option Vl → Mm → Prop} {σ : Mm} {a lo hi : Int}   (k1 : (lo ≤ a ∧ a ≤ hi) → P (some (vI 1)) σ) (k0 : ¬ (lo ≤ a ∧ a ≤ hi) → P (some (vI 0)) σ) : WT e (d + 1) 136 [vI a, vI lo, vI hi] σ P := by
  refine WT_in fun K hK => ?_
  have hK : StpY e cX6_isIn RX6 (some .boolean) (WT e (d + 0)) P K := hK
  have hM := hK.1
  have hC := hK.1.1
  show K 0 [some (vI a), some (vI lo), some (vI hi)] [] σ
  refine r_rngz hC (fun g0 => ?_)
  have r_a : -2147483648 ≤ a ∧ a ≤ 2147483647 := inR_le (g0 (vI a) (by simp))
  have r_lo : -2147483648 ≤ lo ∧ lo ≤ 2147483647 := inR_le (g0 (vI lo) (by simp))
  have r_hi : -2147483648 ≤ hi ∧ hi ≤ 2147483647 := inR_le (g0 (vI hi) (by simp))
  refine r_iload_n hC dX6_isIn_0 rfl ?_
  refine r_iload_n hC dX6_isIn_1 rfl ?_
  refine r_icmp_lt (tgt := 14) hC dX6_isIn_2 rfl (fun h1 => ?_) (fun h1 => ?_)
  · refine r_iconst hC dX6_isIn_14 rfl ?_
    refine y_zret hK rfl dX6_isIn_15 (by omega) ?_
    exact k0 (by omega)
  · refine r_iload_n hC dX6_isIn_5 rfl ?_
    refine r_iload_n hC dX6_isIn_6 rfl ?_
    refine r_icmp_gt (tgt := 14) hC dX6_isIn_7 rfl (fun h2 => ?_) (fun h2 => ?_)
    · refine r_iconst hC dX6_isIn_14 rfl ?_
      refine y_zret hK rfl dX6_isIn_15 (by omega) ?_
      exact k0 (by omega)
    · refine r_iconst hC dX6_isIn_10 rfl ?_
      refine r_goto (tgt := 15) hC dX6_isIn_11 rfl ?_
      refine y_zret hK rfl dX6_isIn_15 (by omega) ?_
      exact k1 (by omega)
theorem qm_of {e : Ev} {d : Nat} {P : Option Vl → Mm → Prop} {σ : Mm} {l f : Int} (b_l : 0 ≤ l ∧ l ≤ 7) (b_f : 0 ≤ f ∧ f ≤ 21)  (k : ∀ r : Int, (-2147483648 ≤ r ∧ r ≤ 2147483647) → (f = 5 → 0 ≤ r ∧ r ≤ 121) → (f = 0 → 0 ≤ r ∧ r ≤ 1) → (Tk e 31 (22 * l + f) → r = σ 31 0 (22 * l + f)) → P (some (vI r)) σ) : WT e (d + 1) 138 [vR 30 0, vI l, vI f] σ P := by
  refine WT_in fun K hK => ?_
  have hK : StpY e cX6_of RX6 (some .int) (WT e (d + 0)) P K := hK
  have hM := hK.1
  have hC := hK.1.1
  show K 0 [some (vR 30 0), some (vI l), some (vI f)] [] σ
  refine r_aload_n hC dX6_of_0 rfl ?_
  refine z_getR hM dX6_of_1 fl_RX6_7 rfl rfl (vld_of (n := 1) rfl (by omega) (by omega)) ?_
  refine r_bipush hC dX6_of_4 rfl ?_
  refine r_iload_n hC dX6_of_6 rfl ?_
  refine r_imulE hC ((22 * l)) dX6_of_7 (by omega) (by unfold inR; omega) ?_
  refine r_iload_n hC dX6_of_8 rfl ?_
  refine r_iaddE hC (((22 * l) + f)) dX6_of_9 (by omega) (by unfold inR; omega) ?_
  refine z_iald hM dX6_of_10 rfl (by omega) (by omega) (fun v1 h_v1 o_v1 t_v1 => ?_)
  refine y_iret hK rfl dX6_of_11 ?_
  exact k _ (by omega) (fun h => o_v1.1 (by omega)) (fun h => by have := o_v1.2 (by omega); omega) t_v1
theorem qm_isLane {e : Ev} {d : Nat} {P : Option Vl → Mm → Prop} {σ : Mm} {l : Int}   (k1 : 0 ≤ l ∧ l ≤ 3 → P (some (vI 1)) σ) (k0 : P (some (vI 0)) σ) : WT e (d + 2) 137 [vR 30 0, vI l] σ P := by
  refine WT_in fun K hK => ?_
  have hK : StpY e cX6_isLane RX6 (some .boolean) (WT e (d + 1)) P K := hK
  have hM := hK.1
  have hC := hK.1.1
  show K 0 [some (vR 30 0), some (vI l)] [] σ
  refine r_rngz hC (fun g0 => ?_)
  have r_l : -2147483648 ≤ l ∧ l ≤ 2147483647 := inR_le (g0 (vI l) (by simp))
  refine r_iload_n hC dX6_isLane_0 rfl ?_
  refine r_iconst hC dX6_isLane_1 rfl ?_
  refine r_iconst hC dX6_isLane_2 rfl ?_
  refine z_ins3 hM dX6_isLane_3 tl_RX6_76 rfl (Nat.le_of_ble_eq_true rfl) (Nat.le_of_ble_eq_true rfl) ?_
  refine qm_isIn (fun h2 => ?_) (fun h2 => ?_)
  · refine r_if_eq (tgt := 28) hC dX6_isLane_6 rfl (fun h3 => by omega) (fun h3 => ?_)
    refine r_aload_n hC dX6_isLane_9 rfl ?_
    refine z_getR hM dX6_isLane_10 fl_RX6_7 rfl rfl (vld_of (n := 1) rfl (by omega) (by omega)) ?_
    refine r_bipush hC dX6_isLane_13 rfl ?_
    refine r_iload_n hC dX6_isLane_15 rfl ?_
    refine r_imulE hC ((22 * l)) dX6_isLane_16 (by omega) (by unfold inR; omega) ?_
    refine r_iconst hC dX6_isLane_17 rfl ?_
    refine r_iaddE hC ((22 * l)) dX6_isLane_18 (by omega) (by unfold inR; omega) ?_
    refine z_iald hM dX6_isLane_19 rfl (by omega) (by omega) (fun v4 h_v4 o_v4 t_v4 => ?_)
    have q_v4 : 0 ≤ v4 ∧ v4 ≤ 1 := by have := o_v4.2 (by omega); omega
    refine r_iconst hC dX6_isLane_20 rfl ?_
    refine r_icmp_ne (tgt := 28) hC dX6_isLane_21 rfl (fun h5 => ?_) (fun h5 => ?_)
    · refine r_iconst hC dX6_isLane_28 rfl ?_
      refine y_zret hK rfl dX6_isLane_29 (by omega) ?_
      exact k0
    · refine r_iconst hC dX6_isLane_24 rfl ?_
      refine r_goto (tgt := 29) hC dX6_isLane_25 rfl ?_
      refine y_zret hK rfl dX6_isLane_29 (by omega) ?_
      exact k1 (by omega)
  · refine r_if_eq (tgt := 28) hC dX6_isLane_6 rfl (fun h6 => ?_) (fun h6 => by omega)
    refine r_iconst hC dX6_isLane_28 rfl ?_
    refine y_zret hK rfl dX6_isLane_29 (by omega) ?_
    exact k0
theorem qm_heldOf {e : Ev} {d : Nat} {P : Option Vl → Mm → Prop} {σ : Mm} {l : Int} (b_l : 0 ≤ l ∧ l ≤ 7)  (k : ∀ r : Int, (0 ≤ r ∧ r ≤ 121) → (True → r = σ 31 0 (22 * l + 5)) → P (some (vI r)) σ) : WT e (d + 2) 141 [vR 30 0, vI l] σ P := by
  refine WT_in fun K hK => ?_
  have hK : StpY e cX6_heldOf RX6 (some .int) (WT e (d + 1)) P K := hK
  have hM := hK.1
  have hC := hK.1.1
  show K 0 [some (vR 30 0), some (vI l)] [] σ
  refine r_aload_n hC dX6_heldOf_0 rfl ?_
  refine r_iload_n hC dX6_heldOf_1 rfl ?_
  refine r_iconst hC dX6_heldOf_2 rfl ?_
  refine z_inv2 hM dX6_heldOf_3 vl_RX6_80 rfl rfl rfl (Nat.le_of_ble_eq_true rfl) (Nat.le_of_ble_eq_true rfl) ?_
  refine qm_of (by omega) (by omega) (fun v1 h_v1 h5_v1 h0_v1 t_v1 => ?_)
  have q_v1 := h5_v1 rfl
  refine y_iret hK rfl dX6_heldOf_6 ?_
  exact k _ (by omega) (fun he => t_v1 (Or.inl (by simp only [Tb]; omega)))
theorem qm_isUsed {e : Ev} {d : Nat} {P : Option Vl → Mm → Prop} {σ : Mm} {o : Int}   (k : ∀ r : Int, 0 ≤ r ∧ r ≤ 1 → P (some (vI r)) σ) : WT e (d + 2) 142 [vR 30 0, vI o] σ P := by
  refine WT_in fun K hK => ?_
  have hK : StpY e cX6_isUsed RX6 (some .boolean) (WT e (d + 1)) P K := hK
  have hM := hK.1
  have hC := hK.1.1
  show K 0 [some (vR 30 0), some (vI o), none] [] σ
  refine r_rngz hC (fun g0 => ?_)
  have r_o : -2147483648 ≤ o ∧ o ≤ 2147483647 := inR_le (g0 (vI o) (by simp))
  refine r_iconst hC dX6_isUsed_0 rfl ?_
  refine r_istore_n hC dX6_isUsed_1 rfl ?_
  have L2 : ∀ (n2 : Nat) (w1 : Int), 0 ≤ w1 ∧ w1 ≤ 7 → 7 - w1 < (n2 : Int) → K 2 [some (vR 30 0), some (vI o), some (vI w1)] [] σ := by
    intro n2
    induction n2 with
    | zero => intro w1  f_w1  hm  ; omega
    | succ n2 ih2 =>
      intro w1  f_w1  hm2  
      refine r_iload_n hC dX6_isUsed_2 rfl ?_
      refine r_bipush hC dX6_isUsed_3 rfl ?_
      refine r_icmp_ge (tgt := 36) hC dX6_isUsed_5 rfl (fun h2 => ?_) (fun h2 => ?_)
      · refine r_iconst hC dX6_isUsed_36 rfl ?_
        refine y_zret hK rfl dX6_isUsed_37 (by omega) ?_
        exact k _ (by omega)
      · refine r_aload_n hC dX6_isUsed_8 rfl ?_
        refine r_iload_n hC dX6_isUsed_9 rfl ?_
        refine r_iconst hC dX6_isUsed_10 rfl ?_
        refine z_inv2 hM dX6_isUsed_11 vl_RX6_80 rfl rfl rfl (Nat.le_of_ble_eq_true rfl) (Nat.le_of_ble_eq_true rfl) ?_
        refine qm_of (by omega) (by omega) (fun v3 h_v3 h5_v3 h0_v3 t_v3 => ?_)
        have q_v3 := h0_v3 rfl
        refine r_iconst hC dX6_isUsed_14 rfl ?_
        refine r_icmp_ne (tgt := 30) hC dX6_isUsed_15 rfl (fun h4 => ?_) (fun h4 => ?_)
        · refine r_iincE hC ((w1 + 1)) dX6_isUsed_30 rfl rfl (by omega) (by unfold inR; omega) ?_
          refine r_goto (tgt := 2) hC dX6_isUsed_33 rfl ?_
          exact ih2 ((w1 + 1))  (by omega)  (by omega)  
        · refine r_aload_n hC dX6_isUsed_18 rfl ?_
          refine r_iload_n hC dX6_isUsed_19 rfl ?_
          refine r_iconst hC dX6_isUsed_20 rfl ?_
          refine z_inv2 hM dX6_isUsed_21 vl_RX6_80 rfl rfl rfl (Nat.le_of_ble_eq_true rfl) (Nat.le_of_ble_eq_true rfl) ?_
          refine qm_of (by omega) (by omega) (fun v5 h_v5 h5_v5 h0_v5 t_v5 => ?_)
          refine r_iload_n hC dX6_isUsed_24 rfl ?_
          refine r_icmp_ne (tgt := 30) hC dX6_isUsed_25 rfl (fun h6 => ?_) (fun h6 => ?_)
          · refine r_iincE hC ((w1 + 1)) dX6_isUsed_30 rfl rfl (by omega) (by unfold inR; omega) ?_
            refine r_goto (tgt := 2) hC dX6_isUsed_33 rfl ?_
            exact ih2 ((w1 + 1))  (by omega)  (by omega)  
          · refine r_iconst hC dX6_isUsed_28 rfl ?_
            refine y_zret hK rfl dX6_isUsed_29 (by omega) ?_
            exact k _ (by omega)
  exact L2 9 (0)  (by omega)  (by omega)  
theorem qm_product {e : Ev} {d : Nat} {P : Option Vl → Mm → Prop} {σ : Mm} {x y : Int} (b_x : 0 ≤ x ∧ x ≤ 3) (b_y : 0 ≤ y ∧ y ≤ 3)  (k : ∀ r : Int, 0 ≤ r ∧ r ≤ 3 → P (some (vI r)) σ) : WT e (d + 1) 145 [vR 30 0, vI x, vI y] σ P := by
  refine WT_in fun K hK => ?_
  have hK : StpY e cX6_product RX6 (some .int) (WT e (d + 0)) P K := hK
  have hM := hK.1
  have hC := hK.1.1
  show K 0 [some (vR 30 0), some (vI x), some (vI y)] [] σ
  refine r_aload_n hC dX6_product_0 rfl ?_
  refine z_getR hM dX6_product_1 fl_RX6_22 rfl rfl (vld_of (n := 1) rfl (by omega) (by omega)) ?_
  refine r_iconst hC dX6_product_4 rfl ?_
  refine r_iload_n hC dX6_product_5 rfl ?_
  refine r_imulE hC ((4 * x)) dX6_product_6 (by omega) (by unfold inR; omega) ?_
  refine r_iload_n hC dX6_product_7 rfl ?_
  refine r_iaddE hC (((4 * x) + y)) dX6_product_8 (by omega) (by unfold inR; omega) ?_
  refine z_iald hM dX6_product_9 rfl (by omega) (by omega) (fun v1 h_v1 o_v1 t_v1 => ?_)
  have q_v1 : 0 ≤ v1 ∧ v1 ≤ 3 := o_v1
  refine y_iret hK rfl dX6_product_10 ?_
  exact k _ (by omega)
theorem qm_associates {e : Ev} {d : Nat} {P : Option Vl → Mm → Prop} {σ : Mm} {t : Int} (b_t : 0 ≤ t ∧ t ≤ 63)  (k : ∀ r : Int, 0 ≤ r ∧ r ≤ 1 → P (some (vI r)) σ) : WT e (d + 2) 146 [vR 30 0, vI t] σ P := by
  refine WT_in fun K hK => ?_
  have hK : StpY e cX6_associates RX6 (some .boolean) (WT e (d + 1)) P K := hK
  have hM := hK.1
  have hC := hK.1.1
  show K 0 [some (vR 30 0), some (vI t), none, none, none] [] σ
  refine r_iload_n hC dX6_associates_0 rfl ?_
  refine r_bipush hC dX6_associates_1 rfl ?_
  refine r_idivN hC dX6_associates_3 (by omega) (by omega) ?_
  refine r_istore_n hC dX6_associates_4 rfl ?_
  refine r_iload_n hC dX6_associates_5 rfl ?_
  refine r_iconst hC dX6_associates_6 rfl ?_
  refine r_idivN hC dX6_associates_7 (by omega) (by omega) ?_
  refine r_iconst hC dX6_associates_8 rfl ?_
  refine r_iremN hC dX6_associates_9 (by omega) (by omega) ?_
  refine r_istore_n hC dX6_associates_10 rfl ?_
  refine r_iload_n hC dX6_associates_11 rfl ?_
  refine r_iconst hC dX6_associates_12 rfl ?_
  refine r_iremN hC dX6_associates_13 (by omega) (by omega) ?_
  refine r_istore hC dX6_associates_14 rfl ?_
  show K _ [_, _, _, _, _] _ _
  refine r_aload_n hC dX6_associates_16 rfl ?_
  refine r_aload_n hC dX6_associates_17 rfl ?_
  refine r_iload_n hC dX6_associates_18 rfl ?_
  refine r_iload_n hC dX6_associates_19 rfl ?_
  refine z_inv2 hM dX6_associates_20 vl_RX6_88 rfl rfl rfl (Nat.le_of_ble_eq_true rfl) (Nat.le_of_ble_eq_true rfl) ?_
  refine qm_product (by omega) (by omega) (fun v1 h_v1 => ?_)
  refine r_iload hC dX6_associates_23 rfl ?_
  refine z_inv2 hM dX6_associates_25 vl_RX6_88 rfl rfl rfl (Nat.le_of_ble_eq_true rfl) (Nat.le_of_ble_eq_true rfl) ?_
  refine qm_product (by omega) (by omega) (fun v2 h_v2 => ?_)
  refine r_aload_n hC dX6_associates_28 rfl ?_
  refine r_iload_n hC dX6_associates_29 rfl ?_
  refine r_aload_n hC dX6_associates_30 rfl ?_
  refine r_iload_n hC dX6_associates_31 rfl ?_
  refine r_iload hC dX6_associates_32 rfl ?_
  refine z_inv2 hM dX6_associates_34 vl_RX6_88 rfl rfl rfl (Nat.le_of_ble_eq_true rfl) (Nat.le_of_ble_eq_true rfl) ?_
  refine qm_product (by omega) (by omega) (fun v3 h_v3 => ?_)
  refine z_inv2 hM dX6_associates_37 vl_RX6_88 rfl rfl rfl (Nat.le_of_ble_eq_true rfl) (Nat.le_of_ble_eq_true rfl) ?_
  refine qm_product (by omega) (by omega) (fun v4 h_v4 => ?_)
  have J48_6 : ∀ (w6 : Int), 0 ≤ w6 ∧ w6 ≤ 1 → K 48 [some (vR 30 0), some (vI t), some (vI (t / 16)), some (vI ((t / 4) % 4)), some (vI (t % 4))] [vI w6] σ := by
    intro w6  f_w6 
    refine y_zret hK rfl dX6_associates_48 (by omega) ?_
    exact k _ (by omega)
  refine r_icmp_ne (tgt := 47) hC dX6_associates_40 rfl (fun h5 => ?_) (fun h5 => ?_)
  · refine r_iconst hC dX6_associates_47 rfl ?_
    exact J48_6 (0)  (by omega) 
  · refine r_iconst hC dX6_associates_43 rfl ?_
    refine r_goto (tgt := 48) hC dX6_associates_44 rfl ?_
    exact J48_6 (1)  (by omega) 
theorem qm_firstThree {e : Ev} {d : Nat} {P : Option Vl → Mm → Prop} {σ : Mm}   (k : ∀ r : Int, -1 ≤ r ∧ r ≤ 63 → P (some (vI r)) σ) : WT e (d + 3) 147 [vR 30 0] σ P := by
  refine WT_in fun K hK => ?_
  have hK : StpY e cX6_firstThree RX6 (some .int) (WT e (d + 2)) P K := hK
  have hM := hK.1
  have hC := hK.1.1
  show K 0 [some (vR 30 0), none] [] σ
  refine r_iconst hC dX6_firstThree_0 rfl ?_
  refine r_istore_n hC dX6_firstThree_1 rfl ?_
  have L2 : ∀ (n2 : Nat) (w1 : Int), 0 ≤ w1 ∧ w1 ≤ 64 → 64 - w1 < (n2 : Int) → K 2 [some (vR 30 0), some (vI w1)] [] σ := by
    intro n2
    induction n2 with
    | zero => intro w1  f_w1  hm  ; omega
    | succ n2 ih2 =>
      intro w1  f_w1  hm2  
      refine r_iload_n hC dX6_firstThree_2 rfl ?_
      refine r_bipush hC dX6_firstThree_3 rfl ?_
      refine r_icmp_ge (tgt := 24) hC dX6_firstThree_5 rfl (fun h2 => ?_) (fun h2 => ?_)
      · refine r_iconst hC dX6_firstThree_24 rfl ?_
        refine y_iret hK rfl dX6_firstThree_25 ?_
        exact k _ (by omega)
      · refine r_aload_n hC dX6_firstThree_8 rfl ?_
        refine r_iload_n hC dX6_firstThree_9 rfl ?_
        refine z_inv1 hM dX6_firstThree_10 vl_RX6_91 rfl rfl rfl (Nat.le_of_ble_eq_true rfl) (Nat.le_of_ble_eq_true rfl) ?_
        refine qm_associates (by omega) (fun v3 h_v3 => ?_)
        refine r_if_ne (tgt := 18) hC dX6_firstThree_13 rfl (fun h4 => ?_) (fun h4 => ?_)
        · refine r_iincE hC ((w1 + 1)) dX6_firstThree_18 rfl rfl (by omega) (by unfold inR; omega) ?_
          refine r_goto (tgt := 2) hC dX6_firstThree_21 rfl ?_
          exact ih2 ((w1 + 1))  (by omega)  (by omega)  
        · refine r_iload_n hC dX6_firstThree_16 rfl ?_
          refine y_iret hK rfl dX6_firstThree_17 ?_
          exact k _ (by omega)
  exact L2 66 (0)  (by omega)  (by omega)  
theorem qm_countAssociating {e : Ev} {d : Nat} {P : Option Vl → Mm → Prop} {σ : Mm}   (k : ∀ r : Int, -2147483648 ≤ r ∧ r ≤ 2147483647 → P (some (vI r)) σ) : WT e (d + 3) 149 [vR 30 0] σ P := by
  refine WT_in fun K hK => ?_
  have hK : StpY e cX6_countAssociating RX6 (some .int) (WT e (d + 2)) P K := hK
  have hM := hK.1
  have hC := hK.1.1
  show K 0 [some (vR 30 0), none, none] [] σ
  refine r_iconst hC dX6_countAssociating_0 rfl ?_
  refine r_istore_n hC dX6_countAssociating_1 rfl ?_
  refine r_iconst hC dX6_countAssociating_2 rfl ?_
  refine r_istore_n hC dX6_countAssociating_3 rfl ?_
  have L4 : ∀ (n4 : Nat) (w1 w2 : Int), -2147483648 ≤ w1 ∧ w1 ≤ 2147483647 → 0 ≤ w2 ∧ w2 ≤ 64 → 64 - w2 < (n4 : Int) → K 4 [some (vR 30 0), some (vI w1), some (vI w2)] [] σ := by
    intro n4
    induction n4 with
    | zero => intro w1 w2  f_w1 f_w2  hm  ; omega
    | succ n4 ih4 =>
      intro w1 w2  f_w1 f_w2  hm4  
      refine r_iload_n hC dX6_countAssociating_4 rfl ?_
      refine r_bipush hC dX6_countAssociating_5 rfl ?_
      refine r_icmp_ge (tgt := 32) hC dX6_countAssociating_7 rfl (fun h3 => ?_) (fun h3 => ?_)
      · refine r_iload_n hC dX6_countAssociating_32 rfl ?_
        refine y_iret hK rfl dX6_countAssociating_33 ?_
        exact k _ (by omega)
      · refine r_iload_n hC dX6_countAssociating_10 rfl ?_
        refine r_aload_n hC dX6_countAssociating_11 rfl ?_
        refine r_iload_n hC dX6_countAssociating_12 rfl ?_
        refine z_inv1 hM dX6_countAssociating_13 vl_RX6_91 rfl rfl rfl (Nat.le_of_ble_eq_true rfl) (Nat.le_of_ble_eq_true rfl) ?_
        refine qm_associates (by omega) (fun v4 h_v4 => ?_)
        have J24_6 : ∀ (w6 : Int), 0 ≤ w6 ∧ w6 ≤ 1 → K 24 [some (vR 30 0), some (vI w1), some (vI w2)] [vI w6, vI w1] σ := by
          intro w6  f_w6 
          refine r_iaddG hC dX6_countAssociating_24 (fun v8 h_v8 => ?_)
          refine r_istore_n hC dX6_countAssociating_25 rfl ?_
          refine r_iincE hC ((w2 + 1)) dX6_countAssociating_26 rfl rfl (by omega) (by unfold inR; omega) ?_
          refine r_goto (tgt := 4) hC dX6_countAssociating_29 rfl ?_
          exact ih4 (v8) ((w2 + 1))  (by omega) (by omega)  (by omega)  
        refine r_if_eq (tgt := 23) hC dX6_countAssociating_16 rfl (fun h5 => ?_) (fun h5 => ?_)
        · refine r_iconst hC dX6_countAssociating_23 rfl ?_
          exact J24_6 (0)  (by omega) 
        · refine r_iconst hC dX6_countAssociating_19 rfl ?_
          refine r_goto (tgt := 24) hC dX6_countAssociating_20 rfl ?_
          exact J24_6 (1)  (by omega) 
  exact L4 66 (0) (0)  (by omega) (by omega)  (by omega)  
theorem qm_triple {e : Ev} {d : Nat} {P : Option Vl → Mm → Prop} {σ : Mm} {w : Int}   (k : ∀ r : Int, -2147483648 ≤ r ∧ r ≤ 2147483647 → P (some (vI r)) σ) : WT e (d + 4) 148 [vR 30 0, vI w] σ P := by
  refine WT_in fun K hK => ?_
  have hK : StpY e cX6_triple RX6 (some .int) (WT e (d + 3)) P K := hK
  have hM := hK.1
  have hC := hK.1.1
  show K 0 [some (vR 30 0), some (vI w), none] [] σ
  refine r_rngz hC (fun g0 => ?_)
  have r_w : -2147483648 ≤ w ∧ w ≤ 2147483647 := inR_le (g0 (vI w) (by simp))
  refine r_iload_n hC dX6_triple_0 rfl ?_
  refine r_iconst hC dX6_triple_1 rfl ?_
  refine r_icmp_ne (tgt := 10) hC dX6_triple_2 rfl (fun h1 => ?_) (fun h1 => ?_)
  · refine r_aload_n hC dX6_triple_10 rfl ?_
    refine z_inv0 hM dX6_triple_11 vl_RX6_98 rfl rfl rfl (Nat.le_of_ble_eq_true rfl) (Nat.le_of_ble_eq_true rfl) ?_
    refine qm_firstThree (fun v2 h_v2 => ?_)
    refine r_istore_n hC dX6_triple_14 rfl ?_
    refine r_iload_n hC dX6_triple_15 rfl ?_
    refine r_if_lt (tgt := 28) hC dX6_triple_16 rfl (fun h3 => ?_) (fun h3 => ?_)
    · refine r_iconst hC dX6_triple_28 rfl ?_
      refine y_iret hK rfl dX6_triple_29 ?_
      exact k _ (by omega)
    · refine r_iload_n hC dX6_triple_19 rfl ?_
      refine r_iconst hC dX6_triple_20 rfl ?_
      refine r_iconst hC dX6_triple_21 rfl ?_
      refine z_ins3 hM dX6_triple_22 tl_RX6_76 rfl (Nat.le_of_ble_eq_true rfl) (Nat.le_of_ble_eq_true rfl) ?_
      refine qm_isIn (fun h5 => ?_) (fun h5 => ?_)
      · refine r_if_ne (tgt := 30) hC dX6_triple_25 rfl (fun h6 => ?_) (fun h6 => by omega)
        refine r_iload_n hC dX6_triple_30 rfl ?_
        have J57_8 : ∀ (w8 : Int), 0 ≤ w8 ∧ w8 ≤ 3 → K 57 [some (vR 30 0), some (vI w), some (vI v2)] [vI w8] σ := by
          intro w8  f_w8 
          refine y_iret hK rfl dX6_triple_57 ?_
          exact k _ (by omega)
        refine r_if_ne (tgt := 41) hC dX6_triple_31 rfl (fun h7 => ?_) (fun h7 => ?_)
        · refine r_iload_n hC dX6_triple_41 rfl ?_
          refine r_iconst hC dX6_triple_42 rfl ?_
          refine r_icmp_ne (tgt := 54) hC dX6_triple_43 rfl (fun h10 => ?_) (fun h10 => ?_)
          · refine r_iload_n hC dX6_triple_54 rfl ?_
            refine r_iconst hC dX6_triple_55 rfl ?_
            refine r_iremN hC dX6_triple_56 (by omega) (by omega) ?_
            exact J57_8 ((v2 % 4))  (by omega) 
          · refine r_iload_n hC dX6_triple_46 rfl ?_
            refine r_iconst hC dX6_triple_47 rfl ?_
            refine r_idivN hC dX6_triple_48 (by omega) (by omega) ?_
            refine r_iconst hC dX6_triple_49 rfl ?_
            refine r_iremN hC dX6_triple_50 (by omega) (by omega) ?_
            refine r_goto (tgt := 57) hC dX6_triple_51 rfl ?_
            exact J57_8 (((v2 / 4) % 4))  (by omega) 
        · refine r_iload_n hC dX6_triple_34 rfl ?_
          refine r_bipush hC dX6_triple_35 rfl ?_
          refine r_idivN hC dX6_triple_37 (by omega) (by omega) ?_
          refine r_goto (tgt := 57) hC dX6_triple_38 rfl ?_
          exact J57_8 ((v2 / 16))  (by omega) 
      · refine r_if_ne (tgt := 30) hC dX6_triple_25 rfl (fun h11 => by omega) (fun h11 => ?_)
        refine r_iconst hC dX6_triple_28 rfl ?_
        refine y_iret hK rfl dX6_triple_29 ?_
        exact k _ (by omega)
  · refine r_aload_n hC dX6_triple_5 rfl ?_
    refine z_inv0 hM dX6_triple_6 vl_RX6_94 rfl rfl rfl (Nat.le_of_ble_eq_true rfl) (Nat.le_of_ble_eq_true rfl) ?_
    refine qm_countAssociating (fun v12 h_v12 => ?_)
    refine y_iret hK rfl dX6_triple_9 ?_
    exact k _ (by omega)
theorem qm_isSuch {e : Ev} {d : Nat} {P : Option Vl → Mm → Prop} {σ : Mm} {x w : Int} (b_x : 0 ≤ x ∧ x ≤ 3)  (k : ∀ r : Int, 0 ≤ r ∧ r ≤ 1 → P (some (vI r)) σ) : WT e (d + 2) 150 [vR 30 0, vI x, vI w] σ P := by
  refine WT_in fun K hK => ?_
  have hK : StpY e cX6_isSuch RX6 (some .boolean) (WT e (d + 1)) P K := hK
  have hM := hK.1
  have hC := hK.1.1
  show K 0 [some (vR 30 0), some (vI x), some (vI w), none, none] [] σ
  refine r_rngz hC (fun g0 => ?_)
  have r_w : -2147483648 ≤ w ∧ w ≤ 2147483647 := inR_le (g0 (vI w) (by simp))
  refine r_iconst hC dX6_isSuch_0 rfl ?_
  refine r_istore_n hC dX6_isSuch_1 rfl ?_
  have L2 : ∀ (n2 : Nat) (w1 : Int), 0 ≤ w1 ∧ w1 ≤ 4 → 4 - w1 < (n2 : Int) → K 2 [some (vR 30 0), some (vI x), some (vI w), some (vI w1), none] [] σ := by
    intro n2
    induction n2 with
    | zero => intro w1  f_w1  hm  ; omega
    | succ n2 ih2 =>
      intro w1  f_w1  hm2  
      refine r_iload_n hC dX6_isSuch_2 rfl ?_
      refine r_iconst hC dX6_isSuch_3 rfl ?_
      refine r_icmp_ge (tgt := 48) hC dX6_isSuch_4 rfl (fun h2 => ?_) (fun h2 => ?_)
      · refine r_iconst hC dX6_isSuch_48 rfl ?_
        refine y_zret hK rfl dX6_isSuch_49 (by omega) ?_
        exact k _ (by omega)
      · refine r_iload_n hC dX6_isSuch_7 rfl ?_
        have J16_4 : ∀ (w4 : Int), 0 ≤ w4 ∧ w4 ≤ 3 → K 16 [some (vR 30 0), some (vI x), some (vI w), some (vI w1), none] [vI w4] σ := by
          intro w4  f_w4 
          refine r_istore hC dX6_isSuch_16 rfl ?_
          refine r_aload_n hC dX6_isSuch_18 rfl ?_
          refine r_iload_n hC dX6_isSuch_19 rfl ?_
          refine r_iload_n hC dX6_isSuch_20 rfl ?_
          refine z_inv2 hM dX6_isSuch_21 vl_RX6_88 rfl rfl rfl (Nat.le_of_ble_eq_true rfl) (Nat.le_of_ble_eq_true rfl) ?_
          refine qm_product (by omega) (by omega) (fun v6 h_v6 => ?_)
          refine r_iload hC dX6_isSuch_24 rfl ?_
          refine r_icmp_ne (tgt := 40) hC dX6_isSuch_26 rfl (fun h7 => ?_) (fun h7 => ?_)
          · refine r_iconst hC dX6_isSuch_40 rfl ?_
            refine y_zret hK rfl dX6_isSuch_41 (by omega) ?_
            exact k _ (by omega)
          · refine r_aload_n hC dX6_isSuch_29 rfl ?_
            refine r_iload_n hC dX6_isSuch_30 rfl ?_
            refine r_iload_n hC dX6_isSuch_31 rfl ?_
            refine z_inv2 hM dX6_isSuch_32 vl_RX6_88 rfl rfl rfl (Nat.le_of_ble_eq_true rfl) (Nat.le_of_ble_eq_true rfl) ?_
            refine qm_product (by omega) (by omega) (fun v8 h_v8 => ?_)
            refine r_iload hC dX6_isSuch_35 rfl ?_
            refine r_icmp_eq (tgt := 42) hC dX6_isSuch_37 rfl (fun h9 => ?_) (fun h9 => ?_)
            · refine r_iincE hC ((w1 + 1)) dX6_isSuch_42 rfl rfl (by omega) (by unfold inR; omega) ?_
              refine r_goto (tgt := 2) hC dX6_isSuch_45 rfl ?_
              refine r_forget hC (ls2 := [some (vR 30 0), some (vI x), some (vI w), some (vI (w1 + 1)), none]) (lsub_some (lsub_some (lsub_some (lsub_some (lsub_none lsub_nil))))) ?_
              exact ih2 ((w1 + 1))  (by omega)  (by omega)  
            · refine r_iconst hC dX6_isSuch_40 rfl ?_
              refine y_zret hK rfl dX6_isSuch_41 (by omega) ?_
              exact k _ (by omega)
        refine r_if_ne (tgt := 15) hC dX6_isSuch_8 rfl (fun h3 => ?_) (fun h3 => ?_)
        · refine r_iload_n hC dX6_isSuch_15 rfl ?_
          exact J16_4 (x)  (by omega) 
        · refine r_iload_n hC dX6_isSuch_11 rfl ?_
          refine r_goto (tgt := 16) hC dX6_isSuch_12 rfl ?_
          exact J16_4 (w1)  (by omega) 
  exact L2 6 (0)  (by omega)  (by omega)  
theorem qm_element {e : Ev} {d : Nat} {P : Option Vl → Mm → Prop} {σ : Mm} {w : Int}   (k : ∀ r : Int, -2147483648 ≤ r ∧ r ≤ 2147483647 → P (some (vI r)) σ) : WT e (d + 3) 151 [vR 30 0, vI w] σ P := by
  refine WT_in fun K hK => ?_
  have hK : StpY e cX6_element RX6 (some .int) (WT e (d + 2)) P K := hK
  have hM := hK.1
  have hC := hK.1.1
  show K 0 [some (vR 30 0), some (vI w), none, none] [] σ
  refine r_rngz hC (fun g0 => ?_)
  have r_w : -2147483648 ≤ w ∧ w ≤ 2147483647 := inR_le (g0 (vI w) (by simp))
  refine r_iload_n hC dX6_element_0 rfl ?_
  refine r_iconst hC dX6_element_1 rfl ?_
  refine r_iconst hC dX6_element_2 rfl ?_
  refine z_ins3 hM dX6_element_3 tl_RX6_76 rfl (Nat.le_of_ble_eq_true rfl) (Nat.le_of_ble_eq_true rfl) ?_
  refine qm_isIn (fun h2 => ?_) (fun h2 => ?_)
  · refine r_if_eq (tgt := 35) hC dX6_element_6 rfl (fun h3 => by omega) (fun h3 => ?_)
    refine r_iconst hC dX6_element_9 rfl ?_
    refine r_istore_n hC dX6_element_10 rfl ?_
    have L11 : ∀ (n11 : Nat) (w4 : Int), 0 ≤ w4 ∧ w4 ≤ 4 → 4 - w4 < (n11 : Int) → K 11 [some (vR 30 0), some (vI w), some (vI w4), none] [] σ := by
      intro n11
      induction n11 with
      | zero => intro w4  f_w4  hm  ; omega
      | succ n11 ih11 =>
        intro w4  f_w4  hm11  
        refine r_iload_n hC dX6_element_11 rfl ?_
        refine r_iconst hC dX6_element_12 rfl ?_
        refine r_icmp_ge (tgt := 33) hC dX6_element_13 rfl (fun h5 => ?_) (fun h5 => ?_)
        · refine r_iconst hC dX6_element_33 rfl ?_
          refine y_iret hK rfl dX6_element_34 ?_
          exact k _ (by omega)
        · refine r_aload_n hC dX6_element_16 rfl ?_
          refine r_iload_n hC dX6_element_17 rfl ?_
          refine r_iload_n hC dX6_element_18 rfl ?_
          refine z_inv2 hM dX6_element_19 vl_RX6_101 rfl rfl rfl (Nat.le_of_ble_eq_true rfl) (Nat.le_of_ble_eq_true rfl) ?_
          refine qm_isSuch (by omega) (fun v6 h_v6 => ?_)
          refine r_if_eq (tgt := 27) hC dX6_element_22 rfl (fun h7 => ?_) (fun h7 => ?_)
          · refine r_iincE hC ((w4 + 1)) dX6_element_27 rfl rfl (by omega) (by unfold inR; omega) ?_
            refine r_goto (tgt := 11) hC dX6_element_30 rfl ?_
            exact ih11 ((w4 + 1))  (by omega)  (by omega)  
          · refine r_iload_n hC dX6_element_25 rfl ?_
            refine y_iret hK rfl dX6_element_26 ?_
            exact k _ (by omega)
    exact L11 6 (0)  (by omega)  (by omega)  
  · refine r_if_eq (tgt := 35) hC dX6_element_6 rfl (fun h8 => ?_) (fun h8 => by omega)
    refine r_iconst hC dX6_element_35 rfl ?_
    refine r_istore_n hC dX6_element_36 rfl ?_
    refine r_iload_n hC dX6_element_37 rfl ?_
    refine r_iconst hC dX6_element_38 rfl ?_
    refine r_icmp_ne (tgt := 75) hC dX6_element_39 rfl (fun h9 => ?_) (fun h9 => ?_)
    · refine r_iload_n hC dX6_element_75 rfl ?_
      refine r_iconst hC dX6_element_76 rfl ?_
      refine r_icmp_eq (tgt := 82) hC dX6_element_77 rfl (fun h10 => ?_) (fun h10 => ?_)
      · refine r_iconst hC dX6_element_82 rfl ?_
        refine r_istore_n hC dX6_element_83 rfl ?_
        have L84 : ∀ (n84 : Nat) (w11 w12 : Int), -2147483648 ≤ w11 ∧ w11 ≤ 2147483647 → 0 ≤ w12 ∧ w12 ≤ 16 → 16 - w12 < (n84 : Int) → K 84 [some (vR 30 0), some (vI w), some (vI w11), some (vI w12)] [] σ := by
          intro n84
          induction n84 with
          | zero => intro w11 w12  f_w11 f_w12  hm  ; omega
          | succ n84 ih84 =>
            intro w11 w12  f_w11 f_w12  hm84  
            refine r_iload_n hC dX6_element_84 rfl ?_
            refine r_bipush hC dX6_element_85 rfl ?_
            refine r_icmp_ge (tgt := 127) hC dX6_element_87 rfl (fun h13 => ?_) (fun h13 => ?_)
            · refine r_iload_n hC dX6_element_127 rfl ?_
              refine y_iret hK rfl dX6_element_128 ?_
              exact k _ (by omega)
            · refine r_iload_n hC dX6_element_90 rfl ?_
              refine r_aload_n hC dX6_element_91 rfl ?_
              refine r_iload_n hC dX6_element_92 rfl ?_
              refine r_iconst hC dX6_element_93 rfl ?_
              refine r_idivN hC dX6_element_94 (by omega) (by omega) ?_
              refine r_iload_n hC dX6_element_95 rfl ?_
              refine r_iconst hC dX6_element_96 rfl ?_
              refine r_iremN hC dX6_element_97 (by omega) (by omega) ?_
              refine z_inv2 hM dX6_element_98 vl_RX6_88 rfl rfl rfl (Nat.le_of_ble_eq_true rfl) (Nat.le_of_ble_eq_true rfl) ?_
              refine qm_product (by omega) (by omega) (fun v14 h_v14 => ?_)
              refine r_aload_n hC dX6_element_101 rfl ?_
              refine r_iload_n hC dX6_element_102 rfl ?_
              refine r_iconst hC dX6_element_103 rfl ?_
              refine r_iremN hC dX6_element_104 (by omega) (by omega) ?_
              refine r_iload_n hC dX6_element_105 rfl ?_
              refine r_iconst hC dX6_element_106 rfl ?_
              refine r_idivN hC dX6_element_107 (by omega) (by omega) ?_
              refine z_inv2 hM dX6_element_108 vl_RX6_88 rfl rfl rfl (Nat.le_of_ble_eq_true rfl) (Nat.le_of_ble_eq_true rfl) ?_
              refine qm_product (by omega) (by omega) (fun v15 h_v15 => ?_)
              have J119_17 : ∀ (w17 : Int), 0 ≤ w17 ∧ w17 ≤ 1 → K 119 [some (vR 30 0), some (vI w), some (vI w11), some (vI w12)] [vI w17, vI w11] σ := by
                intro w17  f_w17 
                refine r_iaddG hC dX6_element_119 (fun v19 h_v19 => ?_)
                refine r_istore_n hC dX6_element_120 rfl ?_
                refine r_iincE hC ((w12 + 1)) dX6_element_121 rfl rfl (by omega) (by unfold inR; omega) ?_
                refine r_goto (tgt := 84) hC dX6_element_124 rfl ?_
                exact ih84 (v19) ((w12 + 1))  (by omega) (by omega)  (by omega)  
              refine r_icmp_ne (tgt := 118) hC dX6_element_111 rfl (fun h16 => ?_) (fun h16 => ?_)
              · refine r_iconst hC dX6_element_118 rfl ?_
                exact J119_17 (0)  (by omega) 
              · refine r_iconst hC dX6_element_114 rfl ?_
                refine r_goto (tgt := 119) hC dX6_element_115 rfl ?_
                exact J119_17 (1)  (by omega) 
        exact L84 18 (0) (0)  (by omega) (by omega)  (by omega)  
      · refine r_iconst hC dX6_element_80 rfl ?_
        refine y_iret hK rfl dX6_element_81 ?_
        exact k _ (by omega)
    · refine r_iconst hC dX6_element_42 rfl ?_
      refine r_istore_n hC dX6_element_43 rfl ?_
      have L44 : ∀ (n44 : Nat) (w20 w21 : Int), -2147483648 ≤ w20 ∧ w20 ≤ 2147483647 → 0 ≤ w21 ∧ w21 ≤ 4 → 4 - w21 < (n44 : Int) → K 44 [some (vR 30 0), some (vI w), some (vI w20), some (vI w21)] [] σ := by
        intro n44
        induction n44 with
        | zero => intro w20 w21  f_w20 f_w21  hm  ; omega
        | succ n44 ih44 =>
          intro w20 w21  f_w20 f_w21  hm44  
          refine r_iload_n hC dX6_element_44 rfl ?_
          refine r_iconst hC dX6_element_45 rfl ?_
          refine r_icmp_ge (tgt := 73) hC dX6_element_46 rfl (fun h22 => ?_) (fun h22 => ?_)
          · refine r_iload_n hC dX6_element_73 rfl ?_
            refine y_iret hK rfl dX6_element_74 ?_
            exact k _ (by omega)
          · refine r_iload_n hC dX6_element_49 rfl ?_
            refine r_aload_n hC dX6_element_50 rfl ?_
            refine r_iload_n hC dX6_element_51 rfl ?_
            refine r_iload_n hC dX6_element_52 rfl ?_
            refine z_inv2 hM dX6_element_53 vl_RX6_88 rfl rfl rfl (Nat.le_of_ble_eq_true rfl) (Nat.le_of_ble_eq_true rfl) ?_
            refine qm_product (by omega) (by omega) (fun v23 h_v23 => ?_)
            refine r_iload_n hC dX6_element_56 rfl ?_
            have J65_25 : ∀ (w25 : Int), 0 ≤ w25 ∧ w25 ≤ 1 → K 65 [some (vR 30 0), some (vI w), some (vI w20), some (vI w21)] [vI w25, vI w20] σ := by
              intro w25  f_w25 
              refine r_iaddG hC dX6_element_65 (fun v27 h_v27 => ?_)
              refine r_istore_n hC dX6_element_66 rfl ?_
              refine r_iincE hC ((w21 + 1)) dX6_element_67 rfl rfl (by omega) (by unfold inR; omega) ?_
              refine r_goto (tgt := 44) hC dX6_element_70 rfl ?_
              exact ih44 (v27) ((w21 + 1))  (by omega) (by omega)  (by omega)  
            refine r_icmp_ne (tgt := 64) hC dX6_element_57 rfl (fun h24 => ?_) (fun h24 => ?_)
            · refine r_iconst hC dX6_element_64 rfl ?_
              exact J65_25 (0)  (by omega) 
            · refine r_iconst hC dX6_element_60 rfl ?_
              refine r_goto (tgt := 65) hC dX6_element_61 rfl ?_
              exact J65_25 (1)  (by omega) 
      exact L44 6 (0) (0)  (by omega) (by omega)  (by omega)  
theorem qm_howMany {e : Ev} {d : Nat} {P : Option Vl → Mm → Prop} {σ : Mm} {o : Int}   (k : ∀ r : Int, 1 ≤ r ∧ r ≤ 7 → P (some (vI r)) σ) : WT e (d + 1) 156 [vI o] σ P := by
  refine WT_in fun K hK => ?_
  have hK : StpY e cX6_howMany RX6 (some .int) (WT e (d + 0)) P K := hK
  have hM := hK.1
  have hC := hK.1.1
  show K 0 [some (vI o)] [] σ
  refine r_rngz hC (fun g0 => ?_)
  have r_o : -2147483648 ≤ o ∧ o ≤ 2147483647 := inR_le (g0 (vI o) (by simp))
  refine r_iload_n hC dX6_howMany_0 rfl ?_
  rcases (by omega : (o < 0 ∨ 8 < o) ∨ o = 0 ∨ o = 1 ∨ o = 2 ∨ o = 3 ∨ o = 4 ∨ o = 5 ∨ o = 6 ∨ o = 7 ∨ o = 8) with h1 | h1 | h1 | h1 | h1 | h1 | h1 | h1 | h1 | h1
  · refine r_tableOut (tgt := 71) hC dX6_howMany_1 h1 rfl ?_
    refine r_iconst hC dX6_howMany_71 rfl ?_
    refine y_iret hK rfl dX6_howMany_72 ?_
    exact k _ (by omega)
  · refine r_tableIn (tgt := 52) (off := 51) hC dX6_howMany_1 (by omega) (by omega) (by rw [h1]; rfl) rfl ?_
    refine r_iconst hC dX6_howMany_52 rfl ?_
    refine y_iret hK rfl dX6_howMany_53 ?_
    exact k _ (by omega)
  · refine r_tableIn (tgt := 54) (off := 53) hC dX6_howMany_1 (by omega) (by omega) (by rw [h1]; rfl) rfl ?_
    refine r_iconst hC dX6_howMany_54 rfl ?_
    refine y_iret hK rfl dX6_howMany_55 ?_
    exact k _ (by omega)
  · refine r_tableIn (tgt := 56) (off := 55) hC dX6_howMany_1 (by omega) (by omega) (by rw [h1]; rfl) rfl ?_
    refine r_iconst hC dX6_howMany_56 rfl ?_
    refine y_iret hK rfl dX6_howMany_57 ?_
    exact k _ (by omega)
  · refine r_tableIn (tgt := 58) (off := 57) hC dX6_howMany_1 (by omega) (by omega) (by rw [h1]; rfl) rfl ?_
    refine r_iconst hC dX6_howMany_58 rfl ?_
    refine y_iret hK rfl dX6_howMany_59 ?_
    exact k _ (by omega)
  · refine r_tableIn (tgt := 60) (off := 59) hC dX6_howMany_1 (by omega) (by omega) (by rw [h1]; rfl) rfl ?_
    refine r_iconst hC dX6_howMany_60 rfl ?_
    refine y_iret hK rfl dX6_howMany_61 ?_
    exact k _ (by omega)
  · refine r_tableIn (tgt := 62) (off := 61) hC dX6_howMany_1 (by omega) (by omega) (by rw [h1]; rfl) rfl ?_
    refine r_iconst hC dX6_howMany_62 rfl ?_
    refine y_iret hK rfl dX6_howMany_63 ?_
    exact k _ (by omega)
  · refine r_tableIn (tgt := 64) (off := 63) hC dX6_howMany_1 (by omega) (by omega) (by rw [h1]; rfl) rfl ?_
    refine r_bipush hC dX6_howMany_64 rfl ?_
    refine y_iret hK rfl dX6_howMany_66 ?_
    exact k _ (by omega)
  · refine r_tableIn (tgt := 67) (off := 66) hC dX6_howMany_1 (by omega) (by omega) (by rw [h1]; rfl) rfl ?_
    refine r_iconst hC dX6_howMany_67 rfl ?_
    refine y_iret hK rfl dX6_howMany_68 ?_
    exact k _ (by omega)
  · refine r_tableIn (tgt := 69) (off := 68) hC dX6_howMany_1 (by omega) (by omega) (by rw [h1]; rfl) rfl ?_
    refine r_iconst hC dX6_howMany_69 rfl ?_
    refine y_iret hK rfl dX6_howMany_70 ?_
    exact k _ (by omega)
theorem qm_isNumber {e : Ev} {d : Nat} {P : Option Vl → Mm → Prop} {σ : Mm} {l w : Int}   (k1 : 0 ≤ l ∧ l ≤ 3 ∧ 0 ≤ w ∧ w ≤ 6 → P (some (vI 1)) σ) (k0 : P (some (vI 0)) σ) : WT e (d + 3) 157 [vR 30 0, vI l, vI w] σ P := by
  refine WT_in fun K hK => ?_
  have hK : StpY e cX6_isNumber RX6 (some .boolean) (WT e (d + 2)) P K := hK
  have hM := hK.1
  have hC := hK.1.1
  show K 0 [some (vR 30 0), some (vI l), some (vI w)] [] σ
  refine r_rngz hC (fun g0 => ?_)
  have r_l : -2147483648 ≤ l ∧ l ≤ 2147483647 := inR_le (g0 (vI l) (by simp))
  have r_w : -2147483648 ≤ w ∧ w ≤ 2147483647 := inR_le (g0 (vI w) (by simp))
  refine r_aload_n hC dX6_isNumber_0 rfl ?_
  refine r_iload_n hC dX6_isNumber_1 rfl ?_
  refine z_inv1 hM dX6_isNumber_2 vl_RX6_124 rfl rfl rfl (Nat.le_of_ble_eq_true rfl) (Nat.le_of_ble_eq_true rfl) ?_
  refine qm_isLane (fun h1 => ?_) ?_
  · refine r_if_eq (tgt := 31) hC dX6_isNumber_5 rfl (fun h2 => by omega) (fun h2 => ?_)
    refine r_iload_n hC dX6_isNumber_8 rfl ?_
    refine r_iconst hC dX6_isNumber_9 rfl ?_
    refine r_aload_n hC dX6_isNumber_10 rfl ?_
    refine r_iload_n hC dX6_isNumber_11 rfl ?_
    refine r_iconst hC dX6_isNumber_12 rfl ?_
    refine z_inv2 hM dX6_isNumber_13 vl_RX6_80 rfl rfl rfl (Nat.le_of_ble_eq_true rfl) (Nat.le_of_ble_eq_true rfl) ?_
    refine qm_of (by omega) (by omega) (fun v3 h_v3 h5_v3 h0_v3 t_v3 => ?_)
    refine z_ins1 hM dX6_isNumber_16 tl_RX6_127 rfl (Nat.le_of_ble_eq_true rfl) (Nat.le_of_ble_eq_true rfl) ?_
    refine qm_howMany (fun v4 h_v4 => ?_)
    refine r_iconst hC dX6_isNumber_19 rfl ?_
    refine r_isubE hC ((v4 - 1)) dX6_isNumber_20 (by omega) (by unfold inR; omega) ?_
    refine z_ins3 hM dX6_isNumber_21 tl_RX6_76 rfl (Nat.le_of_ble_eq_true rfl) (Nat.le_of_ble_eq_true rfl) ?_
    refine qm_isIn (fun h6 => ?_) (fun h6 => ?_)
    · refine r_if_eq (tgt := 31) hC dX6_isNumber_24 rfl (fun h7 => by omega) (fun h7 => ?_)
      refine r_iconst hC dX6_isNumber_27 rfl ?_
      refine r_goto (tgt := 32) hC dX6_isNumber_28 rfl ?_
      refine y_zret hK rfl dX6_isNumber_32 (by omega) ?_
      exact k1 (by omega)
    · refine r_if_eq (tgt := 31) hC dX6_isNumber_24 rfl (fun h8 => ?_) (fun h8 => by omega)
      refine r_iconst hC dX6_isNumber_31 rfl ?_
      refine y_zret hK rfl dX6_isNumber_32 (by omega) ?_
      exact k0
  · refine r_if_eq (tgt := 31) hC dX6_isNumber_5 rfl (fun h9 => ?_) (fun h9 => by omega)
    refine r_iconst hC dX6_isNumber_31 rfl ?_
    refine y_zret hK rfl dX6_isNumber_32 (by omega) ?_
    exact k0
theorem qm_isEvent {e : Ev} {d : Nat} {P : Option Vl → Mm → Prop} {σ : Mm} {l x : Int}   (k1 : 0 ≤ l ∧ l ≤ 3 ∧ 0 ≤ x ∧ x ≤ 120 → (True → x < σ 31 0 (22 * l + 5)) → P (some (vI 1)) σ) (k0 : P (some (vI 0)) σ) : WT e (d + 3) 209 [vR 30 0, vI l, vI x] σ P := by
  refine WT_in fun K hK => ?_
  have hK : StpY e cX6_isEvent RX6 (some .boolean) (WT e (d + 2)) P K := hK
  have hM := hK.1
  have hC := hK.1.1
  show K 0 [some (vR 30 0), some (vI l), some (vI x)] [] σ
  refine r_rngz hC (fun g0 => ?_)
  have r_l : -2147483648 ≤ l ∧ l ≤ 2147483647 := inR_le (g0 (vI l) (by simp))
  have r_x : -2147483648 ≤ x ∧ x ≤ 2147483647 := inR_le (g0 (vI x) (by simp))
  refine r_aload_n hC dX6_isEvent_0 rfl ?_
  refine r_iload_n hC dX6_isEvent_1 rfl ?_
  refine z_inv1 hM dX6_isEvent_2 vl_RX6_124 rfl rfl rfl (Nat.le_of_ble_eq_true rfl) (Nat.le_of_ble_eq_true rfl) ?_
  refine qm_isLane (fun h1 => ?_) ?_
  · refine r_if_eq (tgt := 27) hC dX6_isEvent_5 rfl (fun h2 => by omega) (fun h2 => ?_)
    refine r_iload_n hC dX6_isEvent_8 rfl ?_
    refine r_iconst hC dX6_isEvent_9 rfl ?_
    refine r_aload_n hC dX6_isEvent_10 rfl ?_
    refine r_iload_n hC dX6_isEvent_11 rfl ?_
    refine z_inv1 hM dX6_isEvent_12 vl_RX6_116 rfl rfl rfl (Nat.le_of_ble_eq_true rfl) (Nat.le_of_ble_eq_true rfl) ?_
    refine qm_heldOf (by omega) (fun v3 h_v3 t_v3 => ?_)
    refine r_iconst hC dX6_isEvent_15 rfl ?_
    refine r_isubE hC ((v3 - 1)) dX6_isEvent_16 (by omega) (by unfold inR; omega) ?_
    refine z_ins3 hM dX6_isEvent_17 tl_RX6_76 rfl (Nat.le_of_ble_eq_true rfl) (Nat.le_of_ble_eq_true rfl) ?_
    refine qm_isIn (fun h5 => ?_) (fun h5 => ?_)
    · refine r_if_eq (tgt := 27) hC dX6_isEvent_20 rfl (fun h6 => by omega) (fun h6 => ?_)
      refine r_iconst hC dX6_isEvent_23 rfl ?_
      refine r_goto (tgt := 28) hC dX6_isEvent_24 rfl ?_
      refine y_zret hK rfl dX6_isEvent_28 (by omega) ?_
      exact k1 (by omega) (fun he => by have := t_v3 he; omega)
    · refine r_if_eq (tgt := 27) hC dX6_isEvent_20 rfl (fun h7 => ?_) (fun h7 => by omega)
      refine r_iconst hC dX6_isEvent_27 rfl ?_
      refine y_zret hK rfl dX6_isEvent_28 (by omega) ?_
      exact k0
  · refine r_if_eq (tgt := 27) hC dX6_isEvent_5 rfl (fun h8 => ?_) (fun h8 => by omega)
    refine r_iconst hC dX6_isEvent_27 rfl ?_
    refine y_zret hK rfl dX6_isEvent_28 (by omega) ?_
    exact k0
theorem qm_isTold {e : Ev} {d : Nat} {P : Option Vl → Mm → Prop} {σ : Mm} {v : Int}   (k1 : 0 ≤ v ∧ v ≤ 7 → P (some (vI 1)) σ) (k0 : P (some (vI 0)) σ) : WT e (d + 2) 183 [vR 30 0, vI v] σ P := by
  refine WT_in fun K hK => ?_
  have hK : StpY e cX6_isTold RX6 (some .boolean) (WT e (d + 1)) P K := hK
  have hM := hK.1
  have hC := hK.1.1
  show K 0 [some (vR 30 0), some (vI v)] [] σ
  refine r_rngz hC (fun g0 => ?_)
  have r_v : -2147483648 ≤ v ∧ v ≤ 2147483647 := inR_le (g0 (vI v) (by simp))
  refine r_iload_n hC dX6_isTold_0 rfl ?_
  refine r_iconst hC dX6_isTold_1 rfl ?_
  refine r_bipush hC dX6_isTold_2 rfl ?_
  refine z_ins3 hM dX6_isTold_4 tl_RX6_76 rfl (Nat.le_of_ble_eq_true rfl) (Nat.le_of_ble_eq_true rfl) ?_
  refine qm_isIn (fun h2 => ?_) (fun h2 => ?_)
  · refine r_if_eq (tgt := 23) hC dX6_isTold_7 rfl (fun h3 => by omega) (fun h3 => ?_)
    refine r_aload_n hC dX6_isTold_10 rfl ?_
    refine z_getR hM dX6_isTold_11 fl_RX6_34 rfl rfl (vld_of (n := 1) rfl (by omega) (by omega)) ?_
    refine r_iload_n hC dX6_isTold_14 rfl ?_
    refine z_iald hM dX6_isTold_15 rfl (by omega) (by omega) (fun v4 h_v4 o_v4 t_v4 => ?_)
    refine r_if_lt (tgt := 23) hC dX6_isTold_16 rfl (fun h5 => ?_) (fun h5 => ?_)
    · refine r_iconst hC dX6_isTold_23 rfl ?_
      refine y_zret hK rfl dX6_isTold_24 (by omega) ?_
      exact k0
    · refine r_iconst hC dX6_isTold_19 rfl ?_
      refine r_goto (tgt := 24) hC dX6_isTold_20 rfl ?_
      refine y_zret hK rfl dX6_isTold_24 (by omega) ?_
      exact k1 (by omega)
  · refine r_if_eq (tgt := 23) hC dX6_isTold_7 rfl (fun h6 => ?_) (fun h6 => by omega)
    refine r_iconst hC dX6_isTold_23 rfl ?_
    refine y_zret hK rfl dX6_isTold_24 (by omega) ?_
    exact k0
theorem qm_areAlike {e : Ev} {d : Nat} {P : Option Vl → Mm → Prop} {σ : Mm} {l o : Int}   (k1 : 0 ≤ l ∧ l ≤ 3 ∧ 0 ≤ o ∧ o ≤ 3 → P (some (vI 1)) σ) (k0 : P (some (vI 0)) σ) : WT e (d + 3) 231 [vR 30 0, vI l, vI o] σ P := by
  refine WT_in fun K hK => ?_
  have hK : StpY e cX6_areAlike RX6 (some .boolean) (WT e (d + 2)) P K := hK
  have hM := hK.1
  have hC := hK.1.1
  show K 0 [some (vR 30 0), some (vI l), some (vI o)] [] σ
  refine r_rngz hC (fun g0 => ?_)
  have r_l : -2147483648 ≤ l ∧ l ≤ 2147483647 := inR_le (g0 (vI l) (by simp))
  have r_o : -2147483648 ≤ o ∧ o ≤ 2147483647 := inR_le (g0 (vI o) (by simp))
  refine r_aload_n hC dX6_areAlike_0 rfl ?_
  refine r_iload_n hC dX6_areAlike_1 rfl ?_
  refine z_inv1 hM dX6_areAlike_2 vl_RX6_124 rfl rfl rfl (Nat.le_of_ble_eq_true rfl) (Nat.le_of_ble_eq_true rfl) ?_
  refine qm_isLane (fun h1 => ?_) ?_
  · refine r_if_eq (tgt := 35) hC dX6_areAlike_5 rfl (fun h2 => by omega) (fun h2 => ?_)
    refine r_aload_n hC dX6_areAlike_8 rfl ?_
    refine r_iload_n hC dX6_areAlike_9 rfl ?_
    refine z_inv1 hM dX6_areAlike_10 vl_RX6_124 rfl rfl rfl (Nat.le_of_ble_eq_true rfl) (Nat.le_of_ble_eq_true rfl) ?_
    refine qm_isLane (fun h3 => ?_) ?_
    · refine r_if_eq (tgt := 35) hC dX6_areAlike_13 rfl (fun h4 => by omega) (fun h4 => ?_)
      refine r_aload_n hC dX6_areAlike_16 rfl ?_
      refine r_iload_n hC dX6_areAlike_17 rfl ?_
      refine r_iconst hC dX6_areAlike_18 rfl ?_
      refine z_inv2 hM dX6_areAlike_19 vl_RX6_80 rfl rfl rfl (Nat.le_of_ble_eq_true rfl) (Nat.le_of_ble_eq_true rfl) ?_
      refine qm_of (by omega) (by omega) (fun v5 h_v5 h5_v5 h0_v5 t_v5 => ?_)
      refine r_aload_n hC dX6_areAlike_22 rfl ?_
      refine r_iload_n hC dX6_areAlike_23 rfl ?_
      refine r_iconst hC dX6_areAlike_24 rfl ?_
      refine z_inv2 hM dX6_areAlike_25 vl_RX6_80 rfl rfl rfl (Nat.le_of_ble_eq_true rfl) (Nat.le_of_ble_eq_true rfl) ?_
      refine qm_of (by omega) (by omega) (fun v6 h_v6 h5_v6 h0_v6 t_v6 => ?_)
      refine r_icmp_ne (tgt := 35) hC dX6_areAlike_28 rfl (fun h7 => ?_) (fun h7 => ?_)
      · refine r_iconst hC dX6_areAlike_35 rfl ?_
        refine y_zret hK rfl dX6_areAlike_36 (by omega) ?_
        exact k0
      · refine r_iconst hC dX6_areAlike_31 rfl ?_
        refine r_goto (tgt := 36) hC dX6_areAlike_32 rfl ?_
        refine y_zret hK rfl dX6_areAlike_36 (by omega) ?_
        exact k1 (by omega)
    · refine r_if_eq (tgt := 35) hC dX6_areAlike_13 rfl (fun h8 => ?_) (fun h8 => by omega)
      refine r_iconst hC dX6_areAlike_35 rfl ?_
      refine y_zret hK rfl dX6_areAlike_36 (by omega) ?_
      exact k0
  · refine r_if_eq (tgt := 35) hC dX6_areAlike_5 rfl (fun h9 => ?_) (fun h9 => by omega)
    refine r_iconst hC dX6_areAlike_35 rfl ?_
    refine y_zret hK rfl dX6_areAlike_36 (by omega) ?_
    exact k0
theorem qm_isReached {e : Ev} {d : Nat} {P : Option Vl → Mm → Prop} {σ : Mm} {a b : Int}   (k : ∀ r : Int, 0 ≤ r ∧ r ≤ 1 → P (some (vI r)) σ) : WT e (d + 1) 173 [vI a, vI b] σ P := by
  refine WT_in fun K hK => ?_
  have hK : StpY e cX6_isReached RX6 (some .boolean) (WT e (d + 0)) P K := hK
  have hM := hK.1
  have hC := hK.1.1
  show K 0 [some (vI a), some (vI b)] [] σ
  refine r_rngz hC (fun g0 => ?_)
  have r_a : -2147483648 ≤ a ∧ a ≤ 2147483647 := inR_le (g0 (vI a) (by simp))
  have r_b : -2147483648 ≤ b ∧ b ≤ 2147483647 := inR_le (g0 (vI b) (by simp))
  refine r_iload_n hC dX6_isReached_0 rfl ?_
  refine r_ldc hC dX6_isReached_1 co_RX6_160 rfl ?_
  have J16_2 : ∀ (w2 : Int), 0 ≤ w2 ∧ w2 ≤ 1 → K 16 [some (vI a), some (vI b)] [vI w2] σ := by
    intro w2  f_w2 
    refine y_zret hK rfl dX6_isReached_16 (by omega) ?_
    exact k _ (by omega)
  refine r_icmp_eq (tgt := 15) hC dX6_isReached_3 rfl (fun h1 => ?_) (fun h1 => ?_)
  · refine r_iconst hC dX6_isReached_15 rfl ?_
    exact J16_2 (0)  (by omega) 
  · refine r_iload_n hC dX6_isReached_6 rfl ?_
    refine r_iload_n hC dX6_isReached_7 rfl ?_
    refine r_icmp_lt (tgt := 15) hC dX6_isReached_8 rfl (fun h4 => ?_) (fun h4 => ?_)
    · refine r_iconst hC dX6_isReached_15 rfl ?_
      exact J16_2 (0)  (by omega) 
    · refine r_iconst hC dX6_isReached_11 rfl ?_
      refine r_goto (tgt := 16) hC dX6_isReached_12 rfl ?_
      exact J16_2 (1)  (by omega) 
theorem qm_bits {e : Ev} {d : Nat} {P : Option Vl → Mm → Prop} {σ : Mm} {a : Int}   (k : ∀ r : Int, -2147483648 ≤ r ∧ r ≤ 2147483647 → P (some (vI r)) σ) : WT e (d + 1) 166 [vI a] σ P := by
  refine WT_in fun K hK => ?_
  have hK : StpY e cX6_bits RX6 (some .int) (WT e (d + 0)) P K := hK
  have hM := hK.1
  have hC := hK.1.1
  show K 0 [some (vI a), none, none] [] σ
  refine r_rngz hC (fun g0 => ?_)
  have r_a : -2147483648 ≤ a ∧ a ≤ 2147483647 := inR_le (g0 (vI a) (by simp))
  refine r_iconst hC dX6_bits_0 rfl ?_
  refine r_istore_n hC dX6_bits_1 rfl ?_
  refine r_iconst hC dX6_bits_2 rfl ?_
  refine r_istore_n hC dX6_bits_3 rfl ?_
  have L4 : ∀ (n4 : Nat) (w1 w2 : Int), -2147483648 ≤ w1 ∧ w1 ≤ 2147483647 → 0 ≤ w2 ∧ w2 ≤ 4 → 4 - w2 < (n4 : Int) → K 4 [some (vI a), some (vI w1), some (vI w2)] [] σ := by
    intro n4
    induction n4 with
    | zero => intro w1 w2  f_w1 f_w2  hm  ; omega
    | succ n4 ih4 =>
      intro w1 w2  f_w1 f_w2  hm4  
      refine r_iload_n hC dX6_bits_4 rfl ?_
      refine r_iconst hC dX6_bits_5 rfl ?_
      refine r_icmp_ge (tgt := 23) hC dX6_bits_6 rfl (fun h3 => ?_) (fun h3 => ?_)
      · refine r_iload_n hC dX6_bits_23 rfl ?_
        refine y_iret hK rfl dX6_bits_24 ?_
        exact k _ (by omega)
      · refine r_iload_n hC dX6_bits_9 rfl ?_
        refine r_iload_n hC dX6_bits_10 rfl ?_
        refine r_iload_n hC dX6_bits_11 rfl ?_
        refine r_ishrG hC dX6_bits_12 (fun v4 h_v4 => ?_)
        refine r_iconst hC dX6_bits_13 rfl ?_
        refine r_iandB hC dX6_bits_14 (by omega) (inR_lit rfl) (fun v5 h_v5 => ?_)
        refine r_iaddG hC dX6_bits_15 (fun v6 h_v6 => ?_)
        refine r_istore_n hC dX6_bits_16 rfl ?_
        refine r_iincE hC ((w2 + 1)) dX6_bits_17 rfl rfl (by omega) (by unfold inR; omega) ?_
        refine r_goto (tgt := 4) hC dX6_bits_20 rfl ?_
        exact ih4 (v6) ((w2 + 1))  (by omega) (by omega)  (by omega)  
  exact L4 6 (0) (0)  (by omega) (by omega)  (by omega)  
theorem qm_rest {e : Ev} {d : Nat} {P : Option Vl → Mm → Prop} {σ : Mm} {a b : Int} (b_b : 1 ≤ b ∧ b ≤ 1000)  (k : ∀ r : Int, -998 ≤ r ∧ r ≤ 999 → P (some (vI r)) σ) : WT e (d + 1) 162 [vI a, vI b] σ P := by
  refine WT_in fun K hK => ?_
  have hK : StpY e cX6_rest RX6 (some .int) (WT e (d + 0)) P K := hK
  have hM := hK.1
  have hC := hK.1.1
  show K 0 [some (vI a), some (vI b), none] [] σ
  refine r_rngz hC (fun g0 => ?_)
  have r_a : -2147483648 ≤ a ∧ a ≤ 2147483647 := inR_le (g0 (vI a) (by simp))
  refine r_iload_n hC dX6_rest_0 rfl ?_
  refine r_iload_n hC dX6_rest_1 rfl ?_
  refine r_iremG hC dX6_rest_2 (by omega) (fun v1 h_v1 p_v1 m_v1 => ?_)
  refine r_istore_n hC dX6_rest_3 rfl ?_
  refine r_iload_n hC dX6_rest_4 rfl ?_
  have J15_3 : ∀ (w3 : Int), -998 ≤ w3 ∧ w3 ≤ 999 → K 15 [some (vI a), some (vI b), some (vI v1)] [vI w3] σ := by
    intro w3  f_w3 
    refine y_iret hK rfl dX6_rest_15 ?_
    exact k _ (by omega)
  refine r_if_ge (tgt := 14) hC dX6_rest_5 rfl (fun h2 => ?_) (fun h2 => ?_)
  · refine r_iload_n hC dX6_rest_14 rfl ?_
    exact J15_3 (v1)  (by omega) 
  · refine r_iload_n hC dX6_rest_8 rfl ?_
    refine r_iload_n hC dX6_rest_9 rfl ?_
    refine r_iaddE hC ((v1 + b)) dX6_rest_10 (by omega) (by unfold inR; omega) ?_
    refine r_goto (tgt := 15) hC dX6_rest_11 rfl ?_
    exact J15_3 ((v1 + b))  (by omega) 
theorem qm_restb {e : Ev} {d : Nat} {P : Option Vl → Mm → Prop} {σ : Mm} {a b : Int} (b_b : 1 ≤ b ∧ b ≤ 1000)  (k : ∀ r : Int, 0 ≤ r ∧ r ≤ b - 1 → P (some (vI r)) σ) : WT e (d + 1) 162 [vI a, vI b] σ P := by
  refine WT_in fun K hK => ?_
  have hK : StpY e cX6_rest RX6 (some .int) (WT e (d + 0)) P K := hK
  have hM := hK.1
  have hC := hK.1.1
  show K 0 [some (vI a), some (vI b), none] [] σ
  refine r_rngz hC (fun g0 => ?_)
  have r_a : -2147483648 ≤ a ∧ a ≤ 2147483647 := inR_le (g0 (vI a) (by simp))
  refine r_iload_n hC dX6_rest_0 rfl ?_
  refine r_iload_n hC dX6_rest_1 rfl ?_
  refine r_iremG hC dX6_rest_2 (by omega) (fun v1 h_v1 p_v1 m_v1 => ?_)
  refine r_istore_n hC dX6_rest_3 rfl ?_
  refine r_iload_n hC dX6_rest_4 rfl ?_
  refine r_if_ge (tgt := 14) hC dX6_rest_5 rfl (fun h2 => ?_) (fun h2 => ?_)
  · refine r_iload_n hC dX6_rest_14 rfl ?_
    refine y_iret hK rfl dX6_rest_15 ?_
    exact k _ (by omega)
  · refine r_iload_n hC dX6_rest_8 rfl ?_
    refine r_iload_n hC dX6_rest_9 rfl ?_
    refine r_iaddE hC ((v1 + b)) dX6_rest_10 (by omega) (by unfold inR; omega) ?_
    refine r_goto (tgt := 15) hC dX6_rest_11 rfl ?_
    refine y_iret hK rfl dX6_rest_15 ?_
    exact k _ (by omega)
theorem qm_greatest {eb : Bool} {d : Nat} {P : Option Vl → Mm → Prop} {σ : Mm} {n : Int} (b_n : 1 ≤ n ∧ n ≤ 242) (hn : σ 30 0 8 = n)  (k : P none σ) : WT (false, eb, true) (d + 1) 160 [vR 30 0] σ P := by
  refine WT_in fun K hK => ?_
  have hK : StpY (false, eb, true) cX6_greatest RX6 (none) (WT (false, eb, true) (d + 0)) P K := hK
  have hM := hK.1
  have hC := hK.1.1
  show K 0 [some (vR 30 0), none, none, none] [] σ
  refine r_iconst hC dX6_greatest_0 rfl ?_
  refine r_istore_n hC dX6_greatest_1 rfl ?_
  refine r_iconst hC dX6_greatest_2 rfl ?_
  refine r_istore_n hC dX6_greatest_3 rfl ?_
  refine r_iconst hC dX6_greatest_4 rfl ?_
  refine r_istore_n hC dX6_greatest_5 rfl ?_
  have L6 : ∀ (n6 : Nat) (w1 w2 : Int), 0 ≤ w1 ∧ w1 ≤ 242 → 0 ≤ w2 ∧ w2 ≤ 241 → 242 - w1 < (n6 : Int) → K 6 [some (vR 30 0), some (vI w2), some (vI 0), some (vI w1)] [] σ := by
    intro n6
    induction n6 with
    | zero => intro w1 w2  f_w1 f_w2  hm  ; omega
    | succ n6 ih6 =>
      intro w1 w2  f_w1 f_w2  hm6  
      refine r_iload_n hC dX6_greatest_6 rfl ?_
      refine r_aload_n hC dX6_greatest_7 rfl ?_
      refine z_getI (jz := 8) hM dX6_greatest_8 fl_RX6_105 rfl rfl rfl (fun v3 h_v3 o_v3 t_v3 => ?_)
      rw [(t_v3 (Or.inr (Or.inr (Or.inr ⟨rfl, rfl⟩)))).trans hn]
      refine r_icmp_ge (tgt := 37) hC dX6_greatest_11 rfl (fun h4 => ?_) (fun h4 => ?_)
      · refine r_iconst hC dX6_greatest_37 rfl ?_
        refine r_istore_n hC dX6_greatest_38 rfl ?_
        have L39 : ∀ (n39 : Nat) (w5 w6 : Int), -2147483648 ≤ w5 ∧ w5 ≤ 2147483647 → 0 ≤ w6 ∧ w6 ≤ 242 → 242 - w6 < (n39 : Int) → K 39 [some (vR 30 0), some (vI w2), some (vI w5), some (vI w6)] [] σ := by
          intro n39
          induction n39 with
          | zero => intro w5 w6  f_w5 f_w6  hm  ; omega
          | succ n39 ih39 =>
            intro w5 w6  f_w5 f_w6  hm39  
            refine r_iload_n hC dX6_greatest_39 rfl ?_
            refine r_aload_n hC dX6_greatest_40 rfl ?_
            refine z_getI (jz := 8) hM dX6_greatest_41 fl_RX6_105 rfl rfl rfl (fun v7 h_v7 o_v7 t_v7 => ?_)
            rw [(t_v7 (Or.inr (Or.inr (Or.inr ⟨rfl, rfl⟩)))).trans hn]
            refine r_icmp_ge (tgt := 76) hC dX6_greatest_44 rfl (fun h8 => ?_) (fun h8 => ?_)
            · refine r_aload_n hC dX6_greatest_76 rfl ?_
              refine z_getR hM dX6_greatest_77 fl_RX6_31 rfl rfl (vld_of (n := 1) rfl (by omega) (by omega)) ?_
              refine r_iconst hC dX6_greatest_80 rfl ?_
              refine r_aload_n hC dX6_greatest_81 rfl ?_
              refine z_getR hM dX6_greatest_82 fl_RX6_28 rfl rfl (vld_of (n := 1) rfl (by omega) (by omega)) ?_
              refine r_iload_n hC dX6_greatest_85 rfl ?_
              refine z_iald hM dX6_greatest_86 rfl (by omega) (by omega) (fun v9 h_v9 o_v9 t_v9 => ?_)
              refine z_iastU hM dX6_greatest_87 rfl (by omega) (by omega) (by simp [Un, Tb, DL, DF, DR, DX]) (by simp [Okv]) ?_
              refine r_aload_n hC dX6_greatest_88 rfl ?_
              refine z_getR hM dX6_greatest_89 fl_RX6_31 rfl rfl (vld_of (n := 1) rfl (by omega) (by omega)) ?_
              refine r_iconst hC dX6_greatest_92 rfl ?_
              refine r_iload_n hC dX6_greatest_93 rfl ?_
              refine z_iastU hM dX6_greatest_94 rfl (by omega) (by omega) (by simp [Un, Tb, DL, DF, DR, DX]) (by simp [Okv]) ?_
              refine r_aload_n hC dX6_greatest_95 rfl ?_
              refine z_getR hM dX6_greatest_96 fl_RX6_31 rfl rfl (vld_of (n := 1) rfl (by omega) (by omega)) ?_
              refine r_iconst hC dX6_greatest_99 rfl ?_
              refine r_iload_n hC dX6_greatest_100 rfl ?_
              refine z_iastU hM dX6_greatest_101 rfl (by omega) (by omega) (by simp [Un, Tb, DL, DF, DR, DX]) (by simp [Okv]) ?_
              refine r_aload_n hC dX6_greatest_102 rfl ?_
              refine z_getR hM dX6_greatest_103 fl_RX6_31 rfl rfl (vld_of (n := 1) rfl (by omega) (by omega)) ?_
              refine r_iconst hC dX6_greatest_106 rfl ?_
              refine r_aload_n hC dX6_greatest_107 rfl ?_
              refine z_getI (jz := 8) hM dX6_greatest_108 fl_RX6_105 rfl rfl rfl (fun v10 h_v10 o_v10 t_v10 => ?_)
              rw [(t_v10 (Or.inr (Or.inr (Or.inr ⟨rfl, rfl⟩)))).trans hn]
              refine z_iastU hM dX6_greatest_111 rfl (by omega) (by omega) (by simp [Un, Tb, DL, DF, DR, DX]) (by simp [Okv]) ?_
              refine y_vret hK rfl dX6_greatest_112 ?_
              exact k
            · refine r_iload_n hC dX6_greatest_47 rfl ?_
              refine r_aload_n hC dX6_greatest_48 rfl ?_
              refine z_getR hM dX6_greatest_49 fl_RX6_28 rfl rfl (vld_of (n := 1) rfl (by omega) (by omega)) ?_
              refine r_iload_n hC dX6_greatest_52 rfl ?_
              refine z_iald hM dX6_greatest_53 rfl (by omega) (by omega) (fun v11 h_v11 o_v11 t_v11 => ?_)
              refine r_aload_n hC dX6_greatest_54 rfl ?_
              refine z_getR hM dX6_greatest_55 fl_RX6_28 rfl rfl (vld_of (n := 1) rfl (by omega) (by omega)) ?_
              refine r_iload_n hC dX6_greatest_58 rfl ?_
              refine z_iald hM dX6_greatest_59 rfl (by omega) (by omega) (fun v12 h_v12 o_v12 t_v12 => ?_)
              have J68_14 : ∀ (w14 : Int), 0 ≤ w14 ∧ w14 ≤ 1 → K 68 [some (vR 30 0), some (vI w2), some (vI w5), some (vI w6)] [vI w14, vI w5] σ := by
                intro w14  f_w14 
                refine r_iaddG hC dX6_greatest_68 (fun v16 h_v16 => ?_)
                refine r_istore_n hC dX6_greatest_69 rfl ?_
                refine r_iincE hC ((w6 + 1)) dX6_greatest_70 rfl rfl (by omega) (by unfold inR; omega) ?_
                refine r_goto (tgt := 39) hC dX6_greatest_73 rfl ?_
                exact ih39 (v16) ((w6 + 1))  (by omega) (by omega)  (by omega)  
              refine r_icmp_ne (tgt := 67) hC dX6_greatest_60 rfl (fun h13 => ?_) (fun h13 => ?_)
              · refine r_iconst hC dX6_greatest_67 rfl ?_
                exact J68_14 (0)  (by omega) 
              · refine r_iconst hC dX6_greatest_63 rfl ?_
                refine r_goto (tgt := 68) hC dX6_greatest_64 rfl ?_
                exact J68_14 (1)  (by omega) 
        exact L39 244 (0) (0)  (by omega) (by omega)  (by omega)  
      · refine r_aload_n hC dX6_greatest_14 rfl ?_
        refine z_getR hM dX6_greatest_15 fl_RX6_28 rfl rfl (vld_of (n := 1) rfl (by omega) (by omega)) ?_
        refine r_iload_n hC dX6_greatest_18 rfl ?_
        refine z_iald hM dX6_greatest_19 rfl (by omega) (by omega) (fun v17 h_v17 o_v17 t_v17 => ?_)
        refine r_aload_n hC dX6_greatest_20 rfl ?_
        refine z_getR hM dX6_greatest_21 fl_RX6_28 rfl rfl (vld_of (n := 1) rfl (by omega) (by omega)) ?_
        refine r_iload_n hC dX6_greatest_24 rfl ?_
        refine z_iald hM dX6_greatest_25 rfl (by omega) (by omega) (fun v18 h_v18 o_v18 t_v18 => ?_)
        have J31_20 : ∀ (w20 : Int), 0 ≤ w20 ∧ w20 ≤ 241 → K 31 [some (vR 30 0), some (vI w20), some (vI 0), some (vI w1)] [] σ := by
          intro w20  f_w20 
          refine r_iincE hC ((w1 + 1)) dX6_greatest_31 rfl rfl (by omega) (by unfold inR; omega) ?_
          refine r_goto (tgt := 6) hC dX6_greatest_34 rfl ?_
          exact ih6 ((w1 + 1)) (w20)  (by omega) (by omega)  (by omega)  
        refine r_icmp_le (tgt := 31) hC dX6_greatest_26 rfl (fun h19 => ?_) (fun h19 => ?_)
        · exact J31_20 (w2)  (by omega)
        · refine r_iload_n hC dX6_greatest_29 rfl ?_
          refine r_istore_n hC dX6_greatest_30 rfl ?_
          exact J31_20 (w1)  (by omega) 
  exact L6 244 (0) (0)  (by omega) (by omega)  (by omega)  
theorem qm_line {eb : Bool} {d : Nat} {P : Option Vl → Mm → Prop} {σ : Mm} {n : Int} (b_n : 1 ≤ n ∧ n ≤ 242) (hn : σ 30 0 8 = n)  (k : P none σ) : WT (false, eb, true) (d + 2) 163 [vR 30 0] σ P := by
  refine WT_in fun K hK => ?_
  have hK : StpY (false, eb, true) cX6_line RX6 (none) (WT (false, eb, true) (d + 1)) P K := hK
  have hM := hK.1
  have hC := hK.1.1
  show K 0 [some (vR 30 0), none, none, none, none] [] σ
  refine r_iconst hC dX6_line_0 rfl ?_
  refine r_istore_n hC dX6_line_1 rfl ?_
  refine r_iconst hC dX6_line_2 rfl ?_
  refine r_istore_n hC dX6_line_3 rfl ?_
  refine r_iconst hC dX6_line_4 rfl ?_
  refine r_istore_n hC dX6_line_5 rfl ?_
  have L6 : ∀ (n6 : Nat) (w1 w2 w3 : Int), 0 ≤ w1 ∧ w1 ≤ 996 → 0 ≤ w2 ∧ w2 ≤ 996 → 0 ≤ w3 ∧ w3 ≤ 242 → 242 - w3 < (n6 : Int) → K 6 [some (vR 30 0), some (vI w1), some (vI w2), some (vI w3), none] [] σ := by
    intro n6
    induction n6 with
    | zero => intro w1 w2 w3  f_w1 f_w2 f_w3  hm  ; omega
    | succ n6 ih6 =>
      intro w1 w2 w3  f_w1 f_w2 f_w3  hm6  
      refine r_iload_n hC dX6_line_6 rfl ?_
      refine r_aload_n hC dX6_line_7 rfl ?_
      refine z_getI (jz := 8) hM dX6_line_8 fl_RX6_105 rfl rfl rfl (fun v4 h_v4 o_v4 t_v4 => ?_)
      rw [(t_v4 (Or.inr (Or.inr (Or.inr ⟨rfl, rfl⟩)))).trans hn]
      refine r_icmp_ge (tgt := 70) hC dX6_line_11 rfl (fun h5 => ?_) (fun h5 => ?_)
      · refine r_aload_n hC dX6_line_70 rfl ?_
        refine z_getR hM dX6_line_71 fl_RX6_31 rfl rfl (vld_of (n := 1) rfl (by omega) (by omega)) ?_
        refine r_iconst hC dX6_line_74 rfl ?_
        refine r_iload_n hC dX6_line_75 rfl ?_
        refine z_iastU hM dX6_line_76 rfl (by omega) (by omega) (by simp [Un, Tb, DL, DF, DR, DX]) (by simp [Okv]) ?_
        refine r_aload_n hC dX6_line_77 rfl ?_
        refine z_getR hM dX6_line_78 fl_RX6_31 rfl rfl (vld_of (n := 1) rfl (by omega) (by omega)) ?_
        refine r_iconst hC dX6_line_81 rfl ?_
        refine r_iload_n hC dX6_line_82 rfl ?_
        refine z_iastU hM dX6_line_83 rfl (by omega) (by omega) (by simp [Un, Tb, DL, DF, DR, DX]) (by simp [Okv]) ?_
        refine y_vret hK rfl dX6_line_84 ?_
        exact k
      · refine r_aload_n hC dX6_line_14 rfl ?_
        refine z_getR hM dX6_line_15 fl_RX6_28 rfl rfl (vld_of (n := 1) rfl (by omega) (by omega)) ?_
        refine r_iload_n hC dX6_line_18 rfl ?_
        refine z_iald hM dX6_line_19 rfl (by omega) (by omega) (fun v6 h_v6 o_v6 t_v6 => ?_)
        refine r_sipush hC dX6_line_20 rfl ?_
        refine z_ins2 hM dX6_line_23 tl_RX6_164 rfl (Nat.le_of_ble_eq_true rfl) (Nat.le_of_ble_eq_true rfl) ?_
        refine qm_restb (by omega) (fun v7 h_v7 => ?_)
        refine r_istore hC dX6_line_26 rfl ?_
        refine r_iload hC dX6_line_28 rfl ?_
        refine r_iload_n hC dX6_line_30 rfl ?_
        have m8 := mul_nn (a := v7) (b := w1) (A := 996) (B := 996) (by omega) (by omega) (by omega) (by omega)
        refine r_imulE hC ((v7 * w1)) dX6_line_31 (by omega) (by unfold inR; omega) ?_
        refine r_sipush hC dX6_line_32 rfl ?_
        refine r_iremN hC dX6_line_35 (by omega) (by omega) ?_
        refine r_istore_n hC dX6_line_36 rfl ?_
        refine r_iload hC dX6_line_37 rfl ?_
        refine r_iload_n hC dX6_line_39 rfl ?_
        have m9 := mul_nn (a := v7) (b := w2) (A := 996) (B := 996) (by omega) (by omega) (by omega) (by omega)
        refine r_imulE hC ((v7 * w2)) dX6_line_40 (by omega) (by unfold inR; omega) ?_
        refine r_bipush hC dX6_line_41 rfl ?_
        refine r_aload_n hC dX6_line_43 rfl ?_
        refine z_getR hM dX6_line_44 fl_RX6_28 rfl rfl (vld_of (n := 1) rfl (by omega) (by omega)) ?_
        refine r_iload_n hC dX6_line_47 rfl ?_
        refine z_iald hM dX6_line_48 rfl (by omega) (by omega) (fun v10 h_v10 o_v10 t_v10 => ?_)
        refine r_imulG hC dX6_line_49 (fun v11 h_v11 => ?_)
        refine r_iconst hC dX6_line_50 rfl ?_
        refine r_iaddG hC dX6_line_51 (fun v12 h_v12 => ?_)
        refine r_sipush hC dX6_line_52 rfl ?_
        refine z_ins2 hM dX6_line_55 tl_RX6_164 rfl (Nat.le_of_ble_eq_true rfl) (Nat.le_of_ble_eq_true rfl) ?_
        refine qm_restb (by omega) (fun v13 h_v13 => ?_)
        refine r_iaddE hC (((v7 * w2) + v13)) dX6_line_58 (by omega) (by unfold inR; omega) ?_
        refine r_sipush hC dX6_line_59 rfl ?_
        refine r_iremN hC dX6_line_62 (by omega) (by omega) ?_
        refine r_istore_n hC dX6_line_63 rfl ?_
        show K _ [_, _, _, _, _] _ _
        refine r_iincE hC ((w3 + 1)) dX6_line_64 rfl rfl (by omega) (by unfold inR; omega) ?_
        refine r_goto (tgt := 6) hC dX6_line_67 rfl ?_
        refine r_forget hC (ls2 := [some (vR 30 0), some (vI ((v7 * w1) % 997)), some (vI (((v7 * w2) + v13) % 997)), some (vI (w3 + 1)), none]) (lsub_some (lsub_some (lsub_some (lsub_some (lsub_none lsub_nil))))) ?_
        exact ih6 (((v7 * w1) % 997)) ((((v7 * w2) + v13) % 997)) ((w3 + 1))  (by omega) (by omega) (by omega)  (by omega)  
  exact L6 244 (1) (0) (0)  (by omega) (by omega) (by omega)  (by omega)  
theorem qm_run {eb : Bool} {d : Nat} {P : Option Vl → Mm → Prop} {σ : Mm} {n : Int} (b_n : 1 ≤ n ∧ n ≤ 242) (hn : σ 30 0 8 = n)  (k : P none σ) : WT (false, eb, true) (d + 1) 164 [vR 30 0] σ P := by
  refine WT_in fun K hK => ?_
  have hK : StpY (false, eb, true) cX6_run RX6 (none) (WT (false, eb, true) (d + 0)) P K := hK
  have hM := hK.1
  have hC := hK.1.1
  show K 0 [some (vR 30 0), none, none, none, none, none, none, none] [] σ
  refine r_iconst hC dX6_run_0 rfl ?_
  refine r_istore_n hC dX6_run_1 rfl ?_
  refine r_ldc hC dX6_run_2 co_RX6_160 rfl ?_
  refine r_istore_n hC dX6_run_4 rfl ?_
  refine r_ldc hC dX6_run_5 co_RX6_160 rfl ?_
  refine r_istore_n hC dX6_run_7 rfl ?_
  show K _ [_, _, _, _, _, _, _, _] _ _
  refine r_ldc hC dX6_run_8 co_RX6_160 rfl ?_
  refine r_istore hC dX6_run_10 rfl ?_
  refine r_iconst hC dX6_run_12 rfl ?_
  refine r_istore hC dX6_run_13 rfl ?_
  have L15 : ∀ (n15 : Nat) (w1 w2 w3 w4 w5 : Int), -2147483648 ≤ w1 ∧ w1 ≤ 2147483647 → -2147483648 ≤ w2 ∧ w2 ≤ 2147483647 → -2147483648 ≤ w3 ∧ w3 ≤ 2147483647 → -2147483648 ≤ w4 ∧ w4 ≤ 2147483647 → 0 ≤ w5 ∧ w5 ≤ 242 → 242 - w5 < (n15 : Int) → K 15 [some (vR 30 0), some (vI w1), some (vI w2), some (vI w3), some (vI w4), some (vI w5), none, none] [] σ := by
    intro n15
    induction n15 with
    | zero => intro w1 w2 w3 w4 w5  f_w1 f_w2 f_w3 f_w4 f_w5  hm  ; omega
    | succ n15 ih15 =>
      intro w1 w2 w3 w4 w5  f_w1 f_w2 f_w3 f_w4 f_w5  hm15  
      refine r_iload hC dX6_run_15 rfl ?_
      refine r_aload_n hC dX6_run_17 rfl ?_
      refine z_getI (jz := 8) hM dX6_run_18 fl_RX6_105 rfl rfl rfl (fun v6 h_v6 o_v6 t_v6 => ?_)
      rw [(t_v6 (Or.inr (Or.inr (Or.inr ⟨rfl, rfl⟩)))).trans hn]
      refine r_icmp_ge (tgt := 101) hC dX6_run_21 rfl (fun h7 => ?_) (fun h7 => ?_)
      · refine r_aload_n hC dX6_run_101 rfl ?_
        refine z_getR hM dX6_run_102 fl_RX6_31 rfl rfl (vld_of (n := 1) rfl (by omega) (by omega)) ?_
        refine r_iconst hC dX6_run_105 rfl ?_
        refine r_iload_n hC dX6_run_106 rfl ?_
        refine z_iastU hM dX6_run_107 rfl (by omega) (by omega) (by simp [Un, Tb, DL, DF, DR, DX]) (by simp [Okv]) ?_
        refine r_aload_n hC dX6_run_108 rfl ?_
        refine z_getR hM dX6_run_109 fl_RX6_31 rfl rfl (vld_of (n := 1) rfl (by omega) (by omega)) ?_
        refine r_iconst hC dX6_run_112 rfl ?_
        refine r_iload_n hC dX6_run_113 rfl ?_
        refine z_iastU hM dX6_run_114 rfl (by omega) (by omega) (by simp [Un, Tb, DL, DF, DR, DX]) (by simp [Okv]) ?_
        refine r_aload_n hC dX6_run_115 rfl ?_
        refine z_getR hM dX6_run_116 fl_RX6_31 rfl rfl (vld_of (n := 1) rfl (by omega) (by omega)) ?_
        refine r_iconst hC dX6_run_119 rfl ?_
        refine r_iload_n hC dX6_run_120 rfl ?_
        refine z_iastU hM dX6_run_121 rfl (by omega) (by omega) (by simp [Un, Tb, DL, DF, DR, DX]) (by simp [Okv]) ?_
        refine r_aload_n hC dX6_run_122 rfl ?_
        refine z_getR hM dX6_run_123 fl_RX6_31 rfl rfl (vld_of (n := 1) rfl (by omega) (by omega)) ?_
        refine r_iconst hC dX6_run_126 rfl ?_
        refine r_iload hC dX6_run_127 rfl ?_
        refine z_iastU hM dX6_run_129 rfl (by omega) (by omega) (by simp [Un, Tb, DL, DF, DR, DX]) (by simp [Okv]) ?_
        refine y_vret hK rfl dX6_run_130 ?_
        exact k
      · refine r_iload_n hC dX6_run_24 rfl ?_
        refine r_aload_n hC dX6_run_25 rfl ?_
        refine z_getR hM dX6_run_26 fl_RX6_28 rfl rfl (vld_of (n := 1) rfl (by omega) (by omega)) ?_
        refine r_iload hC dX6_run_29 rfl ?_
        refine z_iald hM dX6_run_31 rfl (by omega) (by omega) (fun v8 h_v8 o_v8 t_v8 => ?_)
        refine r_iaddG hC dX6_run_32 (fun v9 h_v9 => ?_)
        refine r_istore_n hC dX6_run_33 rfl ?_
        refine r_iload_n hC dX6_run_34 rfl ?_
        refine r_iload_n hC dX6_run_35 rfl ?_
        have J41_11 : ∀ (w11 : Int), -2147483648 ≤ w11 ∧ w11 ≤ 2147483647 → K 41 [some (vR 30 0), some (vI v9), some (vI w2), some (vI w11), some (vI w4), some (vI w5), none, none] [] σ := by
          intro w11  f_w11 
          refine r_iconst hC dX6_run_41 rfl ?_
          refine r_istore hC dX6_run_42 rfl ?_
          refine r_iload hC dX6_run_44 rfl ?_
          refine r_istore hC dX6_run_46 rfl ?_
          have L48 : ∀ (n48 : Nat) (w13 w14 w15 : Int), -2147483648 ≤ w13 ∧ w13 ≤ 2147483647 → -2147483648 ≤ w14 ∧ w14 ≤ 2147483647 → 0 ≤ w15 ∧ w15 ≤ 242 → 242 - w15 < (n48 : Int) → K 48 [some (vR 30 0), some (vI v9), some (vI w13), some (vI w11), some (vI w4), some (vI w5), some (vI w14), some (vI w15)] [] σ := by
            intro n48
            induction n48 with
            | zero => intro w13 w14 w15  f_w13 f_w14 f_w15  hm  ; omega
            | succ n48 ih48 =>
              intro w13 w14 w15  f_w13 f_w14 f_w15  hm48  
              refine r_iload hC dX6_run_48 rfl ?_
              refine r_aload_n hC dX6_run_50 rfl ?_
              refine z_getI (jz := 8) hM dX6_run_51 fl_RX6_105 rfl rfl rfl (fun v16 h_v16 o_v16 t_v16 => ?_)
              rw [(t_v16 (Or.inr (Or.inr (Or.inr ⟨rfl, rfl⟩)))).trans hn]
              refine r_icmp_ge (tgt := 84) hC dX6_run_54 rfl (fun h17 => ?_) (fun h17 => ?_)
              · refine r_iload hC dX6_run_84 rfl ?_
                refine r_iload hC dX6_run_86 rfl ?_
                have J95_19 : ∀ (w19 : Int), -2147483648 ≤ w19 ∧ w19 ≤ 2147483647 → K 95 [some (vR 30 0), some (vI v9), some (vI w13), some (vI w11), some (vI w19), some (vI w5), some (vI w14), some (vI w15)] [] σ := by
                  intro w19  f_w19 
                  refine r_iincE hC ((w5 + 1)) dX6_run_95 rfl rfl (by omega) (by unfold inR; omega) ?_
                  refine r_goto (tgt := 15) hC dX6_run_98 rfl ?_
                  refine r_forget hC (ls2 := [some (vR 30 0), some (vI v9), some (vI w13), some (vI w11), some (vI w19), some (vI (w5 + 1)), none, none]) (lsub_some (lsub_some (lsub_some (lsub_some (lsub_some (lsub_some (lsub_none (lsub_none lsub_nil)))))))) ?_
                  exact ih15 (v9) (w13) (w11) (w19) ((w5 + 1))  (by omega) (by omega) (by omega) (by omega) (by omega)  (by omega)  
                refine r_icmp_le (tgt := 95) hC dX6_run_88 rfl (fun h18 => ?_) (fun h18 => ?_)
                · exact J95_19 (w4)  (by omega)
                · refine r_iload hC dX6_run_91 rfl ?_
                  refine r_istore hC dX6_run_93 rfl ?_
                  exact J95_19 (w14)  (by omega) 
              · refine r_iload hC dX6_run_57 rfl ?_
                refine r_aload_n hC dX6_run_59 rfl ?_
                refine z_getR hM dX6_run_60 fl_RX6_28 rfl rfl (vld_of (n := 1) rfl (by omega) (by omega)) ?_
                refine r_iload hC dX6_run_63 rfl ?_
                refine z_iald hM dX6_run_65 rfl (by omega) (by omega) (fun v21 h_v21 o_v21 t_v21 => ?_)
                refine r_iaddG hC dX6_run_66 (fun v22 h_v22 => ?_)
                refine r_istore hC dX6_run_67 rfl ?_
                refine r_iload hC dX6_run_69 rfl ?_
                refine r_iload_n hC dX6_run_71 rfl ?_
                have J78_24 : ∀ (w24 : Int), -2147483648 ≤ w24 ∧ w24 ≤ 2147483647 → K 78 [some (vR 30 0), some (vI v9), some (vI w24), some (vI w11), some (vI w4), some (vI w5), some (vI v22), some (vI w15)] [] σ := by
                  intro w24  f_w24 
                  refine r_iincE hC ((w15 + 1)) dX6_run_78 rfl rfl (by omega) (by unfold inR; omega) ?_
                  refine r_goto (tgt := 48) hC dX6_run_81 rfl ?_
                  exact ih48 (w24) (v22) ((w15 + 1))  (by omega) (by omega) (by omega)  (by omega)  
                refine r_icmp_le (tgt := 78) hC dX6_run_72 rfl (fun h23 => ?_) (fun h23 => ?_)
                · exact J78_24 (w13)  (by omega)
                · refine r_iload hC dX6_run_75 rfl ?_
                  refine r_istore_n hC dX6_run_77 rfl ?_
                  exact J78_24 (v22)  (by omega) 
          exact L48 244 (w2) (0) (w5)  (by omega) (by omega) (by omega)  (by omega)  
        refine r_icmp_le (tgt := 41) hC dX6_run_36 rfl (fun h10 => ?_) (fun h10 => ?_)
        · exact J41_11 (w3)  (by omega)
        · refine r_iload_n hC dX6_run_39 rfl ?_
          refine r_istore_n hC dX6_run_40 rfl ?_
          exact J41_11 (v9)  (by omega) 
  exact L15 244 (0) ((-2147483648)) ((-2147483648)) ((-2147483648)) (0)  (by omega) (by omega) (by omega) (by omega) (by omega)  (by omega)  
theorem qm_send {eb : Bool} {d : Nat} {P : Option Vl → Mm → Prop} {σ : Mm} {n : Int} (b_n : 1 ≤ n ∧ n ≤ 242) (hn : σ 30 0 8 = n)  (k : P none σ) : WT (false, eb, true) (d + 2) 165 [vR 30 0] σ P := by
  refine WT_in fun K hK => ?_
  have hK : StpY (false, eb, true) cX6_send RX6 (none) (WT (false, eb, true) (d + 1)) P K := hK
  have hM := hK.1
  have hC := hK.1.1
  show K 0 [some (vR 30 0), none, none, none, none] [] σ
  refine r_iconst hC dX6_send_0 rfl ?_
  refine r_istore_n hC dX6_send_1 rfl ?_
  refine r_iconst hC dX6_send_2 rfl ?_
  refine r_istore_n hC dX6_send_3 rfl ?_
  have L4 : ∀ (n4 : Nat) (w1 w2 : Int), -2147483648 ≤ w1 ∧ w1 ≤ 2147483647 → 0 ≤ w2 ∧ w2 ≤ 4 → 4 - w2 < (n4 : Int) → K 4 [some (vR 30 0), some (vI w1), some (vI w2), none, none] [] σ := by
    intro n4
    induction n4 with
    | zero => intro w1 w2  f_w1 f_w2  hm  ; omega
    | succ n4 ih4 =>
      intro w1 w2  f_w1 f_w2  hm4  
      refine r_iload_n hC dX6_send_4 rfl ?_
      refine r_iconst hC dX6_send_5 rfl ?_
      refine r_icmp_ge (tgt := 72) hC dX6_send_6 rfl (fun h3 => ?_) (fun h3 => ?_)
      · refine r_aload_n hC dX6_send_72 rfl ?_
        refine z_getR hM dX6_send_73 fl_RX6_31 rfl rfl (vld_of (n := 1) rfl (by omega) (by omega)) ?_
        refine r_iconst hC dX6_send_76 rfl ?_
        refine r_iload_n hC dX6_send_77 rfl ?_
        refine z_ins1 hM dX6_send_78 tl_RX6_167 rfl (Nat.le_of_ble_eq_true rfl) (Nat.le_of_ble_eq_true rfl) ?_
        refine qm_bits (fun v4 h_v4 => ?_)
        refine z_iastU hM dX6_send_81 rfl (by omega) (by omega) (by simp [Un, Tb, DL, DF, DR, DX]) (by simp [Okv]) ?_
        refine y_vret hK rfl dX6_send_82 ?_
        exact k
      · refine r_iload_n hC dX6_send_9 rfl ?_
        refine r_istore_n hC dX6_send_10 rfl ?_
        refine r_iconst hC dX6_send_11 rfl ?_
        refine r_istore hC dX6_send_12 rfl ?_
        have L14 : ∀ (n14 : Nat) (w5 w6 : Int), 0 ≤ w5 ∧ w5 ≤ 3 → 0 ≤ w6 ∧ w6 ≤ 242 → 242 - w6 < (n14 : Int) → K 14 [some (vR 30 0), some (vI w1), some (vI w2), some (vI w5), some (vI w6)] [] σ := by
          intro n14
          induction n14 with
          | zero => intro w5 w6  f_w5 f_w6  hm  ; omega
          | succ n14 ih14 =>
            intro w5 w6  f_w5 f_w6  hm14  
            refine r_iload hC dX6_send_14 rfl ?_
            refine r_aload_n hC dX6_send_16 rfl ?_
            refine z_getI (jz := 8) hM dX6_send_17 fl_RX6_105 rfl rfl rfl (fun v7 h_v7 o_v7 t_v7 => ?_)
            rw [(t_v7 (Or.inr (Or.inr (Or.inr ⟨rfl, rfl⟩)))).trans hn]
            refine r_icmp_ge (tgt := 53) hC dX6_send_20 rfl (fun h8 => ?_) (fun h8 => ?_)
            · refine r_aload_n hC dX6_send_53 rfl ?_
              refine z_getR hM dX6_send_54 fl_RX6_31 rfl rfl (vld_of (n := 1) rfl (by omega) (by omega)) ?_
              refine r_iload_n hC dX6_send_57 rfl ?_
              refine r_iload_n hC dX6_send_58 rfl ?_
              refine z_iastU hM dX6_send_59 rfl (by omega) (by omega) (by simp [Un, Tb, DL, DF, DR, DX]) (by simp [Okv]) ?_
              refine r_iload_n hC dX6_send_60 rfl ?_
              refine r_iconst hC dX6_send_61 rfl ?_
              refine r_iload_n hC dX6_send_62 rfl ?_
              refine r_ishlG hC dX6_send_63 (fun v9 h_v9 => ?_)
              refine r_iorG hC dX6_send_64 (fun v10 h_v10 => ?_)
              refine r_istore_n hC dX6_send_65 rfl ?_
              refine r_iincE hC ((w2 + 1)) dX6_send_66 rfl rfl (by omega) (by unfold inR; omega) ?_
              refine r_goto (tgt := 4) hC dX6_send_69 rfl ?_
              refine r_forget hC (ls2 := [some (vR 30 0), some (vI v10), some (vI (w2 + 1)), none, none]) (lsub_some (lsub_some (lsub_some (lsub_none (lsub_none lsub_nil))))) ?_
              exact ih4 (v10) ((w2 + 1))  (by omega) (by omega)  (by omega)  
            · refine r_aload_n hC dX6_send_23 rfl ?_
              refine z_getR hM dX6_send_24 fl_RX6_25 rfl rfl (vld_of (n := 1) rfl (by omega) (by omega)) ?_
              refine r_aload_n hC dX6_send_27 rfl ?_
              refine z_getR hM dX6_send_28 fl_RX6_28 rfl rfl (vld_of (n := 1) rfl (by omega) (by omega)) ?_
              refine r_iload hC dX6_send_31 rfl ?_
              refine z_iald hM dX6_send_33 rfl (by omega) (by omega) (fun v11 h_v11 o_v11 t_v11 => ?_)
              refine r_bipush hC dX6_send_34 rfl ?_
              refine z_ins2 hM dX6_send_36 tl_RX6_164 rfl (Nat.le_of_ble_eq_true rfl) (Nat.le_of_ble_eq_true rfl) ?_
              refine qm_restb (by omega) (fun v12 h_v12 => ?_)
              refine z_iald hM dX6_send_39 rfl (by omega) (by omega) (fun v13 h_v13 o_v13 t_v13 => ?_)
              refine r_iconst hC dX6_send_40 rfl ?_
              refine r_iload_n hC dX6_send_41 rfl ?_
              refine r_imulE hC ((2 * w5)) dX6_send_42 (by omega) (by unfold inR; omega) ?_
              refine r_ishrG hC dX6_send_43 (fun v14 h_v14 => ?_)
              refine r_iconst hC dX6_send_44 rfl ?_
              refine r_iandB hC dX6_send_45 (by omega) (inR_lit rfl) (fun v15 h_v15 => ?_)
              refine r_istore_n hC dX6_send_46 rfl ?_
              refine r_iincE hC ((w6 + 1)) dX6_send_47 rfl rfl (by omega) (by unfold inR; omega) ?_
              refine r_goto (tgt := 14) hC dX6_send_50 rfl ?_
              exact ih14 (v15) ((w6 + 1))  (by omega) (by omega)  (by omega)  
        exact L14 244 (w2) (0)  (by omega) (by omega)  (by omega)  
  exact L4 6 (0) (0)  (by omega) (by omega)  (by omega)  
theorem qm_nest {eb : Bool} {d : Nat} {P : Option Vl → Mm → Prop} {σ : Mm} {n : Int} (b_n : 1 ≤ n ∧ n ≤ 242) (hn : σ 30 0 8 = n)  (k : P none σ) : WT (false, eb, true) (d + 1) 167 [vR 30 0] σ P := by
  refine WT_in fun K hK => ?_
  have hK : StpY (false, eb, true) cX6_nest RX6 (none) (WT (false, eb, true) (d + 0)) P K := hK
  have hM := hK.1
  have hC := hK.1.1
  show K 0 [some (vR 30 0), none, none, none, none, none, none] [] σ
  refine r_iconst hC dX6_nest_0 rfl ?_
  refine r_istore_n hC dX6_nest_1 rfl ?_
  refine r_iconst hC dX6_nest_2 rfl ?_
  refine r_istore_n hC dX6_nest_3 rfl ?_
  refine r_iconst hC dX6_nest_4 rfl ?_
  refine r_istore_n hC dX6_nest_5 rfl ?_
  show K _ [_, _, _, _, _, _, _] _ _
  refine r_iconst hC dX6_nest_6 rfl ?_
  refine r_istore hC dX6_nest_7 rfl ?_
  refine r_iconst hC dX6_nest_9 rfl ?_
  refine r_istore hC dX6_nest_10 rfl ?_
  refine r_iconst hC dX6_nest_12 rfl ?_
  refine r_istore hC dX6_nest_13 rfl ?_
  have L15 : ∀ (n15 : Nat) (w1 w2 w3 w4 w5 w6 : Int), -2147483648 ≤ w1 ∧ w1 ≤ 2147483647 → -2147483648 ≤ w2 ∧ w2 ≤ 2147483647 → -2147483648 ≤ w3 ∧ w3 ≤ 2147483647 → 0 ≤ w4 ∧ w4 ≤ 2147483647 → 0 ≤ w5 ∧ w5 ≤ 242 → -2147483648 ≤ w6 ∧ w6 ≤ 2147483647 → 242 - w5 < (n15 : Int) → K 15 [some (vR 30 0), some (vI w1), some (vI w2), some (vI w6), some (vI w3), some (vI w4), some (vI w5)] [] σ := by
    intro n15
    induction n15 with
    | zero => intro w1 w2 w3 w4 w5 w6  f_w1 f_w2 f_w3 f_w4 f_w5 f_w6  hm  ; omega
    | succ n15 ih15 =>
      intro w1 w2 w3 w4 w5 w6  f_w1 f_w2 f_w3 f_w4 f_w5 f_w6  hm15  
      refine r_iload hC dX6_nest_15 rfl ?_
      refine r_aload_n hC dX6_nest_17 rfl ?_
      refine z_getI (jz := 8) hM dX6_nest_18 fl_RX6_105 rfl rfl rfl (fun v7 h_v7 o_v7 t_v7 => ?_)
      rw [(t_v7 (Or.inr (Or.inr (Or.inr ⟨rfl, rfl⟩)))).trans hn]
      refine r_icmp_ge (tgt := 93) hC dX6_nest_21 rfl (fun h8 => ?_) (fun h8 => ?_)
      · refine r_aload_n hC dX6_nest_93 rfl ?_
        refine z_getR hM dX6_nest_94 fl_RX6_31 rfl rfl (vld_of (n := 1) rfl (by omega) (by omega)) ?_
        refine r_iconst hC dX6_nest_97 rfl ?_
        refine r_iload_n hC dX6_nest_98 rfl ?_
        refine z_iastU hM dX6_nest_99 rfl (by omega) (by omega) (by simp [Un, Tb, DL, DF, DR, DX]) (by simp [Okv]) ?_
        refine r_aload_n hC dX6_nest_100 rfl ?_
        refine z_getR hM dX6_nest_101 fl_RX6_31 rfl rfl (vld_of (n := 1) rfl (by omega) (by omega)) ?_
        refine r_iconst hC dX6_nest_104 rfl ?_
        refine r_iload_n hC dX6_nest_105 rfl ?_
        refine z_iastU hM dX6_nest_106 rfl (by omega) (by omega) (by simp [Un, Tb, DL, DF, DR, DX]) (by simp [Okv]) ?_
        refine r_aload_n hC dX6_nest_107 rfl ?_
        refine z_getR hM dX6_nest_108 fl_RX6_31 rfl rfl (vld_of (n := 1) rfl (by omega) (by omega)) ?_
        refine r_iconst hC dX6_nest_111 rfl ?_
        refine r_iload_n hC dX6_nest_112 rfl ?_
        refine z_iastU hM dX6_nest_113 rfl (by omega) (by omega) (by simp [Un, Tb, DL, DF, DR, DX]) (by simp [Okv]) ?_
        refine r_aload_n hC dX6_nest_114 rfl ?_
        refine z_getR hM dX6_nest_115 fl_RX6_31 rfl rfl (vld_of (n := 1) rfl (by omega) (by omega)) ?_
        refine r_iconst hC dX6_nest_118 rfl ?_
        refine r_iload hC dX6_nest_119 rfl ?_
        refine z_iastU hM dX6_nest_121 rfl (by omega) (by omega) (by simp [Un, Tb, DL, DF, DR, DX]) (by simp [Okv]) ?_
        refine y_vret hK rfl dX6_nest_122 ?_
        exact k
      · refine r_iload hC dX6_nest_24 rfl ?_
        refine r_aload_n hC dX6_nest_26 rfl ?_
        refine z_getR hM dX6_nest_27 fl_RX6_28 rfl rfl (vld_of (n := 1) rfl (by omega) (by omega)) ?_
        refine r_iload hC dX6_nest_30 rfl ?_
        refine z_iald hM dX6_nest_32 rfl (by omega) (by omega) (fun v9 h_v9 o_v9 t_v9 => ?_)
        have J41_11 : ∀ (w11 : Int), -1 ≤ w11 ∧ w11 ≤ 1 → K 41 [some (vR 30 0), some (vI w1), some (vI w2), some (vI w6), some (vI w3), some (vI w4), some (vI w5)] [vI w11, vI w3] σ := by
          intro w11  f_w11 
          refine r_iaddG hC dX6_nest_41 (fun v13 h_v13 => ?_)
          refine r_istore hC dX6_nest_42 rfl ?_
          refine r_iload hC dX6_nest_44 rfl ?_
          refine r_iload hC dX6_nest_46 rfl ?_
          have J55_15 : ∀ (w15 : Int), 0 ≤ w15 ∧ w15 ≤ 2147483647 → K 55 [some (vR 30 0), some (vI w1), some (vI w2), some (vI w6), some (vI v13), some (vI w15), some (vI w5)] [] σ := by
            intro w15  f_w15 
            refine r_aload_n hC dX6_nest_55 rfl ?_
            refine z_getR hM dX6_nest_56 fl_RX6_28 rfl rfl (vld_of (n := 1) rfl (by omega) (by omega)) ?_
            refine r_iload hC dX6_nest_59 rfl ?_
            refine z_iald hM dX6_nest_61 rfl (by omega) (by omega) (fun v17 h_v17 o_v17 t_v17 => ?_)
            have J87_21 : ∀ (w19 w20 w21 : Int), -2147483648 ≤ w19 ∧ w19 ≤ 2147483647 → -2147483648 ≤ w20 ∧ w20 ≤ 2147483647 → -2147483648 ≤ w21 ∧ w21 ≤ 2147483647 → K 87 [some (vR 30 0), some (vI w21), some (vI w19), some (vI w20), some (vI v13), some (vI w15), some (vI w5)] [] σ := by
              intro w19 w20 w21  f_w19 f_w20 f_w21 
              refine r_iincE hC ((w5 + 1)) dX6_nest_87 rfl rfl (by omega) (by unfold inR; omega) ?_
              refine r_goto (tgt := 15) hC dX6_nest_90 rfl ?_
              exact ih15 (w21) (w19) (v13) (w15) ((w5 + 1)) (w20)  (by omega) (by omega) (by omega) (by omega) (by omega) (by omega)  (by omega)  
            refine r_if_lt (tgt := 71) hC dX6_nest_62 rfl (fun h18 => ?_) (fun h18 => ?_)
            · refine r_iload_n hC dX6_nest_71 rfl ?_
              refine r_if_ne (tgt := 81) hC dX6_nest_72 rfl (fun h23 => ?_) (fun h23 => ?_)
              · refine r_iincG hC dX6_nest_81 rfl rfl (fun v24 h_v24 => ?_)
                refine r_iincG hC dX6_nest_84 rfl rfl (fun v25 h_v25 => ?_)
                exact J87_21 (v24) (v25) (w1)  (by omega) (by omega) (by omega) 
              · refine r_iincG hC dX6_nest_75 rfl rfl (fun v26 h_v26 => ?_)
                refine r_goto (tgt := 87) hC dX6_nest_78 rfl ?_
                exact J87_21 (w2) (w6) (v26)  (by omega) (by omega) (by omega) 
            · refine r_iincG hC dX6_nest_65 rfl rfl (fun v27 h_v27 => ?_)
              refine r_goto (tgt := 87) hC dX6_nest_68 rfl ?_
              exact J87_21 (v27) (w6) (w1)  (by omega) (by omega) (by omega) 
          refine r_icmp_le (tgt := 55) hC dX6_nest_48 rfl (fun h14 => ?_) (fun h14 => ?_)
          · exact J55_15 (w4)  (by omega)
          · refine r_iload hC dX6_nest_51 rfl ?_
            refine r_istore hC dX6_nest_53 rfl ?_
            exact J55_15 (v13)  (by omega) 
        refine r_if_ge (tgt := 40) hC dX6_nest_33 rfl (fun h10 => ?_) (fun h10 => ?_)
        · refine r_iconst hC dX6_nest_40 rfl ?_
          exact J41_11 (1)  (by omega) 
        · refine r_iconst hC dX6_nest_36 rfl ?_
          refine r_goto (tgt := 41) hC dX6_nest_37 rfl ?_
          exact J41_11 ((-1))  (by omega) 
  exact L15 244 (0) (0) (0) (0) (0) (0)  (by omega) (by omega) (by omega) (by omega) (by omega) (by omega)  (by omega)  
theorem qm_steps {eb : Bool} {d : Nat} {P : Option Vl → Mm → Prop} {σ : Mm} {n : Int} (b_n : 1 ≤ n ∧ n ≤ 242) (hn : σ 30 0 8 = n)  (k : P none σ) : WT (false, eb, true) (d + 1) 170 [vR 30 0] σ P := by
  refine WT_in fun K hK => ?_
  have hK : StpY (false, eb, true) cX6_steps RX6 (none) (WT (false, eb, true) (d + 0)) P K := hK
  have hM := hK.1
  have hC := hK.1.1
  show K 0 [some (vR 30 0), none, none, none, none, none] [] σ
  refine r_iconst hC dX6_steps_0 rfl ?_
  refine r_istore_n hC dX6_steps_1 rfl ?_
  refine r_iconst hC dX6_steps_2 rfl ?_
  refine r_istore_n hC dX6_steps_3 rfl ?_
  refine r_iconst hC dX6_steps_4 rfl ?_
  refine r_istore_n hC dX6_steps_5 rfl ?_
  show K _ [_, _, _, _, _, _] _ _
  refine r_iconst hC dX6_steps_6 rfl ?_
  refine r_istore hC dX6_steps_7 rfl ?_
  refine r_iconst hC dX6_steps_9 rfl ?_
  refine r_istore hC dX6_steps_10 rfl ?_
  have L12 : ∀ (n12 : Nat) (w1 w2 w3 w4 w5 : Int), -2147483648 ≤ w1 ∧ w1 ≤ 2147483647 → -2147483648 ≤ w2 ∧ w2 ≤ 2147483647 → -2147483648 ≤ w3 ∧ w3 ≤ 2147483647 → 1 ≤ w4 ∧ w4 ≤ 2147483647 → 1 ≤ w5 ∧ w5 ≤ 242 → 242 - w5 < (n12 : Int) → K 12 [some (vR 30 0), some (vI w1), some (vI w2), some (vI w3), some (vI w4), some (vI w5)] [] σ := by
    intro n12
    induction n12 with
    | zero => intro w1 w2 w3 w4 w5  f_w1 f_w2 f_w3 f_w4 f_w5  hm  ; omega
    | succ n12 ih12 =>
      intro w1 w2 w3 w4 w5  f_w1 f_w2 f_w3 f_w4 f_w5  hm12  
      refine r_iload hC dX6_steps_12 rfl ?_
      refine r_aload_n hC dX6_steps_14 rfl ?_
      refine z_getI (jz := 8) hM dX6_steps_15 fl_RX6_105 rfl rfl rfl (fun v6 h_v6 o_v6 t_v6 => ?_)
      rw [(t_v6 (Or.inr (Or.inr (Or.inr ⟨rfl, rfl⟩)))).trans hn]
      refine r_icmp_ge (tgt := 117) hC dX6_steps_18 rfl (fun h7 => ?_) (fun h7 => ?_)
      · refine r_aload_n hC dX6_steps_117 rfl ?_
        refine z_getR hM dX6_steps_118 fl_RX6_31 rfl rfl (vld_of (n := 1) rfl (by omega) (by omega)) ?_
        refine r_iconst hC dX6_steps_121 rfl ?_
        refine r_iload_n hC dX6_steps_122 rfl ?_
        refine z_iastU hM dX6_steps_123 rfl (by omega) (by omega) (by simp [Un, Tb, DL, DF, DR, DX]) (by simp [Okv]) ?_
        refine r_aload_n hC dX6_steps_124 rfl ?_
        refine z_getR hM dX6_steps_125 fl_RX6_31 rfl rfl (vld_of (n := 1) rfl (by omega) (by omega)) ?_
        refine r_iconst hC dX6_steps_128 rfl ?_
        refine r_iload_n hC dX6_steps_129 rfl ?_
        refine z_iastU hM dX6_steps_130 rfl (by omega) (by omega) (by simp [Un, Tb, DL, DF, DR, DX]) (by simp [Okv]) ?_
        refine r_aload_n hC dX6_steps_131 rfl ?_
        refine z_getR hM dX6_steps_132 fl_RX6_31 rfl rfl (vld_of (n := 1) rfl (by omega) (by omega)) ?_
        refine r_iconst hC dX6_steps_135 rfl ?_
        refine r_aload_n hC dX6_steps_136 rfl ?_
        refine z_getR hM dX6_steps_137 fl_RX6_28 rfl rfl (vld_of (n := 1) rfl (by omega) (by omega)) ?_
        refine r_iconst hC dX6_steps_140 rfl ?_
        refine z_iald hM dX6_steps_141 rfl (by omega) (by omega) (fun v8 h_v8 o_v8 t_v8 => ?_)
        refine z_iastU hM dX6_steps_142 rfl (by omega) (by omega) (by simp [Un, Tb, DL, DF, DR, DX]) (by simp [Okv]) ?_
        refine r_aload_n hC dX6_steps_143 rfl ?_
        refine z_getR hM dX6_steps_144 fl_RX6_31 rfl rfl (vld_of (n := 1) rfl (by omega) (by omega)) ?_
        refine r_iconst hC dX6_steps_147 rfl ?_
        refine r_aload_n hC dX6_steps_148 rfl ?_
        refine z_getR hM dX6_steps_149 fl_RX6_28 rfl rfl (vld_of (n := 1) rfl (by omega) (by omega)) ?_
        refine r_aload_n hC dX6_steps_152 rfl ?_
        refine z_getI (jz := 8) hM dX6_steps_153 fl_RX6_105 rfl rfl rfl (fun v9 h_v9 o_v9 t_v9 => ?_)
        rw [(t_v9 (Or.inr (Or.inr (Or.inr ⟨rfl, rfl⟩)))).trans hn]
        refine r_iconst hC dX6_steps_156 rfl ?_
        refine r_isubE hC ((n - 1)) dX6_steps_157 (by omega) (by unfold inR; omega) ?_
        refine z_iald hM dX6_steps_158 rfl (by omega) (by omega) (fun v10 h_v10 o_v10 t_v10 => ?_)
        refine z_iastU hM dX6_steps_159 rfl (by omega) (by omega) (by simp [Un, Tb, DL, DF, DR, DX]) (by simp [Okv]) ?_
        refine r_aload_n hC dX6_steps_160 rfl ?_
        refine z_getR hM dX6_steps_161 fl_RX6_31 rfl rfl (vld_of (n := 1) rfl (by omega) (by omega)) ?_
        refine r_iconst hC dX6_steps_164 rfl ?_
        refine r_iload hC dX6_steps_165 rfl ?_
        refine z_iastU hM dX6_steps_167 rfl (by omega) (by omega) (by simp [Un, Tb, DL, DF, DR, DX]) (by simp [Okv]) ?_
        refine y_vret hK rfl dX6_steps_168 ?_
        exact k
      · refine r_iload_n hC dX6_steps_21 rfl ?_
        refine r_aload_n hC dX6_steps_22 rfl ?_
        refine z_getR hM dX6_steps_23 fl_RX6_28 rfl rfl (vld_of (n := 1) rfl (by omega) (by omega)) ?_
        refine r_iload hC dX6_steps_26 rfl ?_
        refine z_iald hM dX6_steps_28 rfl (by omega) (by omega) (fun v11 h_v11 o_v11 t_v11 => ?_)
        refine r_aload_n hC dX6_steps_29 rfl ?_
        refine z_getR hM dX6_steps_30 fl_RX6_28 rfl rfl (vld_of (n := 1) rfl (by omega) (by omega)) ?_
        refine r_iload hC dX6_steps_33 rfl ?_
        refine r_iconst hC dX6_steps_35 rfl ?_
        refine r_isubE hC ((w5 - 1)) dX6_steps_36 (by omega) (by unfold inR; omega) ?_
        refine z_iald hM dX6_steps_37 rfl (by omega) (by omega) (fun v12 h_v12 o_v12 t_v12 => ?_)
        have J46_14 : ∀ (w14 : Int), 0 ≤ w14 ∧ w14 ≤ 1 → K 46 [some (vR 30 0), some (vI w1), some (vI w2), some (vI w3), some (vI w4), some (vI w5)] [vI w14, vI w1] σ := by
          intro w14  f_w14 
          refine r_iaddG hC dX6_steps_46 (fun v16 h_v16 => ?_)
          refine r_istore_n hC dX6_steps_47 rfl ?_
          refine r_iload_n hC dX6_steps_48 rfl ?_
          refine r_aload_n hC dX6_steps_49 rfl ?_
          refine z_getR hM dX6_steps_50 fl_RX6_28 rfl rfl (vld_of (n := 1) rfl (by omega) (by omega)) ?_
          refine r_iload hC dX6_steps_53 rfl ?_
          refine z_iald hM dX6_steps_55 rfl (by omega) (by omega) (fun v17 h_v17 o_v17 t_v17 => ?_)
          refine r_aload_n hC dX6_steps_56 rfl ?_
          refine z_getR hM dX6_steps_57 fl_RX6_28 rfl rfl (vld_of (n := 1) rfl (by omega) (by omega)) ?_
          refine r_iload hC dX6_steps_60 rfl ?_
          refine r_iconst hC dX6_steps_62 rfl ?_
          refine r_isubE hC ((w5 - 1)) dX6_steps_63 (by omega) (by unfold inR; omega) ?_
          refine z_iald hM dX6_steps_64 rfl (by omega) (by omega) (fun v18 h_v18 o_v18 t_v18 => ?_)
          have J73_20 : ∀ (w20 : Int), 0 ≤ w20 ∧ w20 ≤ 1 → K 73 [some (vR 30 0), some (vI v16), some (vI w2), some (vI w3), some (vI w4), some (vI w5)] [vI w20, vI w2] σ := by
            intro w20  f_w20 
            refine r_iaddG hC dX6_steps_73 (fun v22 h_v22 => ?_)
            refine r_istore_n hC dX6_steps_74 rfl ?_
            refine r_aload_n hC dX6_steps_75 rfl ?_
            refine z_getR hM dX6_steps_76 fl_RX6_28 rfl rfl (vld_of (n := 1) rfl (by omega) (by omega)) ?_
            refine r_iload hC dX6_steps_79 rfl ?_
            refine z_iald hM dX6_steps_81 rfl (by omega) (by omega) (fun v23 h_v23 o_v23 t_v23 => ?_)
            refine r_aload_n hC dX6_steps_82 rfl ?_
            refine z_getR hM dX6_steps_83 fl_RX6_28 rfl rfl (vld_of (n := 1) rfl (by omega) (by omega)) ?_
            refine r_iload hC dX6_steps_86 rfl ?_
            refine r_iconst hC dX6_steps_88 rfl ?_
            refine r_isubE hC ((w5 - 1)) dX6_steps_89 (by omega) (by unfold inR; omega) ?_
            refine z_iald hM dX6_steps_90 rfl (by omega) (by omega) (fun v24 h_v24 o_v24 t_v24 => ?_)
            have J101_26 : ∀ (w26 : Int), -2147483648 ≤ w26 ∧ w26 ≤ 2147483647 → K 101 [some (vR 30 0), some (vI v16), some (vI v22), some (vI w3), some (vI w4), some (vI w5)] [vI w26] σ := by
              intro w26  f_w26 
              refine r_istore_n hC dX6_steps_101 rfl ?_
              refine r_iload_n hC dX6_steps_102 rfl ?_
              refine r_iload hC dX6_steps_103 rfl ?_
              have J111_29 : ∀ (w29 : Int), 1 ≤ w29 ∧ w29 ≤ 2147483647 → K 111 [some (vR 30 0), some (vI v16), some (vI v22), some (vI w26), some (vI w29), some (vI w5)] [] σ := by
                intro w29  f_w29 
                refine r_iincE hC ((w5 + 1)) dX6_steps_111 rfl rfl (by omega) (by unfold inR; omega) ?_
                refine r_goto (tgt := 12) hC dX6_steps_114 rfl ?_
                exact ih12 (v16) (v22) (w26) (w29) ((w5 + 1))  (by omega) (by omega) (by omega) (by omega) (by omega)  (by omega)  
              refine r_icmp_le (tgt := 111) hC dX6_steps_105 rfl (fun h28 => ?_) (fun h28 => ?_)
              · exact J111_29 (w4)  (by omega)
              · refine r_iload_n hC dX6_steps_108 rfl ?_
                refine r_istore hC dX6_steps_109 rfl ?_
                exact J111_29 (w26)  (by omega) 
            refine r_icmp_ge (tgt := 98) hC dX6_steps_91 rfl (fun h25 => ?_) (fun h25 => ?_)
            · refine r_iload_n hC dX6_steps_98 rfl ?_
              refine r_iconst hC dX6_steps_99 rfl ?_
              refine r_iaddG hC dX6_steps_100 (fun v31 h_v31 => ?_)
              exact J101_26 (v31)  (by omega) 
            · refine r_iconst hC dX6_steps_94 rfl ?_
              refine r_goto (tgt := 101) hC dX6_steps_95 rfl ?_
              exact J101_26 (1)  (by omega) 
          refine r_icmp_le (tgt := 72) hC dX6_steps_65 rfl (fun h19 => ?_) (fun h19 => ?_)
          · refine r_iconst hC dX6_steps_72 rfl ?_
            exact J73_20 (0)  (by omega) 
          · refine r_iconst hC dX6_steps_68 rfl ?_
            refine r_goto (tgt := 73) hC dX6_steps_69 rfl ?_
            exact J73_20 (1)  (by omega) 
        refine r_icmp_ge (tgt := 45) hC dX6_steps_38 rfl (fun h13 => ?_) (fun h13 => ?_)
        · refine r_iconst hC dX6_steps_45 rfl ?_
          exact J46_14 (0)  (by omega) 
        · refine r_iconst hC dX6_steps_41 rfl ?_
          refine r_goto (tgt := 46) hC dX6_steps_42 rfl ?_
          exact J46_14 (1)  (by omega) 
  exact L12 243 (0) (0) (1) (1) (1)  (by omega) (by omega) (by omega) (by omega) (by omega)  (by omega)  
theorem qm_spread {eb : Bool} {d : Nat} {P : Option Vl → Mm → Prop} {σ : Mm} {n : Int} (b_n : 1 ≤ n ∧ n ≤ 242) (hn : σ 30 0 8 = n)  (k : P none σ) : WT (false, eb, true) (d + 1) 171 [vR 30 0] σ P := by
  refine WT_in fun K hK => ?_
  have hK : StpY (false, eb, true) cX6_spread RX6 (none) (WT (false, eb, true) (d + 0)) P K := hK
  have hM := hK.1
  have hC := hK.1.1
  show K 0 [some (vR 30 0), none, none, none, none] [] σ
  refine r_ldc hC dX6_spread_0 co_RX6_160 rfl ?_
  refine r_istore_n hC dX6_spread_2 rfl ?_
  refine r_ldc hC dX6_spread_3 co_RX6_160 rfl ?_
  refine r_istore_n hC dX6_spread_5 rfl ?_
  refine r_iconst hC dX6_spread_6 rfl ?_
  refine r_istore_n hC dX6_spread_7 rfl ?_
  show K _ [_, _, _, _, _] _ _
  refine r_iconst hC dX6_spread_8 rfl ?_
  refine r_istore hC dX6_spread_9 rfl ?_
  have L11 : ∀ (n11 : Nat) (w1 w2 w3 w4 : Int), -2147483648 ≤ w1 ∧ w1 ≤ 2147483647 → -2147483648 ≤ w2 ∧ w2 ≤ 2147483647 → -2147483648 ≤ w3 ∧ w3 ≤ 2147483647 → 0 ≤ w4 ∧ w4 ≤ 242 → 242 - w4 < (n11 : Int) → K 11 [some (vR 30 0), some (vI w1), some (vI w2), some (vI w3), some (vI w4)] [] σ := by
    intro n11
    induction n11 with
    | zero => intro w1 w2 w3 w4  f_w1 f_w2 f_w3 f_w4  hm  ; omega
    | succ n11 ih11 =>
      intro w1 w2 w3 w4  f_w1 f_w2 f_w3 f_w4  hm11  
      refine r_iload hC dX6_spread_11 rfl ?_
      refine r_aload_n hC dX6_spread_13 rfl ?_
      refine z_getI (jz := 8) hM dX6_spread_14 fl_RX6_105 rfl rfl rfl (fun v5 h_v5 o_v5 t_v5 => ?_)
      rw [(t_v5 (Or.inr (Or.inr (Or.inr ⟨rfl, rfl⟩)))).trans hn]
      refine r_icmp_ge (tgt := 103) hC dX6_spread_17 rfl (fun h6 => ?_) (fun h6 => ?_)
      · refine r_aload_n hC dX6_spread_103 rfl ?_
        refine z_getR hM dX6_spread_104 fl_RX6_31 rfl rfl (vld_of (n := 1) rfl (by omega) (by omega)) ?_
        refine r_iconst hC dX6_spread_107 rfl ?_
        refine r_iload_n hC dX6_spread_108 rfl ?_
        refine z_iastU hM dX6_spread_109 rfl (by omega) (by omega) (by simp [Un, Tb, DL, DF, DR, DX]) (by simp [Okv]) ?_
        refine r_aload_n hC dX6_spread_110 rfl ?_
        refine z_getR hM dX6_spread_111 fl_RX6_31 rfl rfl (vld_of (n := 1) rfl (by omega) (by omega)) ?_
        refine r_iconst hC dX6_spread_114 rfl ?_
        refine r_iload_n hC dX6_spread_115 rfl ?_
        refine z_iastU hM dX6_spread_116 rfl (by omega) (by omega) (by simp [Un, Tb, DL, DF, DR, DX]) (by simp [Okv]) ?_
        refine r_aload_n hC dX6_spread_117 rfl ?_
        refine z_getR hM dX6_spread_118 fl_RX6_31 rfl rfl (vld_of (n := 1) rfl (by omega) (by omega)) ?_
        refine r_iconst hC dX6_spread_121 rfl ?_
        refine r_iload_n hC dX6_spread_122 rfl ?_
        refine z_iastU hM dX6_spread_123 rfl (by omega) (by omega) (by simp [Un, Tb, DL, DF, DR, DX]) (by simp [Okv]) ?_
        refine y_vret hK rfl dX6_spread_124 ?_
        exact k
      · refine r_aload_n hC dX6_spread_20 rfl ?_
        refine z_getR hM dX6_spread_21 fl_RX6_28 rfl rfl (vld_of (n := 1) rfl (by omega) (by omega)) ?_
        refine r_iload hC dX6_spread_24 rfl ?_
        refine z_iald hM dX6_spread_26 rfl (by omega) (by omega) (fun v7 h_v7 o_v7 t_v7 => ?_)
        have J33_9 : ∀ (w9 : Int), -2147483648 ≤ w9 ∧ w9 ≤ 2147483647 → K 33 [some (vR 30 0), some (vI w1), some (vI w2), some (vI w9), some (vI w4)] [] σ := by
          intro w9  f_w9 
          refine r_aload_n hC dX6_spread_33 rfl ?_
          refine z_getR hM dX6_spread_34 fl_RX6_28 rfl rfl (vld_of (n := 1) rfl (by omega) (by omega)) ?_
          refine r_iload hC dX6_spread_37 rfl ?_
          refine z_iald hM dX6_spread_39 rfl (by omega) (by omega) (fun v11 h_v11 o_v11 t_v11 => ?_)
          have J68_13 : ∀ (w13 : Int), -2147483648 ≤ w13 ∧ w13 ≤ 2147483647 → K 68 [some (vR 30 0), some (vI w13), some (vI w2), some (vI w9), some (vI w4)] [] σ := by
            intro w13  f_w13 
            refine r_aload_n hC dX6_spread_68 rfl ?_
            refine z_getR hM dX6_spread_69 fl_RX6_28 rfl rfl (vld_of (n := 1) rfl (by omega) (by omega)) ?_
            refine r_iload hC dX6_spread_72 rfl ?_
            refine z_iald hM dX6_spread_74 rfl (by omega) (by omega) (fun v15 h_v15 o_v15 t_v15 => ?_)
            have J97_17 : ∀ (w17 : Int), -2147483648 ≤ w17 ∧ w17 ≤ 2147483647 → K 97 [some (vR 30 0), some (vI w13), some (vI w17), some (vI w9), some (vI w4)] [] σ := by
              intro w17  f_w17 
              refine r_iincE hC ((w4 + 1)) dX6_spread_97 rfl rfl (by omega) (by unfold inR; omega) ?_
              refine r_goto (tgt := 11) hC dX6_spread_100 rfl ?_
              exact ih11 (w13) (w17) (w9) ((w4 + 1))  (by omega) (by omega) (by omega) (by omega)  (by omega)  
            refine r_if_ge (tgt := 97) hC dX6_spread_75 rfl (fun h16 => ?_) (fun h16 => ?_)
            · exact J97_17 (w2)  (by omega)
            · refine r_aload_n hC dX6_spread_78 rfl ?_
              refine z_getR hM dX6_spread_79 fl_RX6_28 rfl rfl (vld_of (n := 1) rfl (by omega) (by omega)) ?_
              refine r_iload hC dX6_spread_82 rfl ?_
              refine z_iald hM dX6_spread_84 rfl (by omega) (by omega) (fun v19 h_v19 o_v19 t_v19 => ?_)
              refine r_iload_n hC dX6_spread_85 rfl ?_
              refine r_icmp_le (tgt := 97) hC dX6_spread_86 rfl (fun h20 => ?_) (fun h20 => ?_)
              · exact J97_17 (w2)  (by omega)
              · refine r_aload_n hC dX6_spread_89 rfl ?_
                refine z_getR hM dX6_spread_90 fl_RX6_28 rfl rfl (vld_of (n := 1) rfl (by omega) (by omega)) ?_
                refine r_iload hC dX6_spread_93 rfl ?_
                refine z_iald hM dX6_spread_95 rfl (by omega) (by omega) (fun v21 h_v21 o_v21 t_v21 => ?_)
                refine r_istore_n hC dX6_spread_96 rfl ?_
                exact J97_17 (v21)  (by omega) 
          refine r_if_le (tgt := 68) hC dX6_spread_40 rfl (fun h12 => ?_) (fun h12 => ?_)
          · exact J68_13 (w1)  (by omega)
          · refine r_iload_n hC dX6_spread_43 rfl ?_
            refine r_ldc hC dX6_spread_44 co_RX6_160 rfl ?_
            refine r_icmp_eq (tgt := 60) hC dX6_spread_46 rfl (fun h22 => ?_) (fun h22 => ?_)
            · refine r_aload_n hC dX6_spread_60 rfl ?_
              refine z_getR hM dX6_spread_61 fl_RX6_28 rfl rfl (vld_of (n := 1) rfl (by omega) (by omega)) ?_
              refine r_iload hC dX6_spread_64 rfl ?_
              refine z_iald hM dX6_spread_66 rfl (by omega) (by omega) (fun v23 h_v23 o_v23 t_v23 => ?_)
              refine r_istore_n hC dX6_spread_67 rfl ?_
              exact J68_13 (v23)  (by omega) 
            · refine r_aload_n hC dX6_spread_49 rfl ?_
              refine z_getR hM dX6_spread_50 fl_RX6_28 rfl rfl (vld_of (n := 1) rfl (by omega) (by omega)) ?_
              refine r_iload hC dX6_spread_53 rfl ?_
              refine z_iald hM dX6_spread_55 rfl (by omega) (by omega) (fun v24 h_v24 o_v24 t_v24 => ?_)
              refine r_iload_n hC dX6_spread_56 rfl ?_
              refine r_icmp_ge (tgt := 68) hC dX6_spread_57 rfl (fun h25 => ?_) (fun h25 => ?_)
              · exact J68_13 (w1)  (by omega)
              · refine r_aload_n hC dX6_spread_60 rfl ?_
                refine z_getR hM dX6_spread_61 fl_RX6_28 rfl rfl (vld_of (n := 1) rfl (by omega) (by omega)) ?_
                refine r_iload hC dX6_spread_64 rfl ?_
                refine z_iald hM dX6_spread_66 rfl (by omega) (by omega) (fun v26 h_v26 o_v26 t_v26 => ?_)
                refine r_istore_n hC dX6_spread_67 rfl ?_
                exact J68_13 (v26)  (by omega) 
        refine r_if_ne (tgt := 33) hC dX6_spread_27 rfl (fun h8 => ?_) (fun h8 => ?_)
        · exact J33_9 (w3)  (by omega)
        · refine r_iincG hC dX6_spread_30 rfl rfl (fun v27 h_v27 => ?_)
          exact J33_9 (v27)  (by omega) 
  exact L11 244 ((-2147483648)) ((-2147483648)) (0) (0)  (by omega) (by omega) (by omega) (by omega)  (by omega)  
theorem qm_multiply {eb : Bool} {d : Nat} {P : Option Vl → Mm → Prop} {σ : Mm} {n : Int} (b_n : 1 ≤ n ∧ n ≤ 242) (hn : σ 30 0 8 = n)  (k : P none σ) : WT (false, eb, true) (d + 2) 172 [vR 30 0] σ P := by
  refine WT_in fun K hK => ?_
  have hK : StpY (false, eb, true) cX6_multiply RX6 (none) (WT (false, eb, true) (d + 1)) P K := hK
  have hM := hK.1
  have hC := hK.1.1
  show K 0 [some (vR 30 0), none, none] [] σ
  refine r_aload_n hC dX6_multiply_0 rfl ?_
  refine z_getR hM dX6_multiply_1 fl_RX6_28 rfl rfl (vld_of (n := 1) rfl (by omega) (by omega)) ?_
  refine r_iconst hC dX6_multiply_4 rfl ?_
  refine z_iald hM dX6_multiply_5 rfl (by omega) (by omega) (fun v1 h_v1 o_v1 t_v1 => ?_)
  refine r_iconst hC dX6_multiply_6 rfl ?_
  refine z_ins2 hM dX6_multiply_7 tl_RX6_164 rfl (Nat.le_of_ble_eq_true rfl) (Nat.le_of_ble_eq_true rfl) ?_
  refine qm_restb (by omega) (fun v2 h_v2 => ?_)
  refine r_istore_n hC dX6_multiply_10 rfl ?_
  refine r_iconst hC dX6_multiply_11 rfl ?_
  refine r_istore_n hC dX6_multiply_12 rfl ?_
  have L13 : ∀ (n13 : Nat) (w3 w4 : Int), 0 ≤ w3 ∧ w3 ≤ 3 → 1 ≤ w4 ∧ w4 ≤ 242 → 242 - w4 < (n13 : Int) → K 13 [some (vR 30 0), some (vI w3), some (vI w4)] [] σ := by
    intro n13
    induction n13 with
    | zero => intro w3 w4  f_w3 f_w4  hm  ; omega
    | succ n13 ih13 =>
      intro w3 w4  f_w3 f_w4  hm13  
      refine r_iload_n hC dX6_multiply_13 rfl ?_
      refine r_aload_n hC dX6_multiply_14 rfl ?_
      refine z_getI (jz := 8) hM dX6_multiply_15 fl_RX6_105 rfl rfl rfl (fun v5 h_v5 o_v5 t_v5 => ?_)
      rw [(t_v5 (Or.inr (Or.inr (Or.inr ⟨rfl, rfl⟩)))).trans hn]
      refine r_icmp_ge (tgt := 43) hC dX6_multiply_18 rfl (fun h6 => ?_) (fun h6 => ?_)
      · refine r_aload_n hC dX6_multiply_43 rfl ?_
        refine z_getR hM dX6_multiply_44 fl_RX6_31 rfl rfl (vld_of (n := 1) rfl (by omega) (by omega)) ?_
        refine r_iconst hC dX6_multiply_47 rfl ?_
        refine r_iload_n hC dX6_multiply_48 rfl ?_
        refine z_iastU hM dX6_multiply_49 rfl (by omega) (by omega) (by simp [Un, Tb, DL, DF, DR, DX]) (by simp [Okv]) ?_
        refine y_vret hK rfl dX6_multiply_50 ?_
        exact k
      · refine r_aload_n hC dX6_multiply_21 rfl ?_
        refine r_iload_n hC dX6_multiply_22 rfl ?_
        refine r_aload_n hC dX6_multiply_23 rfl ?_
        refine z_getR hM dX6_multiply_24 fl_RX6_28 rfl rfl (vld_of (n := 1) rfl (by omega) (by omega)) ?_
        refine r_iload_n hC dX6_multiply_27 rfl ?_
        refine z_iald hM dX6_multiply_28 rfl (by omega) (by omega) (fun v7 h_v7 o_v7 t_v7 => ?_)
        refine r_iconst hC dX6_multiply_29 rfl ?_
        refine z_ins2 hM dX6_multiply_30 tl_RX6_164 rfl (Nat.le_of_ble_eq_true rfl) (Nat.le_of_ble_eq_true rfl) ?_
        refine qm_restb (by omega) (fun v8 h_v8 => ?_)
        refine z_inv2 hM dX6_multiply_33 vl_RX6_88 rfl rfl rfl (Nat.le_of_ble_eq_true rfl) (Nat.le_of_ble_eq_true rfl) ?_
        refine qm_product (by omega) (by omega) (fun v9 h_v9 => ?_)
        refine r_istore_n hC dX6_multiply_36 rfl ?_
        refine r_iincE hC ((w4 + 1)) dX6_multiply_37 rfl rfl (by omega) (by unfold inR; omega) ?_
        refine r_goto (tgt := 13) hC dX6_multiply_40 rfl ?_
        exact ih13 (v9) ((w4 + 1))  (by omega) (by omega)  (by omega)  
  exact L13 243 (v2) (1)  (by omega) (by omega)  (by omega)  
theorem qm_share {eb : Bool} {d : Nat} {P : Option Vl → Mm → Prop} {σ : Mm} {n : Int} (b_n : 1 ≤ n ∧ n ≤ 242) (hn : σ 30 0 8 = n)  (k : P none σ) : WT (false, eb, true) (d + 1) 161 [vR 30 0] σ P := by
  refine WT_in fun K hK => ?_
  have hK : StpY (false, eb, true) cX6_share RX6 (none) (WT (false, eb, true) (d + 0)) P K := hK
  have hM := hK.1
  have hC := hK.1.1
  show K 0 [some (vR 30 0), none, none, none, none, none] [] σ
  refine r_iconst hC dX6_share_0 rfl ?_
  refine r_istore_n hC dX6_share_1 rfl ?_
  refine r_iconst hC dX6_share_2 rfl ?_
  refine r_istore_n hC dX6_share_3 rfl ?_
  refine r_iconst hC dX6_share_4 rfl ?_
  refine r_istore_n hC dX6_share_5 rfl ?_
  have L6 : ∀ (n6 : Nat) (w1 w2 w3 : Int), 0 ≤ w1 ∧ w1 ≤ 2147483647 → -2147483648 ≤ w2 ∧ w2 ≤ 2147483647 → 0 ≤ w3 ∧ w3 ≤ 242 → 242 - w3 < (n6 : Int) → K 6 [some (vR 30 0), some (vI w1), some (vI w2), some (vI w3), none, none] [] σ := by
    intro n6
    induction n6 with
    | zero => intro w1 w2 w3  f_w1 f_w2 f_w3  hm  ; omega
    | succ n6 ih6 =>
      intro w1 w2 w3  f_w1 f_w2 f_w3  hm6  
      refine r_iload_n hC dX6_share_6 rfl ?_
      refine r_aload_n hC dX6_share_7 rfl ?_
      refine z_getI (jz := 8) hM dX6_share_8 fl_RX6_105 rfl rfl rfl (fun v4 h_v4 o_v4 t_v4 => ?_)
      rw [(t_v4 (Or.inr (Or.inr (Or.inr ⟨rfl, rfl⟩)))).trans hn]
      refine r_icmp_ge (tgt := 81) hC dX6_share_11 rfl (fun h5 => ?_) (fun h5 => ?_)
      · refine r_aload_n hC dX6_share_81 rfl ?_
        refine z_getR hM dX6_share_82 fl_RX6_31 rfl rfl (vld_of (n := 1) rfl (by omega) (by omega)) ?_
        refine r_iconst hC dX6_share_85 rfl ?_
        refine r_iload_n hC dX6_share_86 rfl ?_
        refine z_iastU hM dX6_share_87 rfl (by omega) (by omega) (by simp [Un, Tb, DL, DF, DR, DX]) (by simp [Okv]) ?_
        refine r_aload_n hC dX6_share_88 rfl ?_
        refine z_getR hM dX6_share_89 fl_RX6_31 rfl rfl (vld_of (n := 1) rfl (by omega) (by omega)) ?_
        refine r_iconst hC dX6_share_92 rfl ?_
        refine r_iload_n hC dX6_share_93 rfl ?_
        refine z_iastU hM dX6_share_94 rfl (by omega) (by omega) (by simp [Un, Tb, DL, DF, DR, DX]) (by simp [Okv]) ?_
        refine y_vret hK rfl dX6_share_95 ?_
        exact k
      · refine r_aload_n hC dX6_share_14 rfl ?_
        refine z_getR hM dX6_share_15 fl_RX6_28 rfl rfl (vld_of (n := 1) rfl (by omega) (by omega)) ?_
        refine r_iload_n hC dX6_share_18 rfl ?_
        refine z_iald hM dX6_share_19 rfl (by omega) (by omega) (fun v6 h_v6 o_v6 t_v6 => ?_)
        have J39_8 : ∀ (w8 : Int), -2147483648 ≤ w8 ∧ w8 ≤ 2147483647 → K 39 [some (vR 30 0), some (vI w1), some (vI w2), some (vI w3), none, none] [vI w8] σ := by
          intro w8  f_w8 
          refine r_istore hC dX6_share_39 rfl ?_
          refine r_iload_n hC dX6_share_41 rfl ?_
          refine r_iload hC dX6_share_42 rfl ?_
          have J52_11 : ∀ (w11 : Int), 0 ≤ w11 ∧ w11 ≤ 1 → K 52 [some (vR 30 0), some (vI w1), some (vI w2), some (vI w3), some (vI w8), none] [vI w11, vI w2] σ := by
            intro w11  f_w11 
            refine r_iaddG hC dX6_share_52 (fun v13 h_v13 => ?_)
            refine r_istore_n hC dX6_share_53 rfl ?_
            have L54 : ∀ (n54 : Nat) (w14 w15 : Int), 0 ≤ w14 ∧ w14 ≤ 2147483647 → -2147483648 ≤ w15 ∧ w15 ≤ 2147483647 → w15 + 2147483648 < (n54 : Int) → K 54 [some (vR 30 0), some (vI w14), some (vI v13), some (vI w3), some (vI w15), none] [] σ := by
              intro n54
              induction n54 with
              | zero => intro w14 w15  f_w14 f_w15  hm  ; omega
              | succ n54 ih54 =>
                intro w14 w15  f_w14 f_w15  hm54  
                refine r_iload hC dX6_share_54 rfl ?_
                refine r_if_le (tgt := 75) hC dX6_share_56 rfl (fun h16 => ?_) (fun h16 => ?_)
                · refine r_iincE hC ((w3 + 1)) dX6_share_75 rfl rfl (by omega) (by unfold inR; omega) ?_
                  refine r_goto (tgt := 6) hC dX6_share_78 rfl ?_
                  refine r_forget hC (ls2 := [some (vR 30 0), some (vI w14), some (vI v13), some (vI (w3 + 1)), none, none]) (lsub_some (lsub_some (lsub_some (lsub_some (lsub_none (lsub_none lsub_nil)))))) ?_
                  exact ih6 (w14) (v13) ((w3 + 1))  (by omega) (by omega) (by omega)  (by omega)  
                · refine r_iload_n hC dX6_share_59 rfl ?_
                  refine r_iload hC dX6_share_60 rfl ?_
                  refine r_iremP hC dX6_share_62 (by omega) (by omega) (fun v17 h_v17 => ?_)
                  refine r_istore hC dX6_share_63 rfl ?_
                  refine r_iload hC dX6_share_65 rfl ?_
                  refine r_istore_n hC dX6_share_67 rfl ?_
                  refine r_iload hC dX6_share_68 rfl ?_
                  refine r_istore hC dX6_share_70 rfl ?_
                  show K _ [_, _, _, _, _, _] _ _
                  refine r_goto (tgt := 54) hC dX6_share_72 rfl ?_
                  refine r_forget hC (ls2 := [some (vR 30 0), some (vI w15), some (vI v13), some (vI w3), some (vI v17), none]) (lsub_some (lsub_some (lsub_some (lsub_some (lsub_some (lsub_none lsub_nil)))))) ?_
                  exact ih54 (w15) (v17)  (by omega) (by omega)  (by omega)  
            exact L54 4294967298 (w1) (w8)  (by omega) (by omega)  (by omega)  
          refine r_if_ne (tgt := 51) hC dX6_share_44 rfl (fun h10 => ?_) (fun h10 => ?_)
          · refine r_iconst hC dX6_share_51 rfl ?_
            exact J52_11 (1)  (by omega) 
          · refine r_iconst hC dX6_share_47 rfl ?_
            refine r_goto (tgt := 52) hC dX6_share_48 rfl ?_
            exact J52_11 (0)  (by omega) 
        refine r_if_ge (tgt := 33) hC dX6_share_20 rfl (fun h7 => ?_) (fun h7 => ?_)
        · refine r_aload_n hC dX6_share_33 rfl ?_
          refine z_getR hM dX6_share_34 fl_RX6_28 rfl rfl (vld_of (n := 1) rfl (by omega) (by omega)) ?_
          refine r_iload_n hC dX6_share_37 rfl ?_
          refine z_iald hM dX6_share_38 rfl (by omega) (by omega) (fun v18 h_v18 o_v18 t_v18 => ?_)
          exact J39_8 (v18)  (by omega) 
        · refine r_aload_n hC dX6_share_23 rfl ?_
          refine z_getR hM dX6_share_24 fl_RX6_28 rfl rfl (vld_of (n := 1) rfl (by omega) (by omega)) ?_
          refine r_iload_n hC dX6_share_27 rfl ?_
          refine z_iald hM dX6_share_28 rfl (by omega) (by omega) (fun v19 h_v19 o_v19 t_v19 => ?_)
          refine r_inegG hC dX6_share_29 (fun v20 h_v20 => ?_)
          refine r_goto (tgt := 39) hC dX6_share_30 rfl ?_
          exact J39_8 (v20)  (by omega) 
  exact L6 244 (0) (0) (0)  (by omega) (by omega) (by omega)  (by omega)  
