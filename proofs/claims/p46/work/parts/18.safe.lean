-- safety: the reference, first group
def HM (τ : Mm) : Prop := ∀ l : Int, 0 ≤ l → l ≤ 3 → 0 ≤ τ 31 0 (22 * l + 5) ∧ τ 31 0 (22 * l + 5) ≤ 120
theorem HM.h31 {σ : Mm} (h : HM σ) {l : Int} (h0 : 0 ≤ l) (h1 : l ≤ 3) : 0 ≤ σ 31 0 (22 * l + 5) ∧ σ 31 0 (22 * l + 5) ≤ 120 := h l h0 h1
theorem HM.tr {eb : Bool} {σ ρ : Mm} (h : HM σ) (hT : ∀ (c : Nat) (i j : Int), Tk (false, eb, false) c j → ρ c i j = σ c i j) : HM ρ := fun l a b => by
  rw [hT 31 0 (22 * l + 5) (Or.inl (by simp only [Tb]; omega))]
  exact h l a b
theorem qm_isIn {e : Ev} {d : Nat} {P : Option Vl → Mm → Prop} {σ : Mm} {a lo hi : Int}   (k1 : (lo ≤ a ∧ a ≤ hi) → P (some (vI 1)) σ) (k0 : ¬ (lo ≤ a ∧ a ≤ hi) → P (some (vI 0)) σ) : WT e (d + 1) 136 [vI a, vI lo, vI hi] σ P := by
  refine WT_in fun K hK => ?_
  have hK : StpY e cX6_isIn RX6 (some .boolean) (WT e (d + 0)) P K := hK
  have hM := hK.1
  have hC := hK.1.1
  show K 0 [some (vI a), some (vI lo), some (vI hi)] [] σ
  refine r_rngz hC (fun g0 => ?_)
  have r_a : -2147483648 ≤ a ∧ a ≤ 2147483647 := inR_le (g0 (vI a) (by simp))
  have r_lo : -2147483648 ≤ lo ∧ lo ≤ 2147483647 := inR_le (g0 (vI lo) (by simp))
  have r_hi : -2147483648 ≤ hi ∧ hi ≤ 2147483647 := inR_le (g0 (vI hi) (by simp))
  refine r_iload_n hC dX6_isIn_0 rfl ?_
  refine r_iload_n hC dX6_isIn_1 rfl ?_
  refine r_icmp_lt (tgt := 14) hC dX6_isIn_2 rfl (fun h1 => ?_) (fun h1 => ?_)
  · refine r_iconst hC dX6_isIn_14 rfl ?_
    refine y_zret hK rfl dX6_isIn_15 (by omega) ?_
    exact k0 (by omega)
  · refine r_iload_n hC dX6_isIn_5 rfl ?_
    refine r_iload_n hC dX6_isIn_6 rfl ?_
    refine r_icmp_gt (tgt := 14) hC dX6_isIn_7 rfl (fun h2 => ?_) (fun h2 => ?_)
    · refine r_iconst hC dX6_isIn_14 rfl ?_
      refine y_zret hK rfl dX6_isIn_15 (by omega) ?_
      exact k0 (by omega)
    · refine r_iconst hC dX6_isIn_10 rfl ?_
      refine r_goto (tgt := 15) hC dX6_isIn_11 rfl ?_
      refine y_zret hK rfl dX6_isIn_15 (by omega) ?_
      exact k1 (by omega)
theorem qm_of {e : Ev} {d : Nat} {P : Option Vl → Mm → Prop} {σ : Mm} {l f : Int} (b_l : 0 ≤ l ∧ l ≤ 7) (b_f : 0 ≤ f ∧ f ≤ 21)  (k : ∀ r : Int, (-2147483648 ≤ r ∧ r ≤ 2147483647) → (f = 5 → 0 ≤ r ∧ r ≤ 121) → (f = 0 → 0 ≤ r ∧ r ≤ 1) → (Tk e 31 (22 * l + f) → r = σ 31 0 (22 * l + f)) → P (some (vI r)) σ) : WT e (d + 1) 138 [vR 30 0, vI l, vI f] σ P := by
  refine WT_in fun K hK => ?_
  have hK : StpY e cX6_of RX6 (some .int) (WT e (d + 0)) P K := hK
  have hM := hK.1
  have hC := hK.1.1
  show K 0 [some (vR 30 0), some (vI l), some (vI f)] [] σ
  refine r_aload_n hC dX6_of_0 rfl ?_
  refine z_getR hM dX6_of_1 fl_RX6_7 rfl rfl (vld_of (n := 1) rfl (by omega) (by omega)) ?_
  refine r_bipush hC dX6_of_4 rfl ?_
  refine r_iload_n hC dX6_of_6 rfl ?_
  refine r_imulE hC ((22 * l)) dX6_of_7 (by omega) (by unfold inR; omega) ?_
  refine r_iload_n hC dX6_of_8 rfl ?_
  refine r_iaddE hC (((22 * l) + f)) dX6_of_9 (by omega) (by unfold inR; omega) ?_
  refine z_iald hM dX6_of_10 rfl (by omega) (by omega) (fun v1 h_v1 o_v1 t_v1 => ?_)
  refine y_iret hK rfl dX6_of_11 ?_
  exact k _ (by omega) (fun h => o_v1.1 (by omega)) (fun h => by have := o_v1.2 (by omega); omega) t_v1
theorem qm_isLane {e : Ev} {d : Nat} {P : Option Vl → Mm → Prop} {σ : Mm} {l : Int}   (k1 : 0 ≤ l ∧ l ≤ 3 → P (some (vI 1)) σ) (k0 : P (some (vI 0)) σ) : WT e (d + 2) 137 [vR 30 0, vI l] σ P := by
  refine WT_in fun K hK => ?_
  have hK : StpY e cX6_isLane RX6 (some .boolean) (WT e (d + 1)) P K := hK
  have hM := hK.1
  have hC := hK.1.1
  show K 0 [some (vR 30 0), some (vI l)] [] σ
  refine r_rngz hC (fun g0 => ?_)
  have r_l : -2147483648 ≤ l ∧ l ≤ 2147483647 := inR_le (g0 (vI l) (by simp))
  refine r_iload_n hC dX6_isLane_0 rfl ?_
  refine r_iconst hC dX6_isLane_1 rfl ?_
  refine r_iconst hC dX6_isLane_2 rfl ?_
  refine z_ins3 hM dX6_isLane_3 tl_RX6_76 rfl (Nat.le_of_ble_eq_true rfl) (Nat.le_of_ble_eq_true rfl) ?_
  refine qm_isIn (fun h2 => ?_) (fun h2 => ?_)
  · refine r_if_eq (tgt := 28) hC dX6_isLane_6 rfl (fun h3 => by omega) (fun h3 => ?_)
    refine r_aload_n hC dX6_isLane_9 rfl ?_
    refine z_getR hM dX6_isLane_10 fl_RX6_7 rfl rfl (vld_of (n := 1) rfl (by omega) (by omega)) ?_
    refine r_bipush hC dX6_isLane_13 rfl ?_
    refine r_iload_n hC dX6_isLane_15 rfl ?_
    refine r_imulE hC ((22 * l)) dX6_isLane_16 (by omega) (by unfold inR; omega) ?_
    refine r_iconst hC dX6_isLane_17 rfl ?_
    refine r_iaddE hC ((22 * l)) dX6_isLane_18 (by omega) (by unfold inR; omega) ?_
    refine z_iald hM dX6_isLane_19 rfl (by omega) (by omega) (fun v4 h_v4 o_v4 t_v4 => ?_)
    clear t_v4
    have q_v4 : 0 ≤ v4 ∧ v4 ≤ 1 := by have := o_v4.2 (by omega); omega
    refine r_iconst hC dX6_isLane_20 rfl ?_
    refine r_icmp_ne (tgt := 28) hC dX6_isLane_21 rfl (fun h5 => ?_) (fun h5 => ?_)
    · refine r_iconst hC dX6_isLane_28 rfl ?_
      refine y_zret hK rfl dX6_isLane_29 (by omega) ?_
      exact k0
    · refine r_iconst hC dX6_isLane_24 rfl ?_
      refine r_goto (tgt := 29) hC dX6_isLane_25 rfl ?_
      refine y_zret hK rfl dX6_isLane_29 (by omega) ?_
      exact k1 (by omega)
  · refine r_if_eq (tgt := 28) hC dX6_isLane_6 rfl (fun h6 => ?_) (fun h6 => by omega)
    refine r_iconst hC dX6_isLane_28 rfl ?_
    refine y_zret hK rfl dX6_isLane_29 (by omega) ?_
    exact k0
theorem qm_heldOf {e : Ev} {d : Nat} {P : Option Vl → Mm → Prop} {σ : Mm} {l : Int} (b_l : 0 ≤ l ∧ l ≤ 7)  (k : ∀ r : Int, (0 ≤ r ∧ r ≤ 121) → (True → r = σ 31 0 (22 * l + 5)) → P (some (vI r)) σ) : WT e (d + 2) 141 [vR 30 0, vI l] σ P := by
  refine WT_in fun K hK => ?_
  have hK : StpY e cX6_heldOf RX6 (some .int) (WT e (d + 1)) P K := hK
  have hM := hK.1
  have hC := hK.1.1
  show K 0 [some (vR 30 0), some (vI l)] [] σ
  refine r_aload_n hC dX6_heldOf_0 rfl ?_
  refine r_iload_n hC dX6_heldOf_1 rfl ?_
  refine r_iconst hC dX6_heldOf_2 rfl ?_
  refine z_inv2 hM dX6_heldOf_3 vl_RX6_80 rfl rfl rfl (Nat.le_of_ble_eq_true rfl) (Nat.le_of_ble_eq_true rfl) ?_
  refine qm_of (by omega) (by omega) (fun v1 h_v1 h5_v1 h0_v1 t_v1 => ?_)
  have q_v1 := h5_v1 rfl
  refine y_iret hK rfl dX6_heldOf_6 ?_
  exact k _ (by omega) (fun he => t_v1 (Or.inl (by simp only [Tb]; omega)))
theorem qm_isUsed {e : Ev} {d : Nat} {P : Option Vl → Mm → Prop} {σ : Mm} {o : Int}   (k : ∀ r : Int, 0 ≤ r ∧ r ≤ 1 → P (some (vI r)) σ) : WT e (d + 2) 142 [vR 30 0, vI o] σ P := by
  refine WT_in fun K hK => ?_
  have hK : StpY e cX6_isUsed RX6 (some .boolean) (WT e (d + 1)) P K := hK
  have hM := hK.1
  have hC := hK.1.1
  show K 0 [some (vR 30 0), some (vI o), none] [] σ
  refine r_rngz hC (fun g0 => ?_)
  have r_o : -2147483648 ≤ o ∧ o ≤ 2147483647 := inR_le (g0 (vI o) (by simp))
  refine r_iconst hC dX6_isUsed_0 rfl ?_
  refine r_istore_n hC dX6_isUsed_1 rfl ?_
  have L2 : ∀ (n2 : Nat) (w1 : Int), 0 ≤ w1 ∧ w1 ≤ 7 → 7 - w1 < (n2 : Int) → K 2 [some (vR 30 0), some (vI o), some (vI w1)] [] σ := by
    intro n2
    induction n2 with
    | zero => intro w1  f_w1  hm  ; omega
    | succ n2 ih2 =>
      intro w1  f_w1  hm2  
      refine r_iload_n hC dX6_isUsed_2 rfl ?_
      refine r_bipush hC dX6_isUsed_3 rfl ?_
      refine r_icmp_ge (tgt := 36) hC dX6_isUsed_5 rfl (fun h2 => ?_) (fun h2 => ?_)
      · refine r_iconst hC dX6_isUsed_36 rfl ?_
        refine y_zret hK rfl dX6_isUsed_37 (by omega) ?_
        exact k _ (by omega)
      · refine r_aload_n hC dX6_isUsed_8 rfl ?_
        refine r_iload_n hC dX6_isUsed_9 rfl ?_
        refine r_iconst hC dX6_isUsed_10 rfl ?_
        refine z_inv2 hM dX6_isUsed_11 vl_RX6_80 rfl rfl rfl (Nat.le_of_ble_eq_true rfl) (Nat.le_of_ble_eq_true rfl) ?_
        refine qm_of (by omega) (by omega) (fun v3 h_v3 h5_v3 h0_v3 t_v3 => ?_)
        clear t_v3
        have q_v3 := h0_v3 rfl
        refine r_iconst hC dX6_isUsed_14 rfl ?_
        refine r_icmp_ne (tgt := 30) hC dX6_isUsed_15 rfl (fun h4 => ?_) (fun h4 => ?_)
        · refine r_iincE hC ((w1 + 1)) dX6_isUsed_30 rfl rfl (by omega) (by unfold inR; omega) ?_
          refine r_goto (tgt := 2) hC dX6_isUsed_33 rfl ?_
          exact ih2 ((w1 + 1))  (by omega)  (by omega)  
        · refine r_aload_n hC dX6_isUsed_18 rfl ?_
          refine r_iload_n hC dX6_isUsed_19 rfl ?_
          refine r_iconst hC dX6_isUsed_20 rfl ?_
          refine z_inv2 hM dX6_isUsed_21 vl_RX6_80 rfl rfl rfl (Nat.le_of_ble_eq_true rfl) (Nat.le_of_ble_eq_true rfl) ?_
          refine qm_of (by omega) (by omega) (fun v5 h_v5 h5_v5 h0_v5 t_v5 => ?_)
          clear t_v5
          refine r_iload_n hC dX6_isUsed_24 rfl ?_
          refine r_icmp_ne (tgt := 30) hC dX6_isUsed_25 rfl (fun h6 => ?_) (fun h6 => ?_)
          · refine r_iincE hC ((w1 + 1)) dX6_isUsed_30 rfl rfl (by omega) (by unfold inR; omega) ?_
            refine r_goto (tgt := 2) hC dX6_isUsed_33 rfl ?_
            exact ih2 ((w1 + 1))  (by omega)  (by omega)  
          · refine r_iconst hC dX6_isUsed_28 rfl ?_
            refine y_zret hK rfl dX6_isUsed_29 (by omega) ?_
            exact k _ (by omega)
  exact L2 9 (0)  (by omega)  (by omega)  
theorem qm_product {e : Ev} {d : Nat} {P : Option Vl → Mm → Prop} {σ : Mm} {x y : Int} (b_x : 0 ≤ x ∧ x ≤ 3) (b_y : 0 ≤ y ∧ y ≤ 3)  (k : ∀ r : Int, 0 ≤ r ∧ r ≤ 3 → P (some (vI r)) σ) : WT e (d + 1) 145 [vR 30 0, vI x, vI y] σ P := by
  refine WT_in fun K hK => ?_
  have hK : StpY e cX6_product RX6 (some .int) (WT e (d + 0)) P K := hK
  have hM := hK.1
  have hC := hK.1.1
  show K 0 [some (vR 30 0), some (vI x), some (vI y)] [] σ
  refine r_aload_n hC dX6_product_0 rfl ?_
  refine z_getR hM dX6_product_1 fl_RX6_22 rfl rfl (vld_of (n := 1) rfl (by omega) (by omega)) ?_
  refine r_iconst hC dX6_product_4 rfl ?_
  refine r_iload_n hC dX6_product_5 rfl ?_
  refine r_imulE hC ((4 * x)) dX6_product_6 (by omega) (by unfold inR; omega) ?_
  refine r_iload_n hC dX6_product_7 rfl ?_
  refine r_iaddE hC (((4 * x) + y)) dX6_product_8 (by omega) (by unfold inR; omega) ?_
  refine z_iald hM dX6_product_9 rfl (by omega) (by omega) (fun v1 h_v1 o_v1 t_v1 => ?_)
  clear t_v1
  have q_v1 : 0 ≤ v1 ∧ v1 ≤ 3 := o_v1
  refine y_iret hK rfl dX6_product_10 ?_
  exact k _ (by omega)
theorem qm_associates {e : Ev} {d : Nat} {P : Option Vl → Mm → Prop} {σ : Mm} {t : Int} (b_t : 0 ≤ t ∧ t ≤ 63)  (k : ∀ r : Int, 0 ≤ r ∧ r ≤ 1 → P (some (vI r)) σ) : WT e (d + 2) 146 [vR 30 0, vI t] σ P := by
  refine WT_in fun K hK => ?_
  have hK : StpY e cX6_associates RX6 (some .boolean) (WT e (d + 1)) P K := hK
  have hM := hK.1
  have hC := hK.1.1
  show K 0 [some (vR 30 0), some (vI t), none, none, none] [] σ
  refine r_iload_n hC dX6_associates_0 rfl ?_
  refine r_bipush hC dX6_associates_1 rfl ?_
  refine r_idivN hC dX6_associates_3 (by omega) (by omega) ?_
  refine r_istore_n hC dX6_associates_4 rfl ?_
  refine r_iload_n hC dX6_associates_5 rfl ?_
  refine r_iconst hC dX6_associates_6 rfl ?_
  refine r_idivN hC dX6_associates_7 (by omega) (by omega) ?_
  refine r_iconst hC dX6_associates_8 rfl ?_
  refine r_iremN hC dX6_associates_9 (by omega) (by omega) ?_
  refine r_istore_n hC dX6_associates_10 rfl ?_
  refine r_iload_n hC dX6_associates_11 rfl ?_
  refine r_iconst hC dX6_associates_12 rfl ?_
  refine r_iremN hC dX6_associates_13 (by omega) (by omega) ?_
  refine r_istore hC dX6_associates_14 rfl ?_
  show K _ [_, _, _, _, _] _ _
  refine r_aload_n hC dX6_associates_16 rfl ?_
  refine r_aload_n hC dX6_associates_17 rfl ?_
  refine r_iload_n hC dX6_associates_18 rfl ?_
  refine r_iload_n hC dX6_associates_19 rfl ?_
  refine z_inv2 hM dX6_associates_20 vl_RX6_88 rfl rfl rfl (Nat.le_of_ble_eq_true rfl) (Nat.le_of_ble_eq_true rfl) ?_
  refine qm_product (by omega) (by omega) (fun v1 h_v1 => ?_)
  refine r_iload hC dX6_associates_23 rfl ?_
  refine z_inv2 hM dX6_associates_25 vl_RX6_88 rfl rfl rfl (Nat.le_of_ble_eq_true rfl) (Nat.le_of_ble_eq_true rfl) ?_
  refine qm_product (by omega) (by omega) (fun v2 h_v2 => ?_)
  refine r_aload_n hC dX6_associates_28 rfl ?_
  refine r_iload_n hC dX6_associates_29 rfl ?_
  refine r_aload_n hC dX6_associates_30 rfl ?_
  refine r_iload_n hC dX6_associates_31 rfl ?_
  refine r_iload hC dX6_associates_32 rfl ?_
  refine z_inv2 hM dX6_associates_34 vl_RX6_88 rfl rfl rfl (Nat.le_of_ble_eq_true rfl) (Nat.le_of_ble_eq_true rfl) ?_
  refine qm_product (by omega) (by omega) (fun v3 h_v3 => ?_)
  refine z_inv2 hM dX6_associates_37 vl_RX6_88 rfl rfl rfl (Nat.le_of_ble_eq_true rfl) (Nat.le_of_ble_eq_true rfl) ?_
  refine qm_product (by omega) (by omega) (fun v4 h_v4 => ?_)
  have J48_6 : ∀ (w6 : Int), 0 ≤ w6 ∧ w6 ≤ 1 → K 48 [some (vR 30 0), some (vI t), some (vI (t / 16)), some (vI ((t / 4) % 4)), some (vI (t % 4))] [vI w6] σ := by
    intro w6  f_w6 
    refine y_zret hK rfl dX6_associates_48 (by omega) ?_
    exact k _ (by omega)
  refine r_icmp_ne (tgt := 47) hC dX6_associates_40 rfl (fun h5 => ?_) (fun h5 => ?_)
  · refine r_iconst hC dX6_associates_47 rfl ?_
    exact J48_6 (0)  (by omega) 
  · refine r_iconst hC dX6_associates_43 rfl ?_
    refine r_goto (tgt := 48) hC dX6_associates_44 rfl ?_
    exact J48_6 (1)  (by omega) 
theorem qm_firstThree {e : Ev} {d : Nat} {P : Option Vl → Mm → Prop} {σ : Mm}   (k : ∀ r : Int, -1 ≤ r ∧ r ≤ 63 → P (some (vI r)) σ) : WT e (d + 3) 147 [vR 30 0] σ P := by
  refine WT_in fun K hK => ?_
  have hK : StpY e cX6_firstThree RX6 (some .int) (WT e (d + 2)) P K := hK
  have hM := hK.1
  have hC := hK.1.1
  show K 0 [some (vR 30 0), none] [] σ
  refine r_iconst hC dX6_firstThree_0 rfl ?_
  refine r_istore_n hC dX6_firstThree_1 rfl ?_
  have L2 : ∀ (n2 : Nat) (w1 : Int), 0 ≤ w1 ∧ w1 ≤ 64 → 64 - w1 < (n2 : Int) → K 2 [some (vR 30 0), some (vI w1)] [] σ := by
    intro n2
    induction n2 with
    | zero => intro w1  f_w1  hm  ; omega
    | succ n2 ih2 =>
      intro w1  f_w1  hm2  
      refine r_iload_n hC dX6_firstThree_2 rfl ?_
      refine r_bipush hC dX6_firstThree_3 rfl ?_
      refine r_icmp_ge (tgt := 24) hC dX6_firstThree_5 rfl (fun h2 => ?_) (fun h2 => ?_)
      · refine r_iconst hC dX6_firstThree_24 rfl ?_
        refine y_iret hK rfl dX6_firstThree_25 ?_
        exact k _ (by omega)
      · refine r_aload_n hC dX6_firstThree_8 rfl ?_
        refine r_iload_n hC dX6_firstThree_9 rfl ?_
        refine z_inv1 hM dX6_firstThree_10 vl_RX6_91 rfl rfl rfl (Nat.le_of_ble_eq_true rfl) (Nat.le_of_ble_eq_true rfl) ?_
        refine qm_associates (by omega) (fun v3 h_v3 => ?_)
        refine r_if_ne (tgt := 18) hC dX6_firstThree_13 rfl (fun h4 => ?_) (fun h4 => ?_)
        · refine r_iincE hC ((w1 + 1)) dX6_firstThree_18 rfl rfl (by omega) (by unfold inR; omega) ?_
          refine r_goto (tgt := 2) hC dX6_firstThree_21 rfl ?_
          exact ih2 ((w1 + 1))  (by omega)  (by omega)  
        · refine r_iload_n hC dX6_firstThree_16 rfl ?_
          refine y_iret hK rfl dX6_firstThree_17 ?_
          exact k _ (by omega)
  exact L2 66 (0)  (by omega)  (by omega)  
theorem qm_countAssociating {e : Ev} {d : Nat} {P : Option Vl → Mm → Prop} {σ : Mm}   (k : ∀ r : Int, -2147483648 ≤ r ∧ r ≤ 2147483647 → P (some (vI r)) σ) : WT e (d + 3) 149 [vR 30 0] σ P := by
  refine WT_in fun K hK => ?_
  have hK : StpY e cX6_countAssociating RX6 (some .int) (WT e (d + 2)) P K := hK
  have hM := hK.1
  have hC := hK.1.1
  show K 0 [some (vR 30 0), none, none] [] σ
  refine r_iconst hC dX6_countAssociating_0 rfl ?_
  refine r_istore_n hC dX6_countAssociating_1 rfl ?_
  refine r_iconst hC dX6_countAssociating_2 rfl ?_
  refine r_istore_n hC dX6_countAssociating_3 rfl ?_
  have L4 : ∀ (n4 : Nat) (w1 w2 : Int), -2147483648 ≤ w1 ∧ w1 ≤ 2147483647 → 0 ≤ w2 ∧ w2 ≤ 64 → 64 - w2 < (n4 : Int) → K 4 [some (vR 30 0), some (vI w1), some (vI w2)] [] σ := by
    intro n4
    induction n4 with
    | zero => intro w1 w2  f_w1 f_w2  hm  ; omega
    | succ n4 ih4 =>
      intro w1 w2  f_w1 f_w2  hm4  
      refine r_iload_n hC dX6_countAssociating_4 rfl ?_
      refine r_bipush hC dX6_countAssociating_5 rfl ?_
      refine r_icmp_ge (tgt := 32) hC dX6_countAssociating_7 rfl (fun h3 => ?_) (fun h3 => ?_)
      · refine r_iload_n hC dX6_countAssociating_32 rfl ?_
        refine y_iret hK rfl dX6_countAssociating_33 ?_
        exact k _ (by omega)
      · refine r_iload_n hC dX6_countAssociating_10 rfl ?_
        refine r_aload_n hC dX6_countAssociating_11 rfl ?_
        refine r_iload_n hC dX6_countAssociating_12 rfl ?_
        refine z_inv1 hM dX6_countAssociating_13 vl_RX6_91 rfl rfl rfl (Nat.le_of_ble_eq_true rfl) (Nat.le_of_ble_eq_true rfl) ?_
        refine qm_associates (by omega) (fun v4 h_v4 => ?_)
        have J24_6 : ∀ (w6 : Int), 0 ≤ w6 ∧ w6 ≤ 1 → K 24 [some (vR 30 0), some (vI w1), some (vI w2)] [vI w6, vI w1] σ := by
          intro w6  f_w6 
          refine r_iaddG hC dX6_countAssociating_24 (fun v8 h_v8 => ?_)
          refine r_istore_n hC dX6_countAssociating_25 rfl ?_
          refine r_iincE hC ((w2 + 1)) dX6_countAssociating_26 rfl rfl (by omega) (by unfold inR; omega) ?_
          refine r_goto (tgt := 4) hC dX6_countAssociating_29 rfl ?_
          exact ih4 (v8) ((w2 + 1))  (by omega) (by omega)  (by omega)  
        refine r_if_eq (tgt := 23) hC dX6_countAssociating_16 rfl (fun h5 => ?_) (fun h5 => ?_)
        · refine r_iconst hC dX6_countAssociating_23 rfl ?_
          exact J24_6 (0)  (by omega) 
        · refine r_iconst hC dX6_countAssociating_19 rfl ?_
          refine r_goto (tgt := 24) hC dX6_countAssociating_20 rfl ?_
          exact J24_6 (1)  (by omega) 
  exact L4 66 (0) (0)  (by omega) (by omega)  (by omega)  
theorem qm_triple {e : Ev} {d : Nat} {P : Option Vl → Mm → Prop} {σ : Mm} {w : Int}   (k : ∀ r : Int, -2147483648 ≤ r ∧ r ≤ 2147483647 → P (some (vI r)) σ) : WT e (d + 4) 148 [vR 30 0, vI w] σ P := by
  refine WT_in fun K hK => ?_
  have hK : StpY e cX6_triple RX6 (some .int) (WT e (d + 3)) P K := hK
  have hM := hK.1
  have hC := hK.1.1
  show K 0 [some (vR 30 0), some (vI w), none] [] σ
  refine r_rngz hC (fun g0 => ?_)
  have r_w : -2147483648 ≤ w ∧ w ≤ 2147483647 := inR_le (g0 (vI w) (by simp))
  refine r_iload_n hC dX6_triple_0 rfl ?_
  refine r_iconst hC dX6_triple_1 rfl ?_
  refine r_icmp_ne (tgt := 10) hC dX6_triple_2 rfl (fun h1 => ?_) (fun h1 => ?_)
  · refine r_aload_n hC dX6_triple_10 rfl ?_
    refine z_inv0 hM dX6_triple_11 vl_RX6_98 rfl rfl rfl (Nat.le_of_ble_eq_true rfl) (Nat.le_of_ble_eq_true rfl) ?_
    refine qm_firstThree (fun v2 h_v2 => ?_)
    refine r_istore_n hC dX6_triple_14 rfl ?_
    refine r_iload_n hC dX6_triple_15 rfl ?_
    refine r_if_lt (tgt := 28) hC dX6_triple_16 rfl (fun h3 => ?_) (fun h3 => ?_)
    · refine r_iconst hC dX6_triple_28 rfl ?_
      refine y_iret hK rfl dX6_triple_29 ?_
      exact k _ (by omega)
    · refine r_iload_n hC dX6_triple_19 rfl ?_
      refine r_iconst hC dX6_triple_20 rfl ?_
      refine r_iconst hC dX6_triple_21 rfl ?_
      refine z_ins3 hM dX6_triple_22 tl_RX6_76 rfl (Nat.le_of_ble_eq_true rfl) (Nat.le_of_ble_eq_true rfl) ?_
      refine qm_isIn (fun h5 => ?_) (fun h5 => ?_)
      · refine r_if_ne (tgt := 30) hC dX6_triple_25 rfl (fun h6 => ?_) (fun h6 => by omega)
        refine r_iload_n hC dX6_triple_30 rfl ?_
        have J57_8 : ∀ (w8 : Int), 0 ≤ w8 ∧ w8 ≤ 3 → K 57 [some (vR 30 0), some (vI w), some (vI v2)] [vI w8] σ := by
          intro w8  f_w8 
          refine y_iret hK rfl dX6_triple_57 ?_
          exact k _ (by omega)
        refine r_if_ne (tgt := 41) hC dX6_triple_31 rfl (fun h7 => ?_) (fun h7 => ?_)
        · refine r_iload_n hC dX6_triple_41 rfl ?_
          refine r_iconst hC dX6_triple_42 rfl ?_
          refine r_icmp_ne (tgt := 54) hC dX6_triple_43 rfl (fun h10 => ?_) (fun h10 => ?_)
          · refine r_iload_n hC dX6_triple_54 rfl ?_
            refine r_iconst hC dX6_triple_55 rfl ?_
            refine r_iremN hC dX6_triple_56 (by omega) (by omega) ?_
            exact J57_8 ((v2 % 4))  (by omega) 
          · refine r_iload_n hC dX6_triple_46 rfl ?_
            refine r_iconst hC dX6_triple_47 rfl ?_
            refine r_idivN hC dX6_triple_48 (by omega) (by omega) ?_
            refine r_iconst hC dX6_triple_49 rfl ?_
            refine r_iremN hC dX6_triple_50 (by omega) (by omega) ?_
            refine r_goto (tgt := 57) hC dX6_triple_51 rfl ?_
            exact J57_8 (((v2 / 4) % 4))  (by omega) 
        · refine r_iload_n hC dX6_triple_34 rfl ?_
          refine r_bipush hC dX6_triple_35 rfl ?_
          refine r_idivN hC dX6_triple_37 (by omega) (by omega) ?_
          refine r_goto (tgt := 57) hC dX6_triple_38 rfl ?_
          exact J57_8 ((v2 / 16))  (by omega) 
      · refine r_if_ne (tgt := 30) hC dX6_triple_25 rfl (fun h11 => by omega) (fun h11 => ?_)
        refine r_iconst hC dX6_triple_28 rfl ?_
        refine y_iret hK rfl dX6_triple_29 ?_
        exact k _ (by omega)
  · refine r_aload_n hC dX6_triple_5 rfl ?_
    refine z_inv0 hM dX6_triple_6 vl_RX6_94 rfl rfl rfl (Nat.le_of_ble_eq_true rfl) (Nat.le_of_ble_eq_true rfl) ?_
    refine qm_countAssociating (fun v12 h_v12 => ?_)
    refine y_iret hK rfl dX6_triple_9 ?_
    exact k _ (by omega)
theorem qm_isSuch {e : Ev} {d : Nat} {P : Option Vl → Mm → Prop} {σ : Mm} {x w : Int} (b_x : 0 ≤ x ∧ x ≤ 3)  (k : ∀ r : Int, 0 ≤ r ∧ r ≤ 1 → P (some (vI r)) σ) : WT e (d + 2) 150 [vR 30 0, vI x, vI w] σ P := by
  refine WT_in fun K hK => ?_
  have hK : StpY e cX6_isSuch RX6 (some .boolean) (WT e (d + 1)) P K := hK
  have hM := hK.1
  have hC := hK.1.1
  show K 0 [some (vR 30 0), some (vI x), some (vI w), none, none] [] σ
  refine r_rngz hC (fun g0 => ?_)
  have r_w : -2147483648 ≤ w ∧ w ≤ 2147483647 := inR_le (g0 (vI w) (by simp))
  refine r_iconst hC dX6_isSuch_0 rfl ?_
  refine r_istore_n hC dX6_isSuch_1 rfl ?_
  have L2 : ∀ (n2 : Nat) (w1 : Int), 0 ≤ w1 ∧ w1 ≤ 4 → 4 - w1 < (n2 : Int) → K 2 [some (vR 30 0), some (vI x), some (vI w), some (vI w1), none] [] σ := by
    intro n2
    induction n2 with
    | zero => intro w1  f_w1  hm  ; omega
    | succ n2 ih2 =>
      intro w1  f_w1  hm2  
      refine r_iload_n hC dX6_isSuch_2 rfl ?_
      refine r_iconst hC dX6_isSuch_3 rfl ?_
      refine r_icmp_ge (tgt := 48) hC dX6_isSuch_4 rfl (fun h2 => ?_) (fun h2 => ?_)
      · refine r_iconst hC dX6_isSuch_48 rfl ?_
        refine y_zret hK rfl dX6_isSuch_49 (by omega) ?_
        exact k _ (by omega)
      · refine r_iload_n hC dX6_isSuch_7 rfl ?_
        have J16_4 : ∀ (w4 : Int), 0 ≤ w4 ∧ w4 ≤ 3 → K 16 [some (vR 30 0), some (vI x), some (vI w), some (vI w1), none] [vI w4] σ := by
          intro w4  f_w4 
          refine r_istore hC dX6_isSuch_16 rfl ?_
          refine r_aload_n hC dX6_isSuch_18 rfl ?_
          refine r_iload_n hC dX6_isSuch_19 rfl ?_
          refine r_iload_n hC dX6_isSuch_20 rfl ?_
          refine z_inv2 hM dX6_isSuch_21 vl_RX6_88 rfl rfl rfl (Nat.le_of_ble_eq_true rfl) (Nat.le_of_ble_eq_true rfl) ?_
          refine qm_product (by omega) (by omega) (fun v6 h_v6 => ?_)
          refine r_iload hC dX6_isSuch_24 rfl ?_
          refine r_icmp_ne (tgt := 40) hC dX6_isSuch_26 rfl (fun h7 => ?_) (fun h7 => ?_)
          · refine r_iconst hC dX6_isSuch_40 rfl ?_
            refine y_zret hK rfl dX6_isSuch_41 (by omega) ?_
            exact k _ (by omega)
          · refine r_aload_n hC dX6_isSuch_29 rfl ?_
            refine r_iload_n hC dX6_isSuch_30 rfl ?_
            refine r_iload_n hC dX6_isSuch_31 rfl ?_
            refine z_inv2 hM dX6_isSuch_32 vl_RX6_88 rfl rfl rfl (Nat.le_of_ble_eq_true rfl) (Nat.le_of_ble_eq_true rfl) ?_
            refine qm_product (by omega) (by omega) (fun v8 h_v8 => ?_)
            refine r_iload hC dX6_isSuch_35 rfl ?_
            refine r_icmp_eq (tgt := 42) hC dX6_isSuch_37 rfl (fun h9 => ?_) (fun h9 => ?_)
            · refine r_iincE hC ((w1 + 1)) dX6_isSuch_42 rfl rfl (by omega) (by unfold inR; omega) ?_
              refine r_goto (tgt := 2) hC dX6_isSuch_45 rfl ?_
              refine r_forget hC (ls2 := [some (vR 30 0), some (vI x), some (vI w), some (vI (w1 + 1)), none]) (lsub_some (lsub_some (lsub_some (lsub_some (lsub_none lsub_nil))))) ?_
              exact ih2 ((w1 + 1))  (by omega)  (by omega)  
            · refine r_iconst hC dX6_isSuch_40 rfl ?_
              refine y_zret hK rfl dX6_isSuch_41 (by omega) ?_
              exact k _ (by omega)
        refine r_if_ne (tgt := 15) hC dX6_isSuch_8 rfl (fun h3 => ?_) (fun h3 => ?_)
        · refine r_iload_n hC dX6_isSuch_15 rfl ?_
          exact J16_4 (x)  (by omega) 
        · refine r_iload_n hC dX6_isSuch_11 rfl ?_
          refine r_goto (tgt := 16) hC dX6_isSuch_12 rfl ?_
          exact J16_4 (w1)  (by omega) 
  exact L2 6 (0)  (by omega)  (by omega)  
theorem qm_element {e : Ev} {d : Nat} {P : Option Vl → Mm → Prop} {σ : Mm} {w : Int}   (k : ∀ r : Int, -2147483648 ≤ r ∧ r ≤ 2147483647 → P (some (vI r)) σ) : WT e (d + 3) 151 [vR 30 0, vI w] σ P := by
  refine WT_in fun K hK => ?_
  have hK : StpY e cX6_element RX6 (some .int) (WT e (d + 2)) P K := hK
  have hM := hK.1
  have hC := hK.1.1
  show K 0 [some (vR 30 0), some (vI w), none, none] [] σ
  refine r_rngz hC (fun g0 => ?_)
  have r_w : -2147483648 ≤ w ∧ w ≤ 2147483647 := inR_le (g0 (vI w) (by simp))
  refine r_iload_n hC dX6_element_0 rfl ?_
  refine r_iconst hC dX6_element_1 rfl ?_
  refine r_iconst hC dX6_element_2 rfl ?_
  refine z_ins3 hM dX6_element_3 tl_RX6_76 rfl (Nat.le_of_ble_eq_true rfl) (Nat.le_of_ble_eq_true rfl) ?_
  refine qm_isIn (fun h2 => ?_) (fun h2 => ?_)
  · refine r_if_eq (tgt := 35) hC dX6_element_6 rfl (fun h3 => by omega) (fun h3 => ?_)
    refine r_iconst hC dX6_element_9 rfl ?_
    refine r_istore_n hC dX6_element_10 rfl ?_
    have L11 : ∀ (n11 : Nat) (w4 : Int), 0 ≤ w4 ∧ w4 ≤ 4 → 4 - w4 < (n11 : Int) → K 11 [some (vR 30 0), some (vI w), some (vI w4), none] [] σ := by
      intro n11
      induction n11 with
      | zero => intro w4  f_w4  hm  ; omega
      | succ n11 ih11 =>
        intro w4  f_w4  hm11  
        refine r_iload_n hC dX6_element_11 rfl ?_
        refine r_iconst hC dX6_element_12 rfl ?_
        refine r_icmp_ge (tgt := 33) hC dX6_element_13 rfl (fun h5 => ?_) (fun h5 => ?_)
        · refine r_iconst hC dX6_element_33 rfl ?_
          refine y_iret hK rfl dX6_element_34 ?_
          exact k _ (by omega)
        · refine r_aload_n hC dX6_element_16 rfl ?_
          refine r_iload_n hC dX6_element_17 rfl ?_
          refine r_iload_n hC dX6_element_18 rfl ?_
          refine z_inv2 hM dX6_element_19 vl_RX6_101 rfl rfl rfl (Nat.le_of_ble_eq_true rfl) (Nat.le_of_ble_eq_true rfl) ?_
          refine qm_isSuch (by omega) (fun v6 h_v6 => ?_)
          refine r_if_eq (tgt := 27) hC dX6_element_22 rfl (fun h7 => ?_) (fun h7 => ?_)
          · refine r_iincE hC ((w4 + 1)) dX6_element_27 rfl rfl (by omega) (by unfold inR; omega) ?_
            refine r_goto (tgt := 11) hC dX6_element_30 rfl ?_
            exact ih11 ((w4 + 1))  (by omega)  (by omega)  
          · refine r_iload_n hC dX6_element_25 rfl ?_
            refine y_iret hK rfl dX6_element_26 ?_
            exact k _ (by omega)
    exact L11 6 (0)  (by omega)  (by omega)  
  · refine r_if_eq (tgt := 35) hC dX6_element_6 rfl (fun h8 => ?_) (fun h8 => by omega)
    refine r_iconst hC dX6_element_35 rfl ?_
    refine r_istore_n hC dX6_element_36 rfl ?_
    refine r_iload_n hC dX6_element_37 rfl ?_
    refine r_iconst hC dX6_element_38 rfl ?_
    refine r_icmp_ne (tgt := 75) hC dX6_element_39 rfl (fun h9 => ?_) (fun h9 => ?_)
    · refine r_iload_n hC dX6_element_75 rfl ?_
      refine r_iconst hC dX6_element_76 rfl ?_
      refine r_icmp_eq (tgt := 82) hC dX6_element_77 rfl (fun h10 => ?_) (fun h10 => ?_)
      · refine r_iconst hC dX6_element_82 rfl ?_
        refine r_istore_n hC dX6_element_83 rfl ?_
        have L84 : ∀ (n84 : Nat) (w11 w12 : Int), -2147483648 ≤ w11 ∧ w11 ≤ 2147483647 → 0 ≤ w12 ∧ w12 ≤ 16 → 16 - w12 < (n84 : Int) → K 84 [some (vR 30 0), some (vI w), some (vI w11), some (vI w12)] [] σ := by
          intro n84
          induction n84 with
          | zero => intro w11 w12  f_w11 f_w12  hm  ; omega
          | succ n84 ih84 =>
            intro w11 w12  f_w11 f_w12  hm84  
            refine r_iload_n hC dX6_element_84 rfl ?_
            refine r_bipush hC dX6_element_85 rfl ?_
            refine r_icmp_ge (tgt := 127) hC dX6_element_87 rfl (fun h13 => ?_) (fun h13 => ?_)
            · refine r_iload_n hC dX6_element_127 rfl ?_
              refine y_iret hK rfl dX6_element_128 ?_
              exact k _ (by omega)
            · refine r_iload_n hC dX6_element_90 rfl ?_
              refine r_aload_n hC dX6_element_91 rfl ?_
              refine r_iload_n hC dX6_element_92 rfl ?_
              refine r_iconst hC dX6_element_93 rfl ?_
              refine r_idivN hC dX6_element_94 (by omega) (by omega) ?_
              refine r_iload_n hC dX6_element_95 rfl ?_
              refine r_iconst hC dX6_element_96 rfl ?_
              refine r_iremN hC dX6_element_97 (by omega) (by omega) ?_
              refine z_inv2 hM dX6_element_98 vl_RX6_88 rfl rfl rfl (Nat.le_of_ble_eq_true rfl) (Nat.le_of_ble_eq_true rfl) ?_
              refine qm_product (by omega) (by omega) (fun v14 h_v14 => ?_)
              refine r_aload_n hC dX6_element_101 rfl ?_
              refine r_iload_n hC dX6_element_102 rfl ?_
              refine r_iconst hC dX6_element_103 rfl ?_
              refine r_iremN hC dX6_element_104 (by omega) (by omega) ?_
              refine r_iload_n hC dX6_element_105 rfl ?_
              refine r_iconst hC dX6_element_106 rfl ?_
              refine r_idivN hC dX6_element_107 (by omega) (by omega) ?_
              refine z_inv2 hM dX6_element_108 vl_RX6_88 rfl rfl rfl (Nat.le_of_ble_eq_true rfl) (Nat.le_of_ble_eq_true rfl) ?_
              refine qm_product (by omega) (by omega) (fun v15 h_v15 => ?_)
              have J119_17 : ∀ (w17 : Int), 0 ≤ w17 ∧ w17 ≤ 1 → K 119 [some (vR 30 0), some (vI w), some (vI w11), some (vI w12)] [vI w17, vI w11] σ := by
                intro w17  f_w17 
                refine r_iaddG hC dX6_element_119 (fun v19 h_v19 => ?_)
                refine r_istore_n hC dX6_element_120 rfl ?_
                refine r_iincE hC ((w12 + 1)) dX6_element_121 rfl rfl (by omega) (by unfold inR; omega) ?_
                refine r_goto (tgt := 84) hC dX6_element_124 rfl ?_
                exact ih84 (v19) ((w12 + 1))  (by omega) (by omega)  (by omega)  
              refine r_icmp_ne (tgt := 118) hC dX6_element_111 rfl (fun h16 => ?_) (fun h16 => ?_)
              · refine r_iconst hC dX6_element_118 rfl ?_
                exact J119_17 (0)  (by omega) 
              · refine r_iconst hC dX6_element_114 rfl ?_
                refine r_goto (tgt := 119) hC dX6_element_115 rfl ?_
                exact J119_17 (1)  (by omega) 
        exact L84 18 (0) (0)  (by omega) (by omega)  (by omega)  
      · refine r_iconst hC dX6_element_80 rfl ?_
        refine y_iret hK rfl dX6_element_81 ?_
        exact k _ (by omega)
    · refine r_iconst hC dX6_element_42 rfl ?_
      refine r_istore_n hC dX6_element_43 rfl ?_
      have L44 : ∀ (n44 : Nat) (w20 w21 : Int), -2147483648 ≤ w20 ∧ w20 ≤ 2147483647 → 0 ≤ w21 ∧ w21 ≤ 4 → 4 - w21 < (n44 : Int) → K 44 [some (vR 30 0), some (vI w), some (vI w20), some (vI w21)] [] σ := by
        intro n44
        induction n44 with
        | zero => intro w20 w21  f_w20 f_w21  hm  ; omega
        | succ n44 ih44 =>
          intro w20 w21  f_w20 f_w21  hm44  
          refine r_iload_n hC dX6_element_44 rfl ?_
          refine r_iconst hC dX6_element_45 rfl ?_
          refine r_icmp_ge (tgt := 73) hC dX6_element_46 rfl (fun h22 => ?_) (fun h22 => ?_)
          · refine r_iload_n hC dX6_element_73 rfl ?_
            refine y_iret hK rfl dX6_element_74 ?_
            exact k _ (by omega)
          · refine r_iload_n hC dX6_element_49 rfl ?_
            refine r_aload_n hC dX6_element_50 rfl ?_
            refine r_iload_n hC dX6_element_51 rfl ?_
            refine r_iload_n hC dX6_element_52 rfl ?_
            refine z_inv2 hM dX6_element_53 vl_RX6_88 rfl rfl rfl (Nat.le_of_ble_eq_true rfl) (Nat.le_of_ble_eq_true rfl) ?_
            refine qm_product (by omega) (by omega) (fun v23 h_v23 => ?_)
            refine r_iload_n hC dX6_element_56 rfl ?_
            have J65_25 : ∀ (w25 : Int), 0 ≤ w25 ∧ w25 ≤ 1 → K 65 [some (vR 30 0), some (vI w), some (vI w20), some (vI w21)] [vI w25, vI w20] σ := by
              intro w25  f_w25 
              refine r_iaddG hC dX6_element_65 (fun v27 h_v27 => ?_)
              refine r_istore_n hC dX6_element_66 rfl ?_
              refine r_iincE hC ((w21 + 1)) dX6_element_67 rfl rfl (by omega) (by unfold inR; omega) ?_
              refine r_goto (tgt := 44) hC dX6_element_70 rfl ?_
              exact ih44 (v27) ((w21 + 1))  (by omega) (by omega)  (by omega)  
            refine r_icmp_ne (tgt := 64) hC dX6_element_57 rfl (fun h24 => ?_) (fun h24 => ?_)
            · refine r_iconst hC dX6_element_64 rfl ?_
              exact J65_25 (0)  (by omega) 
            · refine r_iconst hC dX6_element_60 rfl ?_
              refine r_goto (tgt := 65) hC dX6_element_61 rfl ?_
              exact J65_25 (1)  (by omega) 
      exact L44 6 (0) (0)  (by omega) (by omega)  (by omega)  
theorem qm_howMany {e : Ev} {d : Nat} {P : Option Vl → Mm → Prop} {σ : Mm} {o : Int}   (k : ∀ r : Int, 1 ≤ r ∧ r ≤ 7 → P (some (vI r)) σ) : WT e (d + 1) 156 [vI o] σ P := by
  refine WT_in fun K hK => ?_
  have hK : StpY e cX6_howMany RX6 (some .int) (WT e (d + 0)) P K := hK
  have hM := hK.1
  have hC := hK.1.1
  show K 0 [some (vI o)] [] σ
  refine r_rngz hC (fun g0 => ?_)
  have r_o : -2147483648 ≤ o ∧ o ≤ 2147483647 := inR_le (g0 (vI o) (by simp))
  refine r_iload_n hC dX6_howMany_0 rfl ?_
  rcases (by omega : (o < 0 ∨ 8 < o) ∨ o = 0 ∨ o = 1 ∨ o = 2 ∨ o = 3 ∨ o = 4 ∨ o = 5 ∨ o = 6 ∨ o = 7 ∨ o = 8) with h1 | h1 | h1 | h1 | h1 | h1 | h1 | h1 | h1 | h1
  · refine r_tableOut (tgt := 71) hC dX6_howMany_1 h1 rfl ?_
    refine r_iconst hC dX6_howMany_71 rfl ?_
    refine y_iret hK rfl dX6_howMany_72 ?_
    exact k _ (by omega)
  · refine r_tableIn (tgt := 52) (off := 51) hC dX6_howMany_1 (by omega) (by omega) (by rw [h1]; rfl) rfl ?_
    refine r_iconst hC dX6_howMany_52 rfl ?_
    refine y_iret hK rfl dX6_howMany_53 ?_
    exact k _ (by omega)
  · refine r_tableIn (tgt := 54) (off := 53) hC dX6_howMany_1 (by omega) (by omega) (by rw [h1]; rfl) rfl ?_
    refine r_iconst hC dX6_howMany_54 rfl ?_
    refine y_iret hK rfl dX6_howMany_55 ?_
    exact k _ (by omega)
  · refine r_tableIn (tgt := 56) (off := 55) hC dX6_howMany_1 (by omega) (by omega) (by rw [h1]; rfl) rfl ?_
    refine r_iconst hC dX6_howMany_56 rfl ?_
    refine y_iret hK rfl dX6_howMany_57 ?_
    exact k _ (by omega)
  · refine r_tableIn (tgt := 58) (off := 57) hC dX6_howMany_1 (by omega) (by omega) (by rw [h1]; rfl) rfl ?_
    refine r_iconst hC dX6_howMany_58 rfl ?_
    refine y_iret hK rfl dX6_howMany_59 ?_
    exact k _ (by omega)
  · refine r_tableIn (tgt := 60) (off := 59) hC dX6_howMany_1 (by omega) (by omega) (by rw [h1]; rfl) rfl ?_
    refine r_iconst hC dX6_howMany_60 rfl ?_
    refine y_iret hK rfl dX6_howMany_61 ?_
    exact k _ (by omega)
  · refine r_tableIn (tgt := 62) (off := 61) hC dX6_howMany_1 (by omega) (by omega) (by rw [h1]; rfl) rfl ?_
    refine r_iconst hC dX6_howMany_62 rfl ?_
    refine y_iret hK rfl dX6_howMany_63 ?_
    exact k _ (by omega)
  · refine r_tableIn (tgt := 64) (off := 63) hC dX6_howMany_1 (by omega) (by omega) (by rw [h1]; rfl) rfl ?_
    refine r_bipush hC dX6_howMany_64 rfl ?_
    refine y_iret hK rfl dX6_howMany_66 ?_
    exact k _ (by omega)
  · refine r_tableIn (tgt := 67) (off := 66) hC dX6_howMany_1 (by omega) (by omega) (by rw [h1]; rfl) rfl ?_
    refine r_iconst hC dX6_howMany_67 rfl ?_
    refine y_iret hK rfl dX6_howMany_68 ?_
    exact k _ (by omega)
  · refine r_tableIn (tgt := 69) (off := 68) hC dX6_howMany_1 (by omega) (by omega) (by rw [h1]; rfl) rfl ?_
    refine r_iconst hC dX6_howMany_69 rfl ?_
    refine y_iret hK rfl dX6_howMany_70 ?_
    exact k _ (by omega)
theorem qm_isNumber {e : Ev} {d : Nat} {P : Option Vl → Mm → Prop} {σ : Mm} {l w : Int}   (k1 : 0 ≤ l ∧ l ≤ 3 ∧ 0 ≤ w ∧ w ≤ 6 → P (some (vI 1)) σ) (k0 : P (some (vI 0)) σ) : WT e (d + 3) 157 [vR 30 0, vI l, vI w] σ P := by
  refine WT_in fun K hK => ?_
  have hK : StpY e cX6_isNumber RX6 (some .boolean) (WT e (d + 2)) P K := hK
  have hM := hK.1
  have hC := hK.1.1
  show K 0 [some (vR 30 0), some (vI l), some (vI w)] [] σ
  refine r_rngz hC (fun g0 => ?_)
  have r_l : -2147483648 ≤ l ∧ l ≤ 2147483647 := inR_le (g0 (vI l) (by simp))
  have r_w : -2147483648 ≤ w ∧ w ≤ 2147483647 := inR_le (g0 (vI w) (by simp))
  refine r_aload_n hC dX6_isNumber_0 rfl ?_
  refine r_iload_n hC dX6_isNumber_1 rfl ?_
  refine z_inv1 hM dX6_isNumber_2 vl_RX6_124 rfl rfl rfl (Nat.le_of_ble_eq_true rfl) (Nat.le_of_ble_eq_true rfl) ?_
  refine qm_isLane (fun h1 => ?_) ?_
  · refine r_if_eq (tgt := 31) hC dX6_isNumber_5 rfl (fun h2 => by omega) (fun h2 => ?_)
    refine r_iload_n hC dX6_isNumber_8 rfl ?_
    refine r_iconst hC dX6_isNumber_9 rfl ?_
    refine r_aload_n hC dX6_isNumber_10 rfl ?_
    refine r_iload_n hC dX6_isNumber_11 rfl ?_
    refine r_iconst hC dX6_isNumber_12 rfl ?_
    refine z_inv2 hM dX6_isNumber_13 vl_RX6_80 rfl rfl rfl (Nat.le_of_ble_eq_true rfl) (Nat.le_of_ble_eq_true rfl) ?_
    refine qm_of (by omega) (by omega) (fun v3 h_v3 h5_v3 h0_v3 t_v3 => ?_)
    clear t_v3
    refine z_ins1 hM dX6_isNumber_16 tl_RX6_127 rfl (Nat.le_of_ble_eq_true rfl) (Nat.le_of_ble_eq_true rfl) ?_
    refine qm_howMany (fun v4 h_v4 => ?_)
    refine r_iconst hC dX6_isNumber_19 rfl ?_
    refine r_isubE hC ((v4 - 1)) dX6_isNumber_20 (by omega) (by unfold inR; omega) ?_
    refine z_ins3 hM dX6_isNumber_21 tl_RX6_76 rfl (Nat.le_of_ble_eq_true rfl) (Nat.le_of_ble_eq_true rfl) ?_
    refine qm_isIn (fun h6 => ?_) (fun h6 => ?_)
    · refine r_if_eq (tgt := 31) hC dX6_isNumber_24 rfl (fun h7 => by omega) (fun h7 => ?_)
      refine r_iconst hC dX6_isNumber_27 rfl ?_
      refine r_goto (tgt := 32) hC dX6_isNumber_28 rfl ?_
      refine y_zret hK rfl dX6_isNumber_32 (by omega) ?_
      exact k1 (by omega)
    · refine r_if_eq (tgt := 31) hC dX6_isNumber_24 rfl (fun h8 => ?_) (fun h8 => by omega)
      refine r_iconst hC dX6_isNumber_31 rfl ?_
      refine y_zret hK rfl dX6_isNumber_32 (by omega) ?_
      exact k0
  · refine r_if_eq (tgt := 31) hC dX6_isNumber_5 rfl (fun h9 => ?_) (fun h9 => by omega)
    refine r_iconst hC dX6_isNumber_31 rfl ?_
    refine y_zret hK rfl dX6_isNumber_32 (by omega) ?_
    exact k0
theorem qm_isEvent {e : Ev} {d : Nat} {P : Option Vl → Mm → Prop} {σ : Mm} {l x : Int}   (k1 : 0 ≤ l ∧ l ≤ 3 ∧ 0 ≤ x ∧ x ≤ 120 → (True → x < σ 31 0 (22 * l + 5)) → P (some (vI 1)) σ) (k0 : P (some (vI 0)) σ) : WT e (d + 3) 209 [vR 30 0, vI l, vI x] σ P := by
  refine WT_in fun K hK => ?_
  have hK : StpY e cX6_isEvent RX6 (some .boolean) (WT e (d + 2)) P K := hK
  have hM := hK.1
  have hC := hK.1.1
  show K 0 [some (vR 30 0), some (vI l), some (vI x)] [] σ
  refine r_rngz hC (fun g0 => ?_)
  have r_l : -2147483648 ≤ l ∧ l ≤ 2147483647 := inR_le (g0 (vI l) (by simp))
  have r_x : -2147483648 ≤ x ∧ x ≤ 2147483647 := inR_le (g0 (vI x) (by simp))
  refine r_aload_n hC dX6_isEvent_0 rfl ?_
  refine r_iload_n hC dX6_isEvent_1 rfl ?_
  refine z_inv1 hM dX6_isEvent_2 vl_RX6_124 rfl rfl rfl (Nat.le_of_ble_eq_true rfl) (Nat.le_of_ble_eq_true rfl) ?_
  refine qm_isLane (fun h1 => ?_) ?_
  · refine r_if_eq (tgt := 27) hC dX6_isEvent_5 rfl (fun h2 => by omega) (fun h2 => ?_)
    refine r_iload_n hC dX6_isEvent_8 rfl ?_
    refine r_iconst hC dX6_isEvent_9 rfl ?_
    refine r_aload_n hC dX6_isEvent_10 rfl ?_
    refine r_iload_n hC dX6_isEvent_11 rfl ?_
    refine z_inv1 hM dX6_isEvent_12 vl_RX6_116 rfl rfl rfl (Nat.le_of_ble_eq_true rfl) (Nat.le_of_ble_eq_true rfl) ?_
    refine qm_heldOf (by omega) (fun v3 h_v3 t_v3 => ?_)
    refine r_iconst hC dX6_isEvent_15 rfl ?_
    refine r_isubE hC ((v3 - 1)) dX6_isEvent_16 (by omega) (by unfold inR; omega) ?_
    refine z_ins3 hM dX6_isEvent_17 tl_RX6_76 rfl (Nat.le_of_ble_eq_true rfl) (Nat.le_of_ble_eq_true rfl) ?_
    refine qm_isIn (fun h5 => ?_) (fun h5 => ?_)
    · refine r_if_eq (tgt := 27) hC dX6_isEvent_20 rfl (fun h6 => by omega) (fun h6 => ?_)
      refine r_iconst hC dX6_isEvent_23 rfl ?_
      refine r_goto (tgt := 28) hC dX6_isEvent_24 rfl ?_
      refine y_zret hK rfl dX6_isEvent_28 (by omega) ?_
      exact k1 (by omega) (fun he => by have := t_v3 he; omega)
    · refine r_if_eq (tgt := 27) hC dX6_isEvent_20 rfl (fun h7 => ?_) (fun h7 => by omega)
      refine r_iconst hC dX6_isEvent_27 rfl ?_
      refine y_zret hK rfl dX6_isEvent_28 (by omega) ?_
      exact k0
  · refine r_if_eq (tgt := 27) hC dX6_isEvent_5 rfl (fun h8 => ?_) (fun h8 => by omega)
    refine r_iconst hC dX6_isEvent_27 rfl ?_
    refine y_zret hK rfl dX6_isEvent_28 (by omega) ?_
    exact k0
theorem qm_isTold {e : Ev} {d : Nat} {P : Option Vl → Mm → Prop} {σ : Mm} {v : Int}   (k1 : 0 ≤ v ∧ v ≤ 7 → P (some (vI 1)) σ) (k0 : P (some (vI 0)) σ) : WT e (d + 2) 183 [vR 30 0, vI v] σ P := by
  refine WT_in fun K hK => ?_
  have hK : StpY e cX6_isTold RX6 (some .boolean) (WT e (d + 1)) P K := hK
  have hM := hK.1
  have hC := hK.1.1
  show K 0 [some (vR 30 0), some (vI v)] [] σ
  refine r_rngz hC (fun g0 => ?_)
  have r_v : -2147483648 ≤ v ∧ v ≤ 2147483647 := inR_le (g0 (vI v) (by simp))
  refine r_iload_n hC dX6_isTold_0 rfl ?_
  refine r_iconst hC dX6_isTold_1 rfl ?_
  refine r_bipush hC dX6_isTold_2 rfl ?_
  refine z_ins3 hM dX6_isTold_4 tl_RX6_76 rfl (Nat.le_of_ble_eq_true rfl) (Nat.le_of_ble_eq_true rfl) ?_
  refine qm_isIn (fun h2 => ?_) (fun h2 => ?_)
  · refine r_if_eq (tgt := 23) hC dX6_isTold_7 rfl (fun h3 => by omega) (fun h3 => ?_)
    refine r_aload_n hC dX6_isTold_10 rfl ?_
    refine z_getR hM dX6_isTold_11 fl_RX6_34 rfl rfl (vld_of (n := 1) rfl (by omega) (by omega)) ?_
    refine r_iload_n hC dX6_isTold_14 rfl ?_
    refine z_iald hM dX6_isTold_15 rfl (by omega) (by omega) (fun v4 h_v4 o_v4 t_v4 => ?_)
    clear t_v4
    refine r_if_lt (tgt := 23) hC dX6_isTold_16 rfl (fun h5 => ?_) (fun h5 => ?_)
    · refine r_iconst hC dX6_isTold_23 rfl ?_
      refine y_zret hK rfl dX6_isTold_24 (by omega) ?_
      exact k0
    · refine r_iconst hC dX6_isTold_19 rfl ?_
      refine r_goto (tgt := 24) hC dX6_isTold_20 rfl ?_
      refine y_zret hK rfl dX6_isTold_24 (by omega) ?_
      exact k1 (by omega)
  · refine r_if_eq (tgt := 23) hC dX6_isTold_7 rfl (fun h6 => ?_) (fun h6 => by omega)
    refine r_iconst hC dX6_isTold_23 rfl ?_
    refine y_zret hK rfl dX6_isTold_24 (by omega) ?_
    exact k0
theorem qm_areAlike {e : Ev} {d : Nat} {P : Option Vl → Mm → Prop} {σ : Mm} {l o : Int}   (k1 : 0 ≤ l ∧ l ≤ 3 ∧ 0 ≤ o ∧ o ≤ 3 → P (some (vI 1)) σ) (k0 : P (some (vI 0)) σ) : WT e (d + 3) 231 [vR 30 0, vI l, vI o] σ P := by
  refine WT_in fun K hK => ?_
  have hK : StpY e cX6_areAlike RX6 (some .boolean) (WT e (d + 2)) P K := hK
  have hM := hK.1
  have hC := hK.1.1
  show K 0 [some (vR 30 0), some (vI l), some (vI o)] [] σ
  refine r_rngz hC (fun g0 => ?_)
  have r_l : -2147483648 ≤ l ∧ l ≤ 2147483647 := inR_le (g0 (vI l) (by simp))
  have r_o : -2147483648 ≤ o ∧ o ≤ 2147483647 := inR_le (g0 (vI o) (by simp))
  refine r_aload_n hC dX6_areAlike_0 rfl ?_
  refine r_iload_n hC dX6_areAlike_1 rfl ?_
  refine z_inv1 hM dX6_areAlike_2 vl_RX6_124 rfl rfl rfl (Nat.le_of_ble_eq_true rfl) (Nat.le_of_ble_eq_true rfl) ?_
  refine qm_isLane (fun h1 => ?_) ?_
  · refine r_if_eq (tgt := 35) hC dX6_areAlike_5 rfl (fun h2 => by omega) (fun h2 => ?_)
    refine r_aload_n hC dX6_areAlike_8 rfl ?_
    refine r_iload_n hC dX6_areAlike_9 rfl ?_
    refine z_inv1 hM dX6_areAlike_10 vl_RX6_124 rfl rfl rfl (Nat.le_of_ble_eq_true rfl) (Nat.le_of_ble_eq_true rfl) ?_
    refine qm_isLane (fun h3 => ?_) ?_
    · refine r_if_eq (tgt := 35) hC dX6_areAlike_13 rfl (fun h4 => by omega) (fun h4 => ?_)
      refine r_aload_n hC dX6_areAlike_16 rfl ?_
      refine r_iload_n hC dX6_areAlike_17 rfl ?_
      refine r_iconst hC dX6_areAlike_18 rfl ?_
      refine z_inv2 hM dX6_areAlike_19 vl_RX6_80 rfl rfl rfl (Nat.le_of_ble_eq_true rfl) (Nat.le_of_ble_eq_true rfl) ?_
      refine qm_of (by omega) (by omega) (fun v5 h_v5 h5_v5 h0_v5 t_v5 => ?_)
      clear t_v5
      refine r_aload_n hC dX6_areAlike_22 rfl ?_
      refine r_iload_n hC dX6_areAlike_23 rfl ?_
      refine r_iconst hC dX6_areAlike_24 rfl ?_
      refine z_inv2 hM dX6_areAlike_25 vl_RX6_80 rfl rfl rfl (Nat.le_of_ble_eq_true rfl) (Nat.le_of_ble_eq_true rfl) ?_
      refine qm_of (by omega) (by omega) (fun v6 h_v6 h5_v6 h0_v6 t_v6 => ?_)
      clear t_v6
      refine r_icmp_ne (tgt := 35) hC dX6_areAlike_28 rfl (fun h7 => ?_) (fun h7 => ?_)
      · refine r_iconst hC dX6_areAlike_35 rfl ?_
        refine y_zret hK rfl dX6_areAlike_36 (by omega) ?_
        exact k0
      · refine r_iconst hC dX6_areAlike_31 rfl ?_
        refine r_goto (tgt := 36) hC dX6_areAlike_32 rfl ?_
        refine y_zret hK rfl dX6_areAlike_36 (by omega) ?_
        exact k1 (by omega)
    · refine r_if_eq (tgt := 35) hC dX6_areAlike_13 rfl (fun h8 => ?_) (fun h8 => by omega)
      refine r_iconst hC dX6_areAlike_35 rfl ?_
      refine y_zret hK rfl dX6_areAlike_36 (by omega) ?_
      exact k0
  · refine r_if_eq (tgt := 35) hC dX6_areAlike_5 rfl (fun h9 => ?_) (fun h9 => by omega)
    refine r_iconst hC dX6_areAlike_35 rfl ?_
    refine y_zret hK rfl dX6_areAlike_36 (by omega) ?_
    exact k0
theorem qm_isReached {e : Ev} {d : Nat} {P : Option Vl → Mm → Prop} {σ : Mm} {a b : Int}   (k : ∀ r : Int, 0 ≤ r ∧ r ≤ 1 → P (some (vI r)) σ) : WT e (d + 1) 173 [vI a, vI b] σ P := by
  refine WT_in fun K hK => ?_
  have hK : StpY e cX6_isReached RX6 (some .boolean) (WT e (d + 0)) P K := hK
  have hM := hK.1
  have hC := hK.1.1
  show K 0 [some (vI a), some (vI b)] [] σ
  refine r_rngz hC (fun g0 => ?_)
  have r_a : -2147483648 ≤ a ∧ a ≤ 2147483647 := inR_le (g0 (vI a) (by simp))
  have r_b : -2147483648 ≤ b ∧ b ≤ 2147483647 := inR_le (g0 (vI b) (by simp))
  refine r_iload_n hC dX6_isReached_0 rfl ?_
  refine r_ldc hC dX6_isReached_1 co_RX6_160 rfl ?_
  have J16_2 : ∀ (w2 : Int), 0 ≤ w2 ∧ w2 ≤ 1 → K 16 [some (vI a), some (vI b)] [vI w2] σ := by
    intro w2  f_w2 
    refine y_zret hK rfl dX6_isReached_16 (by omega) ?_
    exact k _ (by omega)
  refine r_icmp_eq (tgt := 15) hC dX6_isReached_3 rfl (fun h1 => ?_) (fun h1 => ?_)
  · refine r_iconst hC dX6_isReached_15 rfl ?_
    exact J16_2 (0)  (by omega) 
  · refine r_iload_n hC dX6_isReached_6 rfl ?_
    refine r_iload_n hC dX6_isReached_7 rfl ?_
    refine r_icmp_lt (tgt := 15) hC dX6_isReached_8 rfl (fun h4 => ?_) (fun h4 => ?_)
    · refine r_iconst hC dX6_isReached_15 rfl ?_
      exact J16_2 (0)  (by omega) 
    · refine r_iconst hC dX6_isReached_11 rfl ?_
      refine r_goto (tgt := 16) hC dX6_isReached_12 rfl ?_
      exact J16_2 (1)  (by omega) 
theorem qm_bits {e : Ev} {d : Nat} {P : Option Vl → Mm → Prop} {σ : Mm} {a : Int}   (k : ∀ r : Int, -2147483648 ≤ r ∧ r ≤ 2147483647 → P (some (vI r)) σ) : WT e (d + 1) 166 [vI a] σ P := by
  refine WT_in fun K hK => ?_
  have hK : StpY e cX6_bits RX6 (some .int) (WT e (d + 0)) P K := hK
  have hM := hK.1
  have hC := hK.1.1
  show K 0 [some (vI a), none, none] [] σ
  refine r_rngz hC (fun g0 => ?_)
  have r_a : -2147483648 ≤ a ∧ a ≤ 2147483647 := inR_le (g0 (vI a) (by simp))
  refine r_iconst hC dX6_bits_0 rfl ?_
  refine r_istore_n hC dX6_bits_1 rfl ?_
  refine r_iconst hC dX6_bits_2 rfl ?_
  refine r_istore_n hC dX6_bits_3 rfl ?_
  have L4 : ∀ (n4 : Nat) (w1 w2 : Int), -2147483648 ≤ w1 ∧ w1 ≤ 2147483647 → 0 ≤ w2 ∧ w2 ≤ 4 → 4 - w2 < (n4 : Int) → K 4 [some (vI a), some (vI w1), some (vI w2)] [] σ := by
    intro n4
    induction n4 with
    | zero => intro w1 w2  f_w1 f_w2  hm  ; omega
    | succ n4 ih4 =>
      intro w1 w2  f_w1 f_w2  hm4  
      refine r_iload_n hC dX6_bits_4 rfl ?_
      refine r_iconst hC dX6_bits_5 rfl ?_
      refine r_icmp_ge (tgt := 23) hC dX6_bits_6 rfl (fun h3 => ?_) (fun h3 => ?_)
      · refine r_iload_n hC dX6_bits_23 rfl ?_
        refine y_iret hK rfl dX6_bits_24 ?_
        exact k _ (by omega)
      · refine r_iload_n hC dX6_bits_9 rfl ?_
        refine r_iload_n hC dX6_bits_10 rfl ?_
        refine r_iload_n hC dX6_bits_11 rfl ?_
        refine r_ishrG hC dX6_bits_12 (fun v4 h_v4 => ?_)
        refine r_iconst hC dX6_bits_13 rfl ?_
        refine r_iandB hC dX6_bits_14 (by omega) (inR_lit rfl) (fun v5 h_v5 => ?_)
        refine r_iaddG hC dX6_bits_15 (fun v6 h_v6 => ?_)
        refine r_istore_n hC dX6_bits_16 rfl ?_
        refine r_iincE hC ((w2 + 1)) dX6_bits_17 rfl rfl (by omega) (by unfold inR; omega) ?_
        refine r_goto (tgt := 4) hC dX6_bits_20 rfl ?_
        exact ih4 (v6) ((w2 + 1))  (by omega) (by omega)  (by omega)  
  exact L4 6 (0) (0)  (by omega) (by omega)  (by omega)  
theorem qm_rest {e : Ev} {d : Nat} {P : Option Vl → Mm → Prop} {σ : Mm} {a b : Int} (b_b : 1 ≤ b ∧ b ≤ 1000)  (k : ∀ r : Int, -998 ≤ r ∧ r ≤ 999 → P (some (vI r)) σ) : WT e (d + 1) 162 [vI a, vI b] σ P := by
  refine WT_in fun K hK => ?_
  have hK : StpY e cX6_rest RX6 (some .int) (WT e (d + 0)) P K := hK
  have hM := hK.1
  have hC := hK.1.1
  show K 0 [some (vI a), some (vI b), none] [] σ
  refine r_rngz hC (fun g0 => ?_)
  have r_a : -2147483648 ≤ a ∧ a ≤ 2147483647 := inR_le (g0 (vI a) (by simp))
  refine r_iload_n hC dX6_rest_0 rfl ?_
  refine r_iload_n hC dX6_rest_1 rfl ?_
  refine r_iremG hC dX6_rest_2 (by omega) (fun v1 h_v1 p_v1 m_v1 => ?_)
  refine r_istore_n hC dX6_rest_3 rfl ?_
  refine r_iload_n hC dX6_rest_4 rfl ?_
  have J15_3 : ∀ (w3 : Int), -998 ≤ w3 ∧ w3 ≤ 999 → K 15 [some (vI a), some (vI b), some (vI v1)] [vI w3] σ := by
    intro w3  f_w3 
    refine y_iret hK rfl dX6_rest_15 ?_
    exact k _ (by omega)
  refine r_if_ge (tgt := 14) hC dX6_rest_5 rfl (fun h2 => ?_) (fun h2 => ?_)
  · refine r_iload_n hC dX6_rest_14 rfl ?_
    exact J15_3 (v1)  (by omega) 
  · refine r_iload_n hC dX6_rest_8 rfl ?_
    refine r_iload_n hC dX6_rest_9 rfl ?_
    refine r_iaddE hC ((v1 + b)) dX6_rest_10 (by omega) (by unfold inR; omega) ?_
    refine r_goto (tgt := 15) hC dX6_rest_11 rfl ?_
    exact J15_3 ((v1 + b))  (by omega) 
theorem qm_restb {e : Ev} {d : Nat} {P : Option Vl → Mm → Prop} {σ : Mm} {a b : Int} (b_b : 1 ≤ b ∧ b ≤ 1000)  (k : ∀ r : Int, 0 ≤ r ∧ r ≤ b - 1 → P (some (vI r)) σ) : WT e (d + 1) 162 [vI a, vI b] σ P := by
  refine WT_in fun K hK => ?_
  have hK : StpY e cX6_rest RX6 (some .int) (WT e (d + 0)) P K := hK
  have hM := hK.1
  have hC := hK.1.1
  show K 0 [some (vI a), some (vI b), none] [] σ
  refine r_rngz hC (fun g0 => ?_)
  have r_a : -2147483648 ≤ a ∧ a ≤ 2147483647 := inR_le (g0 (vI a) (by simp))
  refine r_iload_n hC dX6_rest_0 rfl ?_
  refine r_iload_n hC dX6_rest_1 rfl ?_
  refine r_iremG hC dX6_rest_2 (by omega) (fun v1 h_v1 p_v1 m_v1 => ?_)
  refine r_istore_n hC dX6_rest_3 rfl ?_
  refine r_iload_n hC dX6_rest_4 rfl ?_
  refine r_if_ge (tgt := 14) hC dX6_rest_5 rfl (fun h2 => ?_) (fun h2 => ?_)
  · refine r_iload_n hC dX6_rest_14 rfl ?_
    refine y_iret hK rfl dX6_rest_15 ?_
    exact k _ (by omega)
  · refine r_iload_n hC dX6_rest_8 rfl ?_
    refine r_iload_n hC dX6_rest_9 rfl ?_
    refine r_iaddE hC ((v1 + b)) dX6_rest_10 (by omega) (by unfold inR; omega) ?_
    refine r_goto (tgt := 15) hC dX6_rest_11 rfl ?_
    refine y_iret hK rfl dX6_rest_15 ?_
    exact k _ (by omega)
theorem qm_greatest {eb : Bool} {d : Nat} {P : Option Vl → Mm → Prop} {σ : Mm} {n : Int} (b_n : 1 ≤ n ∧ n ≤ 242) (hn : σ 30 0 8 = n)  (k : P none σ) : WT (false, eb, true) (d + 1) 160 [vR 30 0] σ P := by
  refine WT_in fun K hK => ?_
  have hK : StpY (false, eb, true) cX6_greatest RX6 (none) (WT (false, eb, true) (d + 0)) P K := hK
  have hM := hK.1
  have hC := hK.1.1
  show K 0 [some (vR 30 0), none, none, none] [] σ
  refine r_iconst hC dX6_greatest_0 rfl ?_
  refine r_istore_n hC dX6_greatest_1 rfl ?_
  refine r_iconst hC dX6_greatest_2 rfl ?_
  refine r_istore_n hC dX6_greatest_3 rfl ?_
  refine r_iconst hC dX6_greatest_4 rfl ?_
  refine r_istore_n hC dX6_greatest_5 rfl ?_
  have L6 : ∀ (n6 : Nat) (w1 w2 : Int), 0 ≤ w1 ∧ w1 ≤ 242 → 0 ≤ w2 ∧ w2 ≤ 241 → 242 - w1 < (n6 : Int) → K 6 [some (vR 30 0), some (vI w2), some (vI 0), some (vI w1)] [] σ := by
    intro n6
    induction n6 with
    | zero => intro w1 w2  f_w1 f_w2  hm  ; omega
    | succ n6 ih6 =>
      intro w1 w2  f_w1 f_w2  hm6  
      refine r_iload_n hC dX6_greatest_6 rfl ?_
      refine r_aload_n hC dX6_greatest_7 rfl ?_
      refine z_getI (jz := 8) hM dX6_greatest_8 fl_RX6_105 rfl rfl rfl (fun v3 h_v3 o_v3 t_v3 => ?_)
      rw [(t_v3 (Or.inr (Or.inr (Or.inr ⟨rfl, rfl⟩)))).trans hn]
      clear t_v3
      refine r_icmp_ge (tgt := 37) hC dX6_greatest_11 rfl (fun h4 => ?_) (fun h4 => ?_)
      · refine r_iconst hC dX6_greatest_37 rfl ?_
        refine r_istore_n hC dX6_greatest_38 rfl ?_
        have L39 : ∀ (n39 : Nat) (w5 w6 : Int), -2147483648 ≤ w5 ∧ w5 ≤ 2147483647 → 0 ≤ w6 ∧ w6 ≤ 242 → 242 - w6 < (n39 : Int) → K 39 [some (vR 30 0), some (vI w2), some (vI w5), some (vI w6)] [] σ := by
          intro n39
          induction n39 with
          | zero => intro w5 w6  f_w5 f_w6  hm  ; omega
          | succ n39 ih39 =>
            intro w5 w6  f_w5 f_w6  hm39  
            refine r_iload_n hC dX6_greatest_39 rfl ?_
            refine r_aload_n hC dX6_greatest_40 rfl ?_
            refine z_getI (jz := 8) hM dX6_greatest_41 fl_RX6_105 rfl rfl rfl (fun v7 h_v7 o_v7 t_v7 => ?_)
            rw [(t_v7 (Or.inr (Or.inr (Or.inr ⟨rfl, rfl⟩)))).trans hn]
            clear t_v7
            refine r_icmp_ge (tgt := 76) hC dX6_greatest_44 rfl (fun h8 => ?_) (fun h8 => ?_)
            · refine r_aload_n hC dX6_greatest_76 rfl ?_
              refine z_getR hM dX6_greatest_77 fl_RX6_31 rfl rfl (vld_of (n := 1) rfl (by omega) (by omega)) ?_
              refine r_iconst hC dX6_greatest_80 rfl ?_
              refine r_aload_n hC dX6_greatest_81 rfl ?_
              refine z_getR hM dX6_greatest_82 fl_RX6_28 rfl rfl (vld_of (n := 1) rfl (by omega) (by omega)) ?_
              refine r_iload_n hC dX6_greatest_85 rfl ?_
              refine z_iald hM dX6_greatest_86 rfl (by omega) (by omega) (fun v9 h_v9 o_v9 t_v9 => ?_)
              clear t_v9
              refine z_iastU hM dX6_greatest_87 rfl (by omega) (by omega) (by simp [Un, Tb, DL, DF, DR, DX]) (by simp [Okv]) ?_
              refine r_aload_n hC dX6_greatest_88 rfl ?_
              refine z_getR hM dX6_greatest_89 fl_RX6_31 rfl rfl (vld_of (n := 1) rfl (by omega) (by omega)) ?_
              refine r_iconst hC dX6_greatest_92 rfl ?_
              refine r_iload_n hC dX6_greatest_93 rfl ?_
              refine z_iastU hM dX6_greatest_94 rfl (by omega) (by omega) (by simp [Un, Tb, DL, DF, DR, DX]) (by simp [Okv]) ?_
              refine r_aload_n hC dX6_greatest_95 rfl ?_
              refine z_getR hM dX6_greatest_96 fl_RX6_31 rfl rfl (vld_of (n := 1) rfl (by omega) (by omega)) ?_
              refine r_iconst hC dX6_greatest_99 rfl ?_
              refine r_iload_n hC dX6_greatest_100 rfl ?_
              refine z_iastU hM dX6_greatest_101 rfl (by omega) (by omega) (by simp [Un, Tb, DL, DF, DR, DX]) (by simp [Okv]) ?_
              refine r_aload_n hC dX6_greatest_102 rfl ?_
              refine z_getR hM dX6_greatest_103 fl_RX6_31 rfl rfl (vld_of (n := 1) rfl (by omega) (by omega)) ?_
              refine r_iconst hC dX6_greatest_106 rfl ?_
              refine r_aload_n hC dX6_greatest_107 rfl ?_
              refine z_getI (jz := 8) hM dX6_greatest_108 fl_RX6_105 rfl rfl rfl (fun v10 h_v10 o_v10 t_v10 => ?_)
              rw [(t_v10 (Or.inr (Or.inr (Or.inr ⟨rfl, rfl⟩)))).trans hn]
              clear t_v10
              refine z_iastU hM dX6_greatest_111 rfl (by omega) (by omega) (by simp [Un, Tb, DL, DF, DR, DX]) (by simp [Okv]) ?_
              refine y_vret hK rfl dX6_greatest_112 ?_
              exact k
            · refine r_iload_n hC dX6_greatest_47 rfl ?_
              refine r_aload_n hC dX6_greatest_48 rfl ?_
              refine z_getR hM dX6_greatest_49 fl_RX6_28 rfl rfl (vld_of (n := 1) rfl (by omega) (by omega)) ?_
              refine r_iload_n hC dX6_greatest_52 rfl ?_
              refine z_iald hM dX6_greatest_53 rfl (by omega) (by omega) (fun v11 h_v11 o_v11 t_v11 => ?_)
              clear t_v11
              refine r_aload_n hC dX6_greatest_54 rfl ?_
              refine z_getR hM dX6_greatest_55 fl_RX6_28 rfl rfl (vld_of (n := 1) rfl (by omega) (by omega)) ?_
              refine r_iload_n hC dX6_greatest_58 rfl ?_
              refine z_iald hM dX6_greatest_59 rfl (by omega) (by omega) (fun v12 h_v12 o_v12 t_v12 => ?_)
              clear t_v12
              have J68_14 : ∀ (w14 : Int), 0 ≤ w14 ∧ w14 ≤ 1 → K 68 [some (vR 30 0), some (vI w2), some (vI w5), some (vI w6)] [vI w14, vI w5] σ := by
                intro w14  f_w14 
                refine r_iaddG hC dX6_greatest_68 (fun v16 h_v16 => ?_)
                refine r_istore_n hC dX6_greatest_69 rfl ?_
                refine r_iincE hC ((w6 + 1)) dX6_greatest_70 rfl rfl (by omega) (by unfold inR; omega) ?_
                refine r_goto (tgt := 39) hC dX6_greatest_73 rfl ?_
                exact ih39 (v16) ((w6 + 1))  (by omega) (by omega)  (by omega)  
              refine r_icmp_ne (tgt := 67) hC dX6_greatest_60 rfl (fun h13 => ?_) (fun h13 => ?_)
              · refine r_iconst hC dX6_greatest_67 rfl ?_
                exact J68_14 (0)  (by omega) 
              · refine r_iconst hC dX6_greatest_63 rfl ?_
                refine r_goto (tgt := 68) hC dX6_greatest_64 rfl ?_
                exact J68_14 (1)  (by omega) 
        exact L39 244 (0) (0)  (by omega) (by omega)  (by omega)  
      · refine r_aload_n hC dX6_greatest_14 rfl ?_
        refine z_getR hM dX6_greatest_15 fl_RX6_28 rfl rfl (vld_of (n := 1) rfl (by omega) (by omega)) ?_
        refine r_iload_n hC dX6_greatest_18 rfl ?_
        refine z_iald hM dX6_greatest_19 rfl (by omega) (by omega) (fun v17 h_v17 o_v17 t_v17 => ?_)
        clear t_v17
        refine r_aload_n hC dX6_greatest_20 rfl ?_
        refine z_getR hM dX6_greatest_21 fl_RX6_28 rfl rfl (vld_of (n := 1) rfl (by omega) (by omega)) ?_
        refine r_iload_n hC dX6_greatest_24 rfl ?_
        refine z_iald hM dX6_greatest_25 rfl (by omega) (by omega) (fun v18 h_v18 o_v18 t_v18 => ?_)
        clear t_v18
        have J31_20 : ∀ (w20 : Int), 0 ≤ w20 ∧ w20 ≤ 241 → K 31 [some (vR 30 0), some (vI w20), some (vI 0), some (vI w1)] [] σ := by
          intro w20  f_w20 
          refine r_iincE hC ((w1 + 1)) dX6_greatest_31 rfl rfl (by omega) (by unfold inR; omega) ?_
          refine r_goto (tgt := 6) hC dX6_greatest_34 rfl ?_
          exact ih6 ((w1 + 1)) (w20)  (by omega) (by omega)  (by omega)  
        refine r_icmp_le (tgt := 31) hC dX6_greatest_26 rfl (fun h19 => ?_) (fun h19 => ?_)
        · exact J31_20 (w2)  (by omega)
        · refine r_iload_n hC dX6_greatest_29 rfl ?_
          refine r_istore_n hC dX6_greatest_30 rfl ?_
          exact J31_20 (w1)  (by omega) 
  exact L6 244 (0) (0)  (by omega) (by omega)  (by omega)  
theorem qm_line {eb : Bool} {d : Nat} {P : Option Vl → Mm → Prop} {σ : Mm} {n : Int} (b_n : 1 ≤ n ∧ n ≤ 242) (hn : σ 30 0 8 = n)  (k : P none σ) : WT (false, eb, true) (d + 2) 163 [vR 30 0] σ P := by
  refine WT_in fun K hK => ?_
  have hK : StpY (false, eb, true) cX6_line RX6 (none) (WT (false, eb, true) (d + 1)) P K := hK
  have hM := hK.1
  have hC := hK.1.1
  show K 0 [some (vR 30 0), none, none, none, none] [] σ
  refine r_iconst hC dX6_line_0 rfl ?_
  refine r_istore_n hC dX6_line_1 rfl ?_
  refine r_iconst hC dX6_line_2 rfl ?_
  refine r_istore_n hC dX6_line_3 rfl ?_
  refine r_iconst hC dX6_line_4 rfl ?_
  refine r_istore_n hC dX6_line_5 rfl ?_
  have L6 : ∀ (n6 : Nat) (w1 w2 w3 : Int), 0 ≤ w1 ∧ w1 ≤ 996 → 0 ≤ w2 ∧ w2 ≤ 996 → 0 ≤ w3 ∧ w3 ≤ 242 → 242 - w3 < (n6 : Int) → K 6 [some (vR 30 0), some (vI w1), some (vI w2), some (vI w3), none] [] σ := by
    intro n6
    induction n6 with
    | zero => intro w1 w2 w3  f_w1 f_w2 f_w3  hm  ; omega
    | succ n6 ih6 =>
      intro w1 w2 w3  f_w1 f_w2 f_w3  hm6  
      refine r_iload_n hC dX6_line_6 rfl ?_
      refine r_aload_n hC dX6_line_7 rfl ?_
      refine z_getI (jz := 8) hM dX6_line_8 fl_RX6_105 rfl rfl rfl (fun v4 h_v4 o_v4 t_v4 => ?_)
      rw [(t_v4 (Or.inr (Or.inr (Or.inr ⟨rfl, rfl⟩)))).trans hn]
      clear t_v4
      refine r_icmp_ge (tgt := 70) hC dX6_line_11 rfl (fun h5 => ?_) (fun h5 => ?_)
      · refine r_aload_n hC dX6_line_70 rfl ?_
        refine z_getR hM dX6_line_71 fl_RX6_31 rfl rfl (vld_of (n := 1) rfl (by omega) (by omega)) ?_
        refine r_iconst hC dX6_line_74 rfl ?_
        refine r_iload_n hC dX6_line_75 rfl ?_
        refine z_iastU hM dX6_line_76 rfl (by omega) (by omega) (by simp [Un, Tb, DL, DF, DR, DX]) (by simp [Okv]) ?_
        refine r_aload_n hC dX6_line_77 rfl ?_
        refine z_getR hM dX6_line_78 fl_RX6_31 rfl rfl (vld_of (n := 1) rfl (by omega) (by omega)) ?_
        refine r_iconst hC dX6_line_81 rfl ?_
        refine r_iload_n hC dX6_line_82 rfl ?_
        refine z_iastU hM dX6_line_83 rfl (by omega) (by omega) (by simp [Un, Tb, DL, DF, DR, DX]) (by simp [Okv]) ?_
        refine y_vret hK rfl dX6_line_84 ?_
        exact k
      · refine r_aload_n hC dX6_line_14 rfl ?_
        refine z_getR hM dX6_line_15 fl_RX6_28 rfl rfl (vld_of (n := 1) rfl (by omega) (by omega)) ?_
        refine r_iload_n hC dX6_line_18 rfl ?_
        refine z_iald hM dX6_line_19 rfl (by omega) (by omega) (fun v6 h_v6 o_v6 t_v6 => ?_)
        clear t_v6
        refine r_sipush hC dX6_line_20 rfl ?_
        refine z_ins2 hM dX6_line_23 tl_RX6_164 rfl (Nat.le_of_ble_eq_true rfl) (Nat.le_of_ble_eq_true rfl) ?_
        refine qm_restb (by omega) (fun v7 h_v7 => ?_)
        refine r_istore hC dX6_line_26 rfl ?_
        refine r_iload hC dX6_line_28 rfl ?_
        refine r_iload_n hC dX6_line_30 rfl ?_
        have m8 := mul_nn (a := v7) (b := w1) (A := 996) (B := 996) (by omega) (by omega) (by omega) (by omega)
        refine r_imulE hC ((v7 * w1)) dX6_line_31 (by omega) (by unfold inR; omega) ?_
        refine r_sipush hC dX6_line_32 rfl ?_
        refine r_iremN hC dX6_line_35 (by omega) (by omega) ?_
        refine r_istore_n hC dX6_line_36 rfl ?_
        refine r_iload hC dX6_line_37 rfl ?_
        refine r_iload_n hC dX6_line_39 rfl ?_
        have m9 := mul_nn (a := v7) (b := w2) (A := 996) (B := 996) (by omega) (by omega) (by omega) (by omega)
        refine r_imulE hC ((v7 * w2)) dX6_line_40 (by omega) (by unfold inR; omega) ?_
        refine r_bipush hC dX6_line_41 rfl ?_
        refine r_aload_n hC dX6_line_43 rfl ?_
        refine z_getR hM dX6_line_44 fl_RX6_28 rfl rfl (vld_of (n := 1) rfl (by omega) (by omega)) ?_
        refine r_iload_n hC dX6_line_47 rfl ?_
        refine z_iald hM dX6_line_48 rfl (by omega) (by omega) (fun v10 h_v10 o_v10 t_v10 => ?_)
        clear t_v10
        refine r_imulG hC dX6_line_49 (fun v11 h_v11 => ?_)
        refine r_iconst hC dX6_line_50 rfl ?_
        refine r_iaddG hC dX6_line_51 (fun v12 h_v12 => ?_)
        refine r_sipush hC dX6_line_52 rfl ?_
        refine z_ins2 hM dX6_line_55 tl_RX6_164 rfl (Nat.le_of_ble_eq_true rfl) (Nat.le_of_ble_eq_true rfl) ?_
        refine qm_restb (by omega) (fun v13 h_v13 => ?_)
        refine r_iaddE hC (((v7 * w2) + v13)) dX6_line_58 (by omega) (by unfold inR; omega) ?_
        refine r_sipush hC dX6_line_59 rfl ?_
        refine r_iremN hC dX6_line_62 (by omega) (by omega) ?_
        refine r_istore_n hC dX6_line_63 rfl ?_
        show K _ [_, _, _, _, _] _ _
        refine r_iincE hC ((w3 + 1)) dX6_line_64 rfl rfl (by omega) (by unfold inR; omega) ?_
        refine r_goto (tgt := 6) hC dX6_line_67 rfl ?_
        refine r_forget hC (ls2 := [some (vR 30 0), some (vI ((v7 * w1) % 997)), some (vI (((v7 * w2) + v13) % 997)), some (vI (w3 + 1)), none]) (lsub_some (lsub_some (lsub_some (lsub_some (lsub_none lsub_nil))))) ?_
        exact ih6 (((v7 * w1) % 997)) ((((v7 * w2) + v13) % 997)) ((w3 + 1))  (by omega) (by omega) (by omega)  (by omega)  
  exact L6 244 (1) (0) (0)  (by omega) (by omega) (by omega)  (by omega)  
theorem qm_run {eb : Bool} {d : Nat} {P : Option Vl → Mm → Prop} {σ : Mm} {n : Int} (b_n : 1 ≤ n ∧ n ≤ 242) (hn : σ 30 0 8 = n)  (k : P none σ) : WT (false, eb, true) (d + 1) 164 [vR 30 0] σ P := by
  refine WT_in fun K hK => ?_
  have hK : StpY (false, eb, true) cX6_run RX6 (none) (WT (false, eb, true) (d + 0)) P K := hK
  have hM := hK.1
  have hC := hK.1.1
  show K 0 [some (vR 30 0), none, none, none, none, none, none, none] [] σ
  refine r_iconst hC dX6_run_0 rfl ?_
  refine r_istore_n hC dX6_run_1 rfl ?_
  refine r_ldc hC dX6_run_2 co_RX6_160 rfl ?_
  refine r_istore_n hC dX6_run_4 rfl ?_
  refine r_ldc hC dX6_run_5 co_RX6_160 rfl ?_
  refine r_istore_n hC dX6_run_7 rfl ?_
  show K _ [_, _, _, _, _, _, _, _] _ _
  refine r_ldc hC dX6_run_8 co_RX6_160 rfl ?_
  refine r_istore hC dX6_run_10 rfl ?_
  refine r_iconst hC dX6_run_12 rfl ?_
  refine r_istore hC dX6_run_13 rfl ?_
  have L15 : ∀ (n15 : Nat) (w1 w2 w3 w4 w5 : Int), -2147483648 ≤ w1 ∧ w1 ≤ 2147483647 → -2147483648 ≤ w2 ∧ w2 ≤ 2147483647 → -2147483648 ≤ w3 ∧ w3 ≤ 2147483647 → -2147483648 ≤ w4 ∧ w4 ≤ 2147483647 → 0 ≤ w5 ∧ w5 ≤ 242 → 242 - w5 < (n15 : Int) → K 15 [some (vR 30 0), some (vI w1), some (vI w2), some (vI w3), some (vI w4), some (vI w5), none, none] [] σ := by
    intro n15
    induction n15 with
    | zero => intro w1 w2 w3 w4 w5  f_w1 f_w2 f_w3 f_w4 f_w5  hm  ; omega
    | succ n15 ih15 =>
      intro w1 w2 w3 w4 w5  f_w1 f_w2 f_w3 f_w4 f_w5  hm15  
      refine r_iload hC dX6_run_15 rfl ?_
      refine r_aload_n hC dX6_run_17 rfl ?_
      refine z_getI (jz := 8) hM dX6_run_18 fl_RX6_105 rfl rfl rfl (fun v6 h_v6 o_v6 t_v6 => ?_)
      rw [(t_v6 (Or.inr (Or.inr (Or.inr ⟨rfl, rfl⟩)))).trans hn]
      clear t_v6
      refine r_icmp_ge (tgt := 101) hC dX6_run_21 rfl (fun h7 => ?_) (fun h7 => ?_)
      · refine r_aload_n hC dX6_run_101 rfl ?_
        refine z_getR hM dX6_run_102 fl_RX6_31 rfl rfl (vld_of (n := 1) rfl (by omega) (by omega)) ?_
        refine r_iconst hC dX6_run_105 rfl ?_
        refine r_iload_n hC dX6_run_106 rfl ?_
        refine z_iastU hM dX6_run_107 rfl (by omega) (by omega) (by simp [Un, Tb, DL, DF, DR, DX]) (by simp [Okv]) ?_
        refine r_aload_n hC dX6_run_108 rfl ?_
        refine z_getR hM dX6_run_109 fl_RX6_31 rfl rfl (vld_of (n := 1) rfl (by omega) (by omega)) ?_
        refine r_iconst hC dX6_run_112 rfl ?_
        refine r_iload_n hC dX6_run_113 rfl ?_
        refine z_iastU hM dX6_run_114 rfl (by omega) (by omega) (by simp [Un, Tb, DL, DF, DR, DX]) (by simp [Okv]) ?_
        refine r_aload_n hC dX6_run_115 rfl ?_
        refine z_getR hM dX6_run_116 fl_RX6_31 rfl rfl (vld_of (n := 1) rfl (by omega) (by omega)) ?_
        refine r_iconst hC dX6_run_119 rfl ?_
        refine r_iload_n hC dX6_run_120 rfl ?_
        refine z_iastU hM dX6_run_121 rfl (by omega) (by omega) (by simp [Un, Tb, DL, DF, DR, DX]) (by simp [Okv]) ?_
        refine r_aload_n hC dX6_run_122 rfl ?_
        refine z_getR hM dX6_run_123 fl_RX6_31 rfl rfl (vld_of (n := 1) rfl (by omega) (by omega)) ?_
        refine r_iconst hC dX6_run_126 rfl ?_
        refine r_iload hC dX6_run_127 rfl ?_
        refine z_iastU hM dX6_run_129 rfl (by omega) (by omega) (by simp [Un, Tb, DL, DF, DR, DX]) (by simp [Okv]) ?_
        refine y_vret hK rfl dX6_run_130 ?_
        exact k
      · refine r_iload_n hC dX6_run_24 rfl ?_
        refine r_aload_n hC dX6_run_25 rfl ?_
        refine z_getR hM dX6_run_26 fl_RX6_28 rfl rfl (vld_of (n := 1) rfl (by omega) (by omega)) ?_
        refine r_iload hC dX6_run_29 rfl ?_
        refine z_iald hM dX6_run_31 rfl (by omega) (by omega) (fun v8 h_v8 o_v8 t_v8 => ?_)
        clear t_v8
        refine r_iaddG hC dX6_run_32 (fun v9 h_v9 => ?_)
        refine r_istore_n hC dX6_run_33 rfl ?_
        refine r_iload_n hC dX6_run_34 rfl ?_
        refine r_iload_n hC dX6_run_35 rfl ?_
        have J41_11 : ∀ (w11 : Int), -2147483648 ≤ w11 ∧ w11 ≤ 2147483647 → K 41 [some (vR 30 0), some (vI v9), some (vI w2), some (vI w11), some (vI w4), some (vI w5), none, none] [] σ := by
          intro w11  f_w11 
          refine r_iconst hC dX6_run_41 rfl ?_
          refine r_istore hC dX6_run_42 rfl ?_
          refine r_iload hC dX6_run_44 rfl ?_
          refine r_istore hC dX6_run_46 rfl ?_
          have L48 : ∀ (n48 : Nat) (w13 w14 w15 : Int), -2147483648 ≤ w13 ∧ w13 ≤ 2147483647 → -2147483648 ≤ w14 ∧ w14 ≤ 2147483647 → 0 ≤ w15 ∧ w15 ≤ 242 → 242 - w15 < (n48 : Int) → K 48 [some (vR 30 0), some (vI v9), some (vI w13), some (vI w11), some (vI w4), some (vI w5), some (vI w14), some (vI w15)] [] σ := by
            intro n48
            induction n48 with
            | zero => intro w13 w14 w15  f_w13 f_w14 f_w15  hm  ; omega
            | succ n48 ih48 =>
              intro w13 w14 w15  f_w13 f_w14 f_w15  hm48  
              refine r_iload hC dX6_run_48 rfl ?_
              refine r_aload_n hC dX6_run_50 rfl ?_
              refine z_getI (jz := 8) hM dX6_run_51 fl_RX6_105 rfl rfl rfl (fun v16 h_v16 o_v16 t_v16 => ?_)
              rw [(t_v16 (Or.inr (Or.inr (Or.inr ⟨rfl, rfl⟩)))).trans hn]
              clear t_v16
              refine r_icmp_ge (tgt := 84) hC dX6_run_54 rfl (fun h17 => ?_) (fun h17 => ?_)
              · refine r_iload hC dX6_run_84 rfl ?_
                refine r_iload hC dX6_run_86 rfl ?_
                have J95_19 : ∀ (w19 : Int), -2147483648 ≤ w19 ∧ w19 ≤ 2147483647 → K 95 [some (vR 30 0), some (vI v9), some (vI w13), some (vI w11), some (vI w19), some (vI w5), some (vI w14), some (vI w15)] [] σ := by
                  intro w19  f_w19 
                  refine r_iincE hC ((w5 + 1)) dX6_run_95 rfl rfl (by omega) (by unfold inR; omega) ?_
                  refine r_goto (tgt := 15) hC dX6_run_98 rfl ?_
                  refine r_forget hC (ls2 := [some (vR 30 0), some (vI v9), some (vI w13), some (vI w11), some (vI w19), some (vI (w5 + 1)), none, none]) (lsub_some (lsub_some (lsub_some (lsub_some (lsub_some (lsub_some (lsub_none (lsub_none lsub_nil)))))))) ?_
                  exact ih15 (v9) (w13) (w11) (w19) ((w5 + 1))  (by omega) (by omega) (by omega) (by omega) (by omega)  (by omega)  
                refine r_icmp_le (tgt := 95) hC dX6_run_88 rfl (fun h18 => ?_) (fun h18 => ?_)
                · exact J95_19 (w4)  (by omega)
                · refine r_iload hC dX6_run_91 rfl ?_
                  refine r_istore hC dX6_run_93 rfl ?_
                  exact J95_19 (w14)  (by omega) 
              · refine r_iload hC dX6_run_57 rfl ?_
                refine r_aload_n hC dX6_run_59 rfl ?_
                refine z_getR hM dX6_run_60 fl_RX6_28 rfl rfl (vld_of (n := 1) rfl (by omega) (by omega)) ?_
                refine r_iload hC dX6_run_63 rfl ?_
                refine z_iald hM dX6_run_65 rfl (by omega) (by omega) (fun v21 h_v21 o_v21 t_v21 => ?_)
                clear t_v21
                refine r_iaddG hC dX6_run_66 (fun v22 h_v22 => ?_)
                refine r_istore hC dX6_run_67 rfl ?_
                refine r_iload hC dX6_run_69 rfl ?_
                refine r_iload_n hC dX6_run_71 rfl ?_
                have J78_24 : ∀ (w24 : Int), -2147483648 ≤ w24 ∧ w24 ≤ 2147483647 → K 78 [some (vR 30 0), some (vI v9), some (vI w24), some (vI w11), some (vI w4), some (vI w5), some (vI v22), some (vI w15)] [] σ := by
                  intro w24  f_w24 
                  refine r_iincE hC ((w15 + 1)) dX6_run_78 rfl rfl (by omega) (by unfold inR; omega) ?_
                  refine r_goto (tgt := 48) hC dX6_run_81 rfl ?_
                  exact ih48 (w24) (v22) ((w15 + 1))  (by omega) (by omega) (by omega)  (by omega)  
                refine r_icmp_le (tgt := 78) hC dX6_run_72 rfl (fun h23 => ?_) (fun h23 => ?_)
                · exact J78_24 (w13)  (by omega)
                · refine r_iload hC dX6_run_75 rfl ?_
                  refine r_istore_n hC dX6_run_77 rfl ?_
                  exact J78_24 (v22)  (by omega) 
          exact L48 244 (w2) (0) (w5)  (by omega) (by omega) (by omega)  (by omega)  
        refine r_icmp_le (tgt := 41) hC dX6_run_36 rfl (fun h10 => ?_) (fun h10 => ?_)
        · exact J41_11 (w3)  (by omega)
        · refine r_iload_n hC dX6_run_39 rfl ?_
          refine r_istore_n hC dX6_run_40 rfl ?_
          exact J41_11 (v9)  (by omega) 
  exact L15 244 (0) ((-2147483648)) ((-2147483648)) ((-2147483648)) (0)  (by omega) (by omega) (by omega) (by omega) (by omega)  (by omega)  
theorem qm_send {eb : Bool} {d : Nat} {P : Option Vl → Mm → Prop} {σ : Mm} {n : Int} (b_n : 1 ≤ n ∧ n ≤ 242) (hn : σ 30 0 8 = n)  (k : P none σ) : WT (false, eb, true) (d + 2) 165 [vR 30 0] σ P := by
  refine WT_in fun K hK => ?_
  have hK : StpY (false, eb, true) cX6_send RX6 (none) (WT (false, eb, true) (d + 1)) P K := hK
  have hM := hK.1
  have hC := hK.1.1
  show K 0 [some (vR 30 0), none, none, none, none] [] σ
  refine r_iconst hC dX6_send_0 rfl ?_
  refine r_istore_n hC dX6_send_1 rfl ?_
  refine r_iconst hC dX6_send_2 rfl ?_
  refine r_istore_n hC dX6_send_3 rfl ?_
  have L4 : ∀ (n4 : Nat) (w1 w2 : Int), -2147483648 ≤ w1 ∧ w1 ≤ 2147483647 → 0 ≤ w2 ∧ w2 ≤ 4 → 4 - w2 < (n4 : Int) → K 4 [some (vR 30 0), some (vI w1), some (vI w2), none, none] [] σ := by
    intro n4
    induction n4 with
    | zero => intro w1 w2  f_w1 f_w2  hm  ; omega
    | succ n4 ih4 =>
      intro w1 w2  f_w1 f_w2  hm4  
      refine r_iload_n hC dX6_send_4 rfl ?_
      refine r_iconst hC dX6_send_5 rfl ?_
      refine r_icmp_ge (tgt := 72) hC dX6_send_6 rfl (fun h3 => ?_) (fun h3 => ?_)
      · refine r_aload_n hC dX6_send_72 rfl ?_
        refine z_getR hM dX6_send_73 fl_RX6_31 rfl rfl (vld_of (n := 1) rfl (by omega) (by omega)) ?_
        refine r_iconst hC dX6_send_76 rfl ?_
        refine r_iload_n hC dX6_send_77 rfl ?_
        refine z_ins1 hM dX6_send_78 tl_RX6_167 rfl (Nat.le_of_ble_eq_true rfl) (Nat.le_of_ble_eq_true rfl) ?_
        refine qm_bits (fun v4 h_v4 => ?_)
        refine z_iastU hM dX6_send_81 rfl (by omega) (by omega) (by simp [Un, Tb, DL, DF, DR, DX]) (by simp [Okv]) ?_
        refine y_vret hK rfl dX6_send_82 ?_
        exact k
      · refine r_iload_n hC dX6_send_9 rfl ?_
        refine r_istore_n hC dX6_send_10 rfl ?_
        refine r_iconst hC dX6_send_11 rfl ?_
        refine r_istore hC dX6_send_12 rfl ?_
        have L14 : ∀ (n14 : Nat) (w5 w6 : Int), 0 ≤ w5 ∧ w5 ≤ 3 → 0 ≤ w6 ∧ w6 ≤ 242 → 242 - w6 < (n14 : Int) → K 14 [some (vR 30 0), some (vI w1), some (vI w2), some (vI w5), some (vI w6)] [] σ := by
          intro n14
          induction n14 with
          | zero => intro w5 w6  f_w5 f_w6  hm  ; omega
          | succ n14 ih14 =>
            intro w5 w6  f_w5 f_w6  hm14  
            refine r_iload hC dX6_send_14 rfl ?_
            refine r_aload_n hC dX6_send_16 rfl ?_
            refine z_getI (jz := 8) hM dX6_send_17 fl_RX6_105 rfl rfl rfl (fun v7 h_v7 o_v7 t_v7 => ?_)
            rw [(t_v7 (Or.inr (Or.inr (Or.inr ⟨rfl, rfl⟩)))).trans hn]
            clear t_v7
            refine r_icmp_ge (tgt := 53) hC dX6_send_20 rfl (fun h8 => ?_) (fun h8 => ?_)
            · refine r_aload_n hC dX6_send_53 rfl ?_
              refine z_getR hM dX6_send_54 fl_RX6_31 rfl rfl (vld_of (n := 1) rfl (by omega) (by omega)) ?_
              refine r_iload_n hC dX6_send_57 rfl ?_
              refine r_iload_n hC dX6_send_58 rfl ?_
              refine z_iastU hM dX6_send_59 rfl (by omega) (by omega) (by simp [Un, Tb, DL, DF, DR, DX]) (by simp [Okv]) ?_
              refine r_iload_n hC dX6_send_60 rfl ?_
              refine r_iconst hC dX6_send_61 rfl ?_
              refine r_iload_n hC dX6_send_62 rfl ?_
              refine r_ishlG hC dX6_send_63 (fun v9 h_v9 => ?_)
              refine r_iorG hC dX6_send_64 (fun v10 h_v10 => ?_)
              refine r_istore_n hC dX6_send_65 rfl ?_
              refine r_iincE hC ((w2 + 1)) dX6_send_66 rfl rfl (by omega) (by unfold inR; omega) ?_
              refine r_goto (tgt := 4) hC dX6_send_69 rfl ?_
              refine r_forget hC (ls2 := [some (vR 30 0), some (vI v10), some (vI (w2 + 1)), none, none]) (lsub_some (lsub_some (lsub_some (lsub_none (lsub_none lsub_nil))))) ?_
              exact ih4 (v10) ((w2 + 1))  (by omega) (by omega)  (by omega)  
            · refine r_aload_n hC dX6_send_23 rfl ?_
              refine z_getR hM dX6_send_24 fl_RX6_25 rfl rfl (vld_of (n := 1) rfl (by omega) (by omega)) ?_
              refine r_aload_n hC dX6_send_27 rfl ?_
              refine z_getR hM dX6_send_28 fl_RX6_28 rfl rfl (vld_of (n := 1) rfl (by omega) (by omega)) ?_
              refine r_iload hC dX6_send_31 rfl ?_
              refine z_iald hM dX6_send_33 rfl (by omega) (by omega) (fun v11 h_v11 o_v11 t_v11 => ?_)
              clear t_v11
              refine r_bipush hC dX6_send_34 rfl ?_
              refine z_ins2 hM dX6_send_36 tl_RX6_164 rfl (Nat.le_of_ble_eq_true rfl) (Nat.le_of_ble_eq_true rfl) ?_
              refine qm_restb (by omega) (fun v12 h_v12 => ?_)
              refine z_iald hM dX6_send_39 rfl (by omega) (by omega) (fun v13 h_v13 o_v13 t_v13 => ?_)
              clear t_v13
              refine r_iconst hC dX6_send_40 rfl ?_
              refine r_iload_n hC dX6_send_41 rfl ?_
              refine r_imulE hC ((2 * w5)) dX6_send_42 (by omega) (by unfold inR; omega) ?_
              refine r_ishrG hC dX6_send_43 (fun v14 h_v14 => ?_)
              refine r_iconst hC dX6_send_44 rfl ?_
              refine r_iandB hC dX6_send_45 (by omega) (inR_lit rfl) (fun v15 h_v15 => ?_)
              refine r_istore_n hC dX6_send_46 rfl ?_
              refine r_iincE hC ((w6 + 1)) dX6_send_47 rfl rfl (by omega) (by unfold inR; omega) ?_
              refine r_goto (tgt := 14) hC dX6_send_50 rfl ?_
              exact ih14 (v15) ((w6 + 1))  (by omega) (by omega)  (by omega)  
        exact L14 244 (w2) (0)  (by omega) (by omega)  (by omega)  
  exact L4 6 (0) (0)  (by omega) (by omega)  (by omega)  
theorem qm_nest {eb : Bool} {d : Nat} {P : Option Vl → Mm → Prop} {σ : Mm} {n : Int} (b_n : 1 ≤ n ∧ n ≤ 242) (hn : σ 30 0 8 = n)  (k : P none σ) : WT (false, eb, true) (d + 1) 167 [vR 30 0] σ P := by
  refine WT_in fun K hK => ?_
  have hK : StpY (false, eb, true) cX6_nest RX6 (none) (WT (false, eb, true) (d + 0)) P K := hK
  have hM := hK.1
  have hC := hK.1.1
  show K 0 [some (vR 30 0), none, none, none, none, none, none] [] σ
  refine r_iconst hC dX6_nest_0 rfl ?_
  refine r_istore_n hC dX6_nest_1 rfl ?_
  refine r_iconst hC dX6_nest_2 rfl ?_
  refine r_istore_n hC dX6_nest_3 rfl ?_
  refine r_iconst hC dX6_nest_4 rfl ?_
  refine r_istore_n hC dX6_nest_5 rfl ?_
  show K _ [_, _, _, _, _, _, _] _ _
  refine r_iconst hC dX6_nest_6 rfl ?_
  refine r_istore hC dX6_nest_7 rfl ?_
  refine r_iconst hC dX6_nest_9 rfl ?_
  refine r_istore hC dX6_nest_10 rfl ?_
  refine r_iconst hC dX6_nest_12 rfl ?_
  refine r_istore hC dX6_nest_13 rfl ?_
  have L15 : ∀ (n15 : Nat) (w1 w2 w3 w4 w5 w6 : Int), -2147483648 ≤ w1 ∧ w1 ≤ 2147483647 → -2147483648 ≤ w2 ∧ w2 ≤ 2147483647 → -2147483648 ≤ w3 ∧ w3 ≤ 2147483647 → 0 ≤ w4 ∧ w4 ≤ 2147483647 → 0 ≤ w5 ∧ w5 ≤ 242 → -2147483648 ≤ w6 ∧ w6 ≤ 2147483647 → 242 - w5 < (n15 : Int) → K 15 [some (vR 30 0), some (vI w1), some (vI w2), some (vI w6), some (vI w3), some (vI w4), some (vI w5)] [] σ := by
    intro n15
    induction n15 with
    | zero => intro w1 w2 w3 w4 w5 w6  f_w1 f_w2 f_w3 f_w4 f_w5 f_w6  hm  ; omega
    | succ n15 ih15 =>
      intro w1 w2 w3 w4 w5 w6  f_w1 f_w2 f_w3 f_w4 f_w5 f_w6  hm15  
      refine r_iload hC dX6_nest_15 rfl ?_
      refine r_aload_n hC dX6_nest_17 rfl ?_
      refine z_getI (jz := 8) hM dX6_nest_18 fl_RX6_105 rfl rfl rfl (fun v7 h_v7 o_v7 t_v7 => ?_)
      rw [(t_v7 (Or.inr (Or.inr (Or.inr ⟨rfl, rfl⟩)))).trans hn]
      clear t_v7
      refine r_icmp_ge (tgt := 93) hC dX6_nest_21 rfl (fun h8 => ?_) (fun h8 => ?_)
      · refine r_aload_n hC dX6_nest_93 rfl ?_
        refine z_getR hM dX6_nest_94 fl_RX6_31 rfl rfl (vld_of (n := 1) rfl (by omega) (by omega)) ?_
        refine r_iconst hC dX6_nest_97 rfl ?_
        refine r_iload_n hC dX6_nest_98 rfl ?_
        refine z_iastU hM dX6_nest_99 rfl (by omega) (by omega) (by simp [Un, Tb, DL, DF, DR, DX]) (by simp [Okv]) ?_
        refine r_aload_n hC dX6_nest_100 rfl ?_
        refine z_getR hM dX6_nest_101 fl_RX6_31 rfl rfl (vld_of (n := 1) rfl (by omega) (by omega)) ?_
        refine r_iconst hC dX6_nest_104 rfl ?_
        refine r_iload_n hC dX6_nest_105 rfl ?_
        refine z_iastU hM dX6_nest_106 rfl (by omega) (by omega) (by simp [Un, Tb, DL, DF, DR, DX]) (by simp [Okv]) ?_
        refine r_aload_n hC dX6_nest_107 rfl ?_
        refine z_getR hM dX6_nest_108 fl_RX6_31 rfl rfl (vld_of (n := 1) rfl (by omega) (by omega)) ?_
        refine r_iconst hC dX6_nest_111 rfl ?_
        refine r_iload_n hC dX6_nest_112 rfl ?_
        refine z_iastU hM dX6_nest_113 rfl (by omega) (by omega) (by simp [Un, Tb, DL, DF, DR, DX]) (by simp [Okv]) ?_
        refine r_aload_n hC dX6_nest_114 rfl ?_
        refine z_getR hM dX6_nest_115 fl_RX6_31 rfl rfl (vld_of (n := 1) rfl (by omega) (by omega)) ?_
        refine r_iconst hC dX6_nest_118 rfl ?_
        refine r_iload hC dX6_nest_119 rfl ?_
        refine z_iastU hM dX6_nest_121 rfl (by omega) (by omega) (by simp [Un, Tb, DL, DF, DR, DX]) (by simp [Okv]) ?_
        refine y_vret hK rfl dX6_nest_122 ?_
        exact k
      · refine r_iload hC dX6_nest_24 rfl ?_
        refine r_aload_n hC dX6_nest_26 rfl ?_
        refine z_getR hM dX6_nest_27 fl_RX6_28 rfl rfl (vld_of (n := 1) rfl (by omega) (by omega)) ?_
        refine r_iload hC dX6_nest_30 rfl ?_
        refine z_iald hM dX6_nest_32 rfl (by omega) (by omega) (fun v9 h_v9 o_v9 t_v9 => ?_)
        clear t_v9
        have J41_11 : ∀ (w11 : Int), -1 ≤ w11 ∧ w11 ≤ 1 → K 41 [some (vR 30 0), some (vI w1), some (vI w2), some (vI w6), some (vI w3), some (vI w4), some (vI w5)] [vI w11, vI w3] σ := by
          intro w11  f_w11 
          refine r_iaddG hC dX6_nest_41 (fun v13 h_v13 => ?_)
          refine r_istore hC dX6_nest_42 rfl ?_
          refine r_iload hC dX6_nest_44 rfl ?_
          refine r_iload hC dX6_nest_46 rfl ?_
          have J55_15 : ∀ (w15 : Int), 0 ≤ w15 ∧ w15 ≤ 2147483647 → K 55 [some (vR 30 0), some (vI w1), some (vI w2), some (vI w6), some (vI v13), some (vI w15), some (vI w5)] [] σ := by
            intro w15  f_w15 
            refine r_aload_n hC dX6_nest_55 rfl ?_
            refine z_getR hM dX6_nest_56 fl_RX6_28 rfl rfl (vld_of (n := 1) rfl (by omega) (by omega)) ?_
            refine r_iload hC dX6_nest_59 rfl ?_
            refine z_iald hM dX6_nest_61 rfl (by omega) (by omega) (fun v17 h_v17 o_v17 t_v17 => ?_)
            clear t_v17
            have J87_21 : ∀ (w19 w20 w21 : Int), -2147483648 ≤ w19 ∧ w19 ≤ 2147483647 → -2147483648 ≤ w20 ∧ w20 ≤ 2147483647 → -2147483648 ≤ w21 ∧ w21 ≤ 2147483647 → K 87 [some (vR 30 0), some (vI w21), some (vI w19), some (vI w20), some (vI v13), some (vI w15), some (vI w5)] [] σ := by
              intro w19 w20 w21  f_w19 f_w20 f_w21 
              refine r_iincE hC ((w5 + 1)) dX6_nest_87 rfl rfl (by omega) (by unfold inR; omega) ?_
              refine r_goto (tgt := 15) hC dX6_nest_90 rfl ?_
              exact ih15 (w21) (w19) (v13) (w15) ((w5 + 1)) (w20)  (by omega) (by omega) (by omega) (by omega) (by omega) (by omega)  (by omega)  
            refine r_if_lt (tgt := 71) hC dX6_nest_62 rfl (fun h18 => ?_) (fun h18 => ?_)
            · refine r_iload_n hC dX6_nest_71 rfl ?_
              refine r_if_ne (tgt := 81) hC dX6_nest_72 rfl (fun h23 => ?_) (fun h23 => ?_)
              · refine r_iincG hC dX6_nest_81 rfl rfl (fun v24 h_v24 => ?_)
                refine r_iincG hC dX6_nest_84 rfl rfl (fun v25 h_v25 => ?_)
                exact J87_21 (v24) (v25) (w1)  (by omega) (by omega) (by omega) 
              · refine r_iincG hC dX6_nest_75 rfl rfl (fun v26 h_v26 => ?_)
                refine r_goto (tgt := 87) hC dX6_nest_78 rfl ?_
                exact J87_21 (w2) (w6) (v26)  (by omega) (by omega) (by omega) 
            · refine r_iincG hC dX6_nest_65 rfl rfl (fun v27 h_v27 => ?_)
              refine r_goto (tgt := 87) hC dX6_nest_68 rfl ?_
              exact J87_21 (v27) (w6) (w1)  (by omega) (by omega) (by omega) 
          refine r_icmp_le (tgt := 55) hC dX6_nest_48 rfl (fun h14 => ?_) (fun h14 => ?_)
          · exact J55_15 (w4)  (by omega)
          · refine r_iload hC dX6_nest_51 rfl ?_
            refine r_istore hC dX6_nest_53 rfl ?_
            exact J55_15 (v13)  (by omega) 
        refine r_if_ge (tgt := 40) hC dX6_nest_33 rfl (fun h10 => ?_) (fun h10 => ?_)
        · refine r_iconst hC dX6_nest_40 rfl ?_
          exact J41_11 (1)  (by omega) 
        · refine r_iconst hC dX6_nest_36 rfl ?_
          refine r_goto (tgt := 41) hC dX6_nest_37 rfl ?_
          exact J41_11 ((-1))  (by omega) 
  exact L15 244 (0) (0) (0) (0) (0) (0)  (by omega) (by omega) (by omega) (by omega) (by omega) (by omega)  (by omega)  
theorem qm_steps {eb : Bool} {d : Nat} {P : Option Vl → Mm → Prop} {σ : Mm} {n : Int} (b_n : 1 ≤ n ∧ n ≤ 242) (hn : σ 30 0 8 = n)  (k : P none σ) : WT (false, eb, true) (d + 1) 170 [vR 30 0] σ P := by
  refine WT_in fun K hK => ?_
  have hK : StpY (false, eb, true) cX6_steps RX6 (none) (WT (false, eb, true) (d + 0)) P K := hK
  have hM := hK.1
  have hC := hK.1.1
  show K 0 [some (vR 30 0), none, none, none, none, none] [] σ
  refine r_iconst hC dX6_steps_0 rfl ?_
  refine r_istore_n hC dX6_steps_1 rfl ?_
  refine r_iconst hC dX6_steps_2 rfl ?_
  refine r_istore_n hC dX6_steps_3 rfl ?_
  refine r_iconst hC dX6_steps_4 rfl ?_
  refine r_istore_n hC dX6_steps_5 rfl ?_
  show K _ [_, _, _, _, _, _] _ _
  refine r_iconst hC dX6_steps_6 rfl ?_
  refine r_istore hC dX6_steps_7 rfl ?_
  refine r_iconst hC dX6_steps_9 rfl ?_
  refine r_istore hC dX6_steps_10 rfl ?_
  have L12 : ∀ (n12 : Nat) (w1 w2 w3 w4 w5 : Int), -2147483648 ≤ w1 ∧ w1 ≤ 2147483647 → -2147483648 ≤ w2 ∧ w2 ≤ 2147483647 → -2147483648 ≤ w3 ∧ w3 ≤ 2147483647 → 1 ≤ w4 ∧ w4 ≤ 2147483647 → 1 ≤ w5 ∧ w5 ≤ 242 → 242 - w5 < (n12 : Int) → K 12 [some (vR 30 0), some (vI w1), some (vI w2), some (vI w3), some (vI w4), some (vI w5)] [] σ := by
    intro n12
    induction n12 with
    | zero => intro w1 w2 w3 w4 w5  f_w1 f_w2 f_w3 f_w4 f_w5  hm  ; omega
    | succ n12 ih12 =>
      intro w1 w2 w3 w4 w5  f_w1 f_w2 f_w3 f_w4 f_w5  hm12  
      refine r_iload hC dX6_steps_12 rfl ?_
      refine r_aload_n hC dX6_steps_14 rfl ?_
      refine z_getI (jz := 8) hM dX6_steps_15 fl_RX6_105 rfl rfl rfl (fun v6 h_v6 o_v6 t_v6 => ?_)
      rw [(t_v6 (Or.inr (Or.inr (Or.inr ⟨rfl, rfl⟩)))).trans hn]
      clear t_v6
      refine r_icmp_ge (tgt := 117) hC dX6_steps_18 rfl (fun h7 => ?_) (fun h7 => ?_)
      · refine r_aload_n hC dX6_steps_117 rfl ?_
        refine z_getR hM dX6_steps_118 fl_RX6_31 rfl rfl (vld_of (n := 1) rfl (by omega) (by omega)) ?_
        refine r_iconst hC dX6_steps_121 rfl ?_
        refine r_iload_n hC dX6_steps_122 rfl ?_
        refine z_iastU hM dX6_steps_123 rfl (by omega) (by omega) (by simp [Un, Tb, DL, DF, DR, DX]) (by simp [Okv]) ?_
        refine r_aload_n hC dX6_steps_124 rfl ?_
        refine z_getR hM dX6_steps_125 fl_RX6_31 rfl rfl (vld_of (n := 1) rfl (by omega) (by omega)) ?_
        refine r_iconst hC dX6_steps_128 rfl ?_
        refine r_iload_n hC dX6_steps_129 rfl ?_
        refine z_iastU hM dX6_steps_130 rfl (by omega) (by omega) (by simp [Un, Tb, DL, DF, DR, DX]) (by simp [Okv]) ?_
        refine r_aload_n hC dX6_steps_131 rfl ?_
        refine z_getR hM dX6_steps_132 fl_RX6_31 rfl rfl (vld_of (n := 1) rfl (by omega) (by omega)) ?_
        refine r_iconst hC dX6_steps_135 rfl ?_
        refine r_aload_n hC dX6_steps_136 rfl ?_
        refine z_getR hM dX6_steps_137 fl_RX6_28 rfl rfl (vld_of (n := 1) rfl (by omega) (by omega)) ?_
        refine r_iconst hC dX6_steps_140 rfl ?_
        refine z_iald hM dX6_steps_141 rfl (by omega) (by omega) (fun v8 h_v8 o_v8 t_v8 => ?_)
        clear t_v8
        refine z_iastU hM dX6_steps_142 rfl (by omega) (by omega) (by simp [Un, Tb, DL, DF, DR, DX]) (by simp [Okv]) ?_
        refine r_aload_n hC dX6_steps_143 rfl ?_
        refine z_getR hM dX6_steps_144 fl_RX6_31 rfl rfl (vld_of (n := 1) rfl (by omega) (by omega)) ?_
        refine r_iconst hC dX6_steps_147 rfl ?_
        refine r_aload_n hC dX6_steps_148 rfl ?_
        refine z_getR hM dX6_steps_149 fl_RX6_28 rfl rfl (vld_of (n := 1) rfl (by omega) (by omega)) ?_
        refine r_aload_n hC dX6_steps_152 rfl ?_
        refine z_getI (jz := 8) hM dX6_steps_153 fl_RX6_105 rfl rfl rfl (fun v9 h_v9 o_v9 t_v9 => ?_)
        rw [(t_v9 (Or.inr (Or.inr (Or.inr ⟨rfl, rfl⟩)))).trans hn]
        clear t_v9
        refine r_iconst hC dX6_steps_156 rfl ?_
        refine r_isubE hC ((n - 1)) dX6_steps_157 (by omega) (by unfold inR; omega) ?_
        refine z_iald hM dX6_steps_158 rfl (by omega) (by omega) (fun v10 h_v10 o_v10 t_v10 => ?_)
        clear t_v10
        refine z_iastU hM dX6_steps_159 rfl (by omega) (by omega) (by simp [Un, Tb, DL, DF, DR, DX]) (by simp [Okv]) ?_
        refine r_aload_n hC dX6_steps_160 rfl ?_
        refine z_getR hM dX6_steps_161 fl_RX6_31 rfl rfl (vld_of (n := 1) rfl (by omega) (by omega)) ?_
        refine r_iconst hC dX6_steps_164 rfl ?_
        refine r_iload hC dX6_steps_165 rfl ?_
        refine z_iastU hM dX6_steps_167 rfl (by omega) (by omega) (by simp [Un, Tb, DL, DF, DR, DX]) (by simp [Okv]) ?_
        refine y_vret hK rfl dX6_steps_168 ?_
        exact k
      · refine r_iload_n hC dX6_steps_21 rfl ?_
        refine r_aload_n hC dX6_steps_22 rfl ?_
        refine z_getR hM dX6_steps_23 fl_RX6_28 rfl rfl (vld_of (n := 1) rfl (by omega) (by omega)) ?_
        refine r_iload hC dX6_steps_26 rfl ?_
        refine z_iald hM dX6_steps_28 rfl (by omega) (by omega) (fun v11 h_v11 o_v11 t_v11 => ?_)
        clear t_v11
        refine r_aload_n hC dX6_steps_29 rfl ?_
        refine z_getR hM dX6_steps_30 fl_RX6_28 rfl rfl (vld_of (n := 1) rfl (by omega) (by omega)) ?_
        refine r_iload hC dX6_steps_33 rfl ?_
        refine r_iconst hC dX6_steps_35 rfl ?_
        refine r_isubE hC ((w5 - 1)) dX6_steps_36 (by omega) (by unfold inR; omega) ?_
        refine z_iald hM dX6_steps_37 rfl (by omega) (by omega) (fun v12 h_v12 o_v12 t_v12 => ?_)
        clear t_v12
        have J46_14 : ∀ (w14 : Int), 0 ≤ w14 ∧ w14 ≤ 1 → K 46 [some (vR 30 0), some (vI w1), some (vI w2), some (vI w3), some (vI w4), some (vI w5)] [vI w14, vI w1] σ := by
          intro w14  f_w14 
          refine r_iaddG hC dX6_steps_46 (fun v16 h_v16 => ?_)
          refine r_istore_n hC dX6_steps_47 rfl ?_
          refine r_iload_n hC dX6_steps_48 rfl ?_
          refine r_aload_n hC dX6_steps_49 rfl ?_
          refine z_getR hM dX6_steps_50 fl_RX6_28 rfl rfl (vld_of (n := 1) rfl (by omega) (by omega)) ?_
          refine r_iload hC dX6_steps_53 rfl ?_
          refine z_iald hM dX6_steps_55 rfl (by omega) (by omega) (fun v17 h_v17 o_v17 t_v17 => ?_)
          clear t_v17
          refine r_aload_n hC dX6_steps_56 rfl ?_
          refine z_getR hM dX6_steps_57 fl_RX6_28 rfl rfl (vld_of (n := 1) rfl (by omega) (by omega)) ?_
          refine r_iload hC dX6_steps_60 rfl ?_
          refine r_iconst hC dX6_steps_62 rfl ?_
          refine r_isubE hC ((w5 - 1)) dX6_steps_63 (by omega) (by unfold inR; omega) ?_
          refine z_iald hM dX6_steps_64 rfl (by omega) (by omega) (fun v18 h_v18 o_v18 t_v18 => ?_)
          clear t_v18
          have J73_20 : ∀ (w20 : Int), 0 ≤ w20 ∧ w20 ≤ 1 → K 73 [some (vR 30 0), some (vI v16), some (vI w2), some (vI w3), some (vI w4), some (vI w5)] [vI w20, vI w2] σ := by
            intro w20  f_w20 
            refine r_iaddG hC dX6_steps_73 (fun v22 h_v22 => ?_)
            refine r_istore_n hC dX6_steps_74 rfl ?_
            refine r_aload_n hC dX6_steps_75 rfl ?_
            refine z_getR hM dX6_steps_76 fl_RX6_28 rfl rfl (vld_of (n := 1) rfl (by omega) (by omega)) ?_
            refine r_iload hC dX6_steps_79 rfl ?_
            refine z_iald hM dX6_steps_81 rfl (by omega) (by omega) (fun v23 h_v23 o_v23 t_v23 => ?_)
            clear t_v23
            refine r_aload_n hC dX6_steps_82 rfl ?_
            refine z_getR hM dX6_steps_83 fl_RX6_28 rfl rfl (vld_of (n := 1) rfl (by omega) (by omega)) ?_
            refine r_iload hC dX6_steps_86 rfl ?_
            refine r_iconst hC dX6_steps_88 rfl ?_
            refine r_isubE hC ((w5 - 1)) dX6_steps_89 (by omega) (by unfold inR; omega) ?_
            refine z_iald hM dX6_steps_90 rfl (by omega) (by omega) (fun v24 h_v24 o_v24 t_v24 => ?_)
            clear t_v24
            have J101_26 : ∀ (w26 : Int), -2147483648 ≤ w26 ∧ w26 ≤ 2147483647 → K 101 [some (vR 30 0), some (vI v16), some (vI v22), some (vI w3), some (vI w4), some (vI w5)] [vI w26] σ := by
              intro w26  f_w26 
              refine r_istore_n hC dX6_steps_101 rfl ?_
              refine r_iload_n hC dX6_steps_102 rfl ?_
              refine r_iload hC dX6_steps_103 rfl ?_
              have J111_29 : ∀ (w29 : Int), 1 ≤ w29 ∧ w29 ≤ 2147483647 → K 111 [some (vR 30 0), some (vI v16), some (vI v22), some (vI w26), some (vI w29), some (vI w5)] [] σ := by
                intro w29  f_w29 
                refine r_iincE hC ((w5 + 1)) dX6_steps_111 rfl rfl (by omega) (by unfold inR; omega) ?_
                refine r_goto (tgt := 12) hC dX6_steps_114 rfl ?_
                exact ih12 (v16) (v22) (w26) (w29) ((w5 + 1))  (by omega) (by omega) (by omega) (by omega) (by omega)  (by omega)  
              refine r_icmp_le (tgt := 111) hC dX6_steps_105 rfl (fun h28 => ?_) (fun h28 => ?_)
              · exact J111_29 (w4)  (by omega)
              · refine r_iload_n hC dX6_steps_108 rfl ?_
                refine r_istore hC dX6_steps_109 rfl ?_
                exact J111_29 (w26)  (by omega) 
            refine r_icmp_ge (tgt := 98) hC dX6_steps_91 rfl (fun h25 => ?_) (fun h25 => ?_)
            · refine r_iload_n hC dX6_steps_98 rfl ?_
              refine r_iconst hC dX6_steps_99 rfl ?_
              refine r_iaddG hC dX6_steps_100 (fun v31 h_v31 => ?_)
              exact J101_26 (v31)  (by omega) 
            · refine r_iconst hC dX6_steps_94 rfl ?_
              refine r_goto (tgt := 101) hC dX6_steps_95 rfl ?_
              exact J101_26 (1)  (by omega) 
          refine r_icmp_le (tgt := 72) hC dX6_steps_65 rfl (fun h19 => ?_) (fun h19 => ?_)
          · refine r_iconst hC dX6_steps_72 rfl ?_
            exact J73_20 (0)  (by omega) 
          · refine r_iconst hC dX6_steps_68 rfl ?_
            refine r_goto (tgt := 73) hC dX6_steps_69 rfl ?_
            exact J73_20 (1)  (by omega) 
        refine r_icmp_ge (tgt := 45) hC dX6_steps_38 rfl (fun h13 => ?_) (fun h13 => ?_)
        · refine r_iconst hC dX6_steps_45 rfl ?_
          exact J46_14 (0)  (by omega) 
        · refine r_iconst hC dX6_steps_41 rfl ?_
          refine r_goto (tgt := 46) hC dX6_steps_42 rfl ?_
          exact J46_14 (1)  (by omega) 
  exact L12 243 (0) (0) (1) (1) (1)  (by omega) (by omega) (by omega) (by omega) (by omega)  (by omega)  
theorem qm_spread {eb : Bool} {d : Nat} {P : Option Vl → Mm → Prop} {σ : Mm} {n : Int} (b_n : 1 ≤ n ∧ n ≤ 242) (hn : σ 30 0 8 = n)  (k : P none σ) : WT (false, eb, true) (d + 1) 171 [vR 30 0] σ P := by
  refine WT_in fun K hK => ?_
  have hK : StpY (false, eb, true) cX6_spread RX6 (none) (WT (false, eb, true) (d + 0)) P K := hK
  have hM := hK.1
  have hC := hK.1.1
  show K 0 [some (vR 30 0), none, none, none, none] [] σ
  refine r_ldc hC dX6_spread_0 co_RX6_160 rfl ?_
  refine r_istore_n hC dX6_spread_2 rfl ?_
  refine r_ldc hC dX6_spread_3 co_RX6_160 rfl ?_
  refine r_istore_n hC dX6_spread_5 rfl ?_
  refine r_iconst hC dX6_spread_6 rfl ?_
  refine r_istore_n hC dX6_spread_7 rfl ?_
  show K _ [_, _, _, _, _] _ _
  refine r_iconst hC dX6_spread_8 rfl ?_
  refine r_istore hC dX6_spread_9 rfl ?_
  have L11 : ∀ (n11 : Nat) (w1 w2 w3 w4 : Int), -2147483648 ≤ w1 ∧ w1 ≤ 2147483647 → -2147483648 ≤ w2 ∧ w2 ≤ 2147483647 → -2147483648 ≤ w3 ∧ w3 ≤ 2147483647 → 0 ≤ w4 ∧ w4 ≤ 242 → 242 - w4 < (n11 : Int) → K 11 [some (vR 30 0), some (vI w1), some (vI w2), some (vI w3), some (vI w4)] [] σ := by
    intro n11
    induction n11 with
    | zero => intro w1 w2 w3 w4  f_w1 f_w2 f_w3 f_w4  hm  ; omega
    | succ n11 ih11 =>
      intro w1 w2 w3 w4  f_w1 f_w2 f_w3 f_w4  hm11  
      refine r_iload hC dX6_spread_11 rfl ?_
      refine r_aload_n hC dX6_spread_13 rfl ?_
      refine z_getI (jz := 8) hM dX6_spread_14 fl_RX6_105 rfl rfl rfl (fun v5 h_v5 o_v5 t_v5 => ?_)
      rw [(t_v5 (Or.inr (Or.inr (Or.inr ⟨rfl, rfl⟩)))).trans hn]
      clear t_v5
      refine r_icmp_ge (tgt := 103) hC dX6_spread_17 rfl (fun h6 => ?_) (fun h6 => ?_)
      · refine r_aload_n hC dX6_spread_103 rfl ?_
        refine z_getR hM dX6_spread_104 fl_RX6_31 rfl rfl (vld_of (n := 1) rfl (by omega) (by omega)) ?_
        refine r_iconst hC dX6_spread_107 rfl ?_
        refine r_iload_n hC dX6_spread_108 rfl ?_
        refine z_iastU hM dX6_spread_109 rfl (by omega) (by omega) (by simp [Un, Tb, DL, DF, DR, DX]) (by simp [Okv]) ?_
        refine r_aload_n hC dX6_spread_110 rfl ?_
        refine z_getR hM dX6_spread_111 fl_RX6_31 rfl rfl (vld_of (n := 1) rfl (by omega) (by omega)) ?_
        refine r_iconst hC dX6_spread_114 rfl ?_
        refine r_iload_n hC dX6_spread_115 rfl ?_
        refine z_iastU hM dX6_spread_116 rfl (by omega) (by omega) (by simp [Un, Tb, DL, DF, DR, DX]) (by simp [Okv]) ?_
        refine r_aload_n hC dX6_spread_117 rfl ?_
        refine z_getR hM dX6_spread_118 fl_RX6_31 rfl rfl (vld_of (n := 1) rfl (by omega) (by omega)) ?_
        refine r_iconst hC dX6_spread_121 rfl ?_
        refine r_iload_n hC dX6_spread_122 rfl ?_
        refine z_iastU hM dX6_spread_123 rfl (by omega) (by omega) (by simp [Un, Tb, DL, DF, DR, DX]) (by simp [Okv]) ?_
        refine y_vret hK rfl dX6_spread_124 ?_
        exact k
      · refine r_aload_n hC dX6_spread_20 rfl ?_
        refine z_getR hM dX6_spread_21 fl_RX6_28 rfl rfl (vld_of (n := 1) rfl (by omega) (by omega)) ?_
        refine r_iload hC dX6_spread_24 rfl ?_
        refine z_iald hM dX6_spread_26 rfl (by omega) (by omega) (fun v7 h_v7 o_v7 t_v7 => ?_)
        clear t_v7
        have J33_9 : ∀ (w9 : Int), -2147483648 ≤ w9 ∧ w9 ≤ 2147483647 → K 33 [some (vR 30 0), some (vI w1), some (vI w2), some (vI w9), some (vI w4)] [] σ := by
          intro w9  f_w9 
          refine r_aload_n hC dX6_spread_33 rfl ?_
          refine z_getR hM dX6_spread_34 fl_RX6_28 rfl rfl (vld_of (n := 1) rfl (by omega) (by omega)) ?_
          refine r_iload hC dX6_spread_37 rfl ?_
          refine z_iald hM dX6_spread_39 rfl (by omega) (by omega) (fun v11 h_v11 o_v11 t_v11 => ?_)
          clear t_v11
          have J68_13 : ∀ (w13 : Int), -2147483648 ≤ w13 ∧ w13 ≤ 2147483647 → K 68 [some (vR 30 0), some (vI w13), some (vI w2), some (vI w9), some (vI w4)] [] σ := by
            intro w13  f_w13 
            refine r_aload_n hC dX6_spread_68 rfl ?_
            refine z_getR hM dX6_spread_69 fl_RX6_28 rfl rfl (vld_of (n := 1) rfl (by omega) (by omega)) ?_
            refine r_iload hC dX6_spread_72 rfl ?_
            refine z_iald hM dX6_spread_74 rfl (by omega) (by omega) (fun v15 h_v15 o_v15 t_v15 => ?_)
            clear t_v15
            have J97_17 : ∀ (w17 : Int), -2147483648 ≤ w17 ∧ w17 ≤ 2147483647 → K 97 [some (vR 30 0), some (vI w13), some (vI w17), some (vI w9), some (vI w4)] [] σ := by
              intro w17  f_w17 
              refine r_iincE hC ((w4 + 1)) dX6_spread_97 rfl rfl (by omega) (by unfold inR; omega) ?_
              refine r_goto (tgt := 11) hC dX6_spread_100 rfl ?_
              exact ih11 (w13) (w17) (w9) ((w4 + 1))  (by omega) (by omega) (by omega) (by omega)  (by omega)  
            refine r_if_ge (tgt := 97) hC dX6_spread_75 rfl (fun h16 => ?_) (fun h16 => ?_)
            · exact J97_17 (w2)  (by omega)
            · refine r_aload_n hC dX6_spread_78 rfl ?_
              refine z_getR hM dX6_spread_79 fl_RX6_28 rfl rfl (vld_of (n := 1) rfl (by omega) (by omega)) ?_
              refine r_iload hC dX6_spread_82 rfl ?_
              refine z_iald hM dX6_spread_84 rfl (by omega) (by omega) (fun v19 h_v19 o_v19 t_v19 => ?_)
              clear t_v19
              refine r_iload_n hC dX6_spread_85 rfl ?_
              refine r_icmp_le (tgt := 97) hC dX6_spread_86 rfl (fun h20 => ?_) (fun h20 => ?_)
              · exact J97_17 (w2)  (by omega)
              · refine r_aload_n hC dX6_spread_89 rfl ?_
                refine z_getR hM dX6_spread_90 fl_RX6_28 rfl rfl (vld_of (n := 1) rfl (by omega) (by omega)) ?_
                refine r_iload hC dX6_spread_93 rfl ?_
                refine z_iald hM dX6_spread_95 rfl (by omega) (by omega) (fun v21 h_v21 o_v21 t_v21 => ?_)
                clear t_v21
                refine r_istore_n hC dX6_spread_96 rfl ?_
                exact J97_17 (v21)  (by omega) 
          refine r_if_le (tgt := 68) hC dX6_spread_40 rfl (fun h12 => ?_) (fun h12 => ?_)
          · exact J68_13 (w1)  (by omega)
          · refine r_iload_n hC dX6_spread_43 rfl ?_
            refine r_ldc hC dX6_spread_44 co_RX6_160 rfl ?_
            refine r_icmp_eq (tgt := 60) hC dX6_spread_46 rfl (fun h22 => ?_) (fun h22 => ?_)
            · refine r_aload_n hC dX6_spread_60 rfl ?_
              refine z_getR hM dX6_spread_61 fl_RX6_28 rfl rfl (vld_of (n := 1) rfl (by omega) (by omega)) ?_
              refine r_iload hC dX6_spread_64 rfl ?_
              refine z_iald hM dX6_spread_66 rfl (by omega) (by omega) (fun v23 h_v23 o_v23 t_v23 => ?_)
              clear t_v23
              refine r_istore_n hC dX6_spread_67 rfl ?_
              exact J68_13 (v23)  (by omega) 
            · refine r_aload_n hC dX6_spread_49 rfl ?_
              refine z_getR hM dX6_spread_50 fl_RX6_28 rfl rfl (vld_of (n := 1) rfl (by omega) (by omega)) ?_
              refine r_iload hC dX6_spread_53 rfl ?_
              refine z_iald hM dX6_spread_55 rfl (by omega) (by omega) (fun v24 h_v24 o_v24 t_v24 => ?_)
              clear t_v24
              refine r_iload_n hC dX6_spread_56 rfl ?_
              refine r_icmp_ge (tgt := 68) hC dX6_spread_57 rfl (fun h25 => ?_) (fun h25 => ?_)
              · exact J68_13 (w1)  (by omega)
              · refine r_aload_n hC dX6_spread_60 rfl ?_
                refine z_getR hM dX6_spread_61 fl_RX6_28 rfl rfl (vld_of (n := 1) rfl (by omega) (by omega)) ?_
                refine r_iload hC dX6_spread_64 rfl ?_
                refine z_iald hM dX6_spread_66 rfl (by omega) (by omega) (fun v26 h_v26 o_v26 t_v26 => ?_)
                clear t_v26
                refine r_istore_n hC dX6_spread_67 rfl ?_
                exact J68_13 (v26)  (by omega) 
        refine r_if_ne (tgt := 33) hC dX6_spread_27 rfl (fun h8 => ?_) (fun h8 => ?_)
        · exact J33_9 (w3)  (by omega)
        · refine r_iincG hC dX6_spread_30 rfl rfl (fun v27 h_v27 => ?_)
          exact J33_9 (v27)  (by omega) 
  exact L11 244 ((-2147483648)) ((-2147483648)) (0) (0)  (by omega) (by omega) (by omega) (by omega)  (by omega)  
theorem qm_multiply {eb : Bool} {d : Nat} {P : Option Vl → Mm → Prop} {σ : Mm} {n : Int} (b_n : 1 ≤ n ∧ n ≤ 242) (hn : σ 30 0 8 = n)  (k : P none σ) : WT (false, eb, true) (d + 2) 172 [vR 30 0] σ P := by
  refine WT_in fun K hK => ?_
  have hK : StpY (false, eb, true) cX6_multiply RX6 (none) (WT (false, eb, true) (d + 1)) P K := hK
  have hM := hK.1
  have hC := hK.1.1
  show K 0 [some (vR 30 0), none, none] [] σ
  refine r_aload_n hC dX6_multiply_0 rfl ?_
  refine z_getR hM dX6_multiply_1 fl_RX6_28 rfl rfl (vld_of (n := 1) rfl (by omega) (by omega)) ?_
  refine r_iconst hC dX6_multiply_4 rfl ?_
  refine z_iald hM dX6_multiply_5 rfl (by omega) (by omega) (fun v1 h_v1 o_v1 t_v1 => ?_)
  clear t_v1
  refine r_iconst hC dX6_multiply_6 rfl ?_
  refine z_ins2 hM dX6_multiply_7 tl_RX6_164 rfl (Nat.le_of_ble_eq_true rfl) (Nat.le_of_ble_eq_true rfl) ?_
  refine qm_restb (by omega) (fun v2 h_v2 => ?_)
  refine r_istore_n hC dX6_multiply_10 rfl ?_
  refine r_iconst hC dX6_multiply_11 rfl ?_
  refine r_istore_n hC dX6_multiply_12 rfl ?_
  have L13 : ∀ (n13 : Nat) (w3 w4 : Int), 0 ≤ w3 ∧ w3 ≤ 3 → 1 ≤ w4 ∧ w4 ≤ 242 → 242 - w4 < (n13 : Int) → K 13 [some (vR 30 0), some (vI w3), some (vI w4)] [] σ := by
    intro n13
    induction n13 with
    | zero => intro w3 w4  f_w3 f_w4  hm  ; omega
    | succ n13 ih13 =>
      intro w3 w4  f_w3 f_w4  hm13  
      refine r_iload_n hC dX6_multiply_13 rfl ?_
      refine r_aload_n hC dX6_multiply_14 rfl ?_
      refine z_getI (jz := 8) hM dX6_multiply_15 fl_RX6_105 rfl rfl rfl (fun v5 h_v5 o_v5 t_v5 => ?_)
      rw [(t_v5 (Or.inr (Or.inr (Or.inr ⟨rfl, rfl⟩)))).trans hn]
      clear t_v5
      refine r_icmp_ge (tgt := 43) hC dX6_multiply_18 rfl (fun h6 => ?_) (fun h6 => ?_)
      · refine r_aload_n hC dX6_multiply_43 rfl ?_
        refine z_getR hM dX6_multiply_44 fl_RX6_31 rfl rfl (vld_of (n := 1) rfl (by omega) (by omega)) ?_
        refine r_iconst hC dX6_multiply_47 rfl ?_
        refine r_iload_n hC dX6_multiply_48 rfl ?_
        refine z_iastU hM dX6_multiply_49 rfl (by omega) (by omega) (by simp [Un, Tb, DL, DF, DR, DX]) (by simp [Okv]) ?_
        refine y_vret hK rfl dX6_multiply_50 ?_
        exact k
      · refine r_aload_n hC dX6_multiply_21 rfl ?_
        refine r_iload_n hC dX6_multiply_22 rfl ?_
        refine r_aload_n hC dX6_multiply_23 rfl ?_
        refine z_getR hM dX6_multiply_24 fl_RX6_28 rfl rfl (vld_of (n := 1) rfl (by omega) (by omega)) ?_
        refine r_iload_n hC dX6_multiply_27 rfl ?_
        refine z_iald hM dX6_multiply_28 rfl (by omega) (by omega) (fun v7 h_v7 o_v7 t_v7 => ?_)
        clear t_v7
        refine r_iconst hC dX6_multiply_29 rfl ?_
        refine z_ins2 hM dX6_multiply_30 tl_RX6_164 rfl (Nat.le_of_ble_eq_true rfl) (Nat.le_of_ble_eq_true rfl) ?_
        refine qm_restb (by omega) (fun v8 h_v8 => ?_)
        refine z_inv2 hM dX6_multiply_33 vl_RX6_88 rfl rfl rfl (Nat.le_of_ble_eq_true rfl) (Nat.le_of_ble_eq_true rfl) ?_
        refine qm_product (by omega) (by omega) (fun v9 h_v9 => ?_)
        refine r_istore_n hC dX6_multiply_36 rfl ?_
        refine r_iincE hC ((w4 + 1)) dX6_multiply_37 rfl rfl (by omega) (by unfold inR; omega) ?_
        refine r_goto (tgt := 13) hC dX6_multiply_40 rfl ?_
        exact ih13 (v9) ((w4 + 1))  (by omega) (by omega)  (by omega)  
  exact L13 243 (v2) (1)  (by omega) (by omega)  (by omega)  
theorem qm_share {eb : Bool} {d : Nat} {P : Option Vl → Mm → Prop} {σ : Mm} {n : Int} (b_n : 1 ≤ n ∧ n ≤ 242) (hn : σ 30 0 8 = n)  (k : P none σ) : WT (false, eb, true) (d + 1) 161 [vR 30 0] σ P := by
  refine WT_in fun K hK => ?_
  have hK : StpY (false, eb, true) cX6_share RX6 (none) (WT (false, eb, true) (d + 0)) P K := hK
  have hM := hK.1
  have hC := hK.1.1
  show K 0 [some (vR 30 0), none, none, none, none, none] [] σ
  refine r_iconst hC dX6_share_0 rfl ?_
  refine r_istore_n hC dX6_share_1 rfl ?_
  refine r_iconst hC dX6_share_2 rfl ?_
  refine r_istore_n hC dX6_share_3 rfl ?_
  refine r_iconst hC dX6_share_4 rfl ?_
  refine r_istore_n hC dX6_share_5 rfl ?_
  have L6 : ∀ (n6 : Nat) (w1 w2 w3 : Int), 0 ≤ w1 ∧ w1 ≤ 2147483647 → -2147483648 ≤ w2 ∧ w2 ≤ 2147483647 → 0 ≤ w3 ∧ w3 ≤ 242 → 242 - w3 < (n6 : Int) → K 6 [some (vR 30 0), some (vI w1), some (vI w2), some (vI w3), none, none] [] σ := by
    intro n6
    induction n6 with
    | zero => intro w1 w2 w3  f_w1 f_w2 f_w3  hm  ; omega
    | succ n6 ih6 =>
      intro w1 w2 w3  f_w1 f_w2 f_w3  hm6  
      refine r_iload_n hC dX6_share_6 rfl ?_
      refine r_aload_n hC dX6_share_7 rfl ?_
      refine z_getI (jz := 8) hM dX6_share_8 fl_RX6_105 rfl rfl rfl (fun v4 h_v4 o_v4 t_v4 => ?_)
      rw [(t_v4 (Or.inr (Or.inr (Or.inr ⟨rfl, rfl⟩)))).trans hn]
      clear t_v4
      refine r_icmp_ge (tgt := 81) hC dX6_share_11 rfl (fun h5 => ?_) (fun h5 => ?_)
      · refine r_aload_n hC dX6_share_81 rfl ?_
        refine z_getR hM dX6_share_82 fl_RX6_31 rfl rfl (vld_of (n := 1) rfl (by omega) (by omega)) ?_
        refine r_iconst hC dX6_share_85 rfl ?_
        refine r_iload_n hC dX6_share_86 rfl ?_
        refine z_iastU hM dX6_share_87 rfl (by omega) (by omega) (by simp [Un, Tb, DL, DF, DR, DX]) (by simp [Okv]) ?_
        refine r_aload_n hC dX6_share_88 rfl ?_
        refine z_getR hM dX6_share_89 fl_RX6_31 rfl rfl (vld_of (n := 1) rfl (by omega) (by omega)) ?_
        refine r_iconst hC dX6_share_92 rfl ?_
        refine r_iload_n hC dX6_share_93 rfl ?_
        refine z_iastU hM dX6_share_94 rfl (by omega) (by omega) (by simp [Un, Tb, DL, DF, DR, DX]) (by simp [Okv]) ?_
        refine y_vret hK rfl dX6_share_95 ?_
        exact k
      · refine r_aload_n hC dX6_share_14 rfl ?_
        refine z_getR hM dX6_share_15 fl_RX6_28 rfl rfl (vld_of (n := 1) rfl (by omega) (by omega)) ?_
        refine r_iload_n hC dX6_share_18 rfl ?_
        refine z_iald hM dX6_share_19 rfl (by omega) (by omega) (fun v6 h_v6 o_v6 t_v6 => ?_)
        clear t_v6
        have J39_8 : ∀ (w8 : Int), -2147483648 ≤ w8 ∧ w8 ≤ 2147483647 → K 39 [some (vR 30 0), some (vI w1), some (vI w2), some (vI w3), none, none] [vI w8] σ := by
          intro w8  f_w8 
          refine r_istore hC dX6_share_39 rfl ?_
          refine r_iload_n hC dX6_share_41 rfl ?_
          refine r_iload hC dX6_share_42 rfl ?_
          have J52_11 : ∀ (w11 : Int), 0 ≤ w11 ∧ w11 ≤ 1 → K 52 [some (vR 30 0), some (vI w1), some (vI w2), some (vI w3), some (vI w8), none] [vI w11, vI w2] σ := by
            intro w11  f_w11 
            refine r_iaddG hC dX6_share_52 (fun v13 h_v13 => ?_)
            refine r_istore_n hC dX6_share_53 rfl ?_
            have L54 : ∀ (n54 : Nat) (w14 w15 : Int), 0 ≤ w14 ∧ w14 ≤ 2147483647 → -2147483648 ≤ w15 ∧ w15 ≤ 2147483647 → w15 + 2147483648 < (n54 : Int) → K 54 [some (vR 30 0), some (vI w14), some (vI v13), some (vI w3), some (vI w15), none] [] σ := by
              intro n54
              induction n54 with
              | zero => intro w14 w15  f_w14 f_w15  hm  ; omega
              | succ n54 ih54 =>
                intro w14 w15  f_w14 f_w15  hm54  
                refine r_iload hC dX6_share_54 rfl ?_
                refine r_if_le (tgt := 75) hC dX6_share_56 rfl (fun h16 => ?_) (fun h16 => ?_)
                · refine r_iincE hC ((w3 + 1)) dX6_share_75 rfl rfl (by omega) (by unfold inR; omega) ?_
                  refine r_goto (tgt := 6) hC dX6_share_78 rfl ?_
                  refine r_forget hC (ls2 := [some (vR 30 0), some (vI w14), some (vI v13), some (vI (w3 + 1)), none, none]) (lsub_some (lsub_some (lsub_some (lsub_some (lsub_none (lsub_none lsub_nil)))))) ?_
                  exact ih6 (w14) (v13) ((w3 + 1))  (by omega) (by omega) (by omega)  (by omega)  
                · refine r_iload_n hC dX6_share_59 rfl ?_
                  refine r_iload hC dX6_share_60 rfl ?_
                  refine r_iremP hC dX6_share_62 (by omega) (by omega) (fun v17 h_v17 => ?_)
                  refine r_istore hC dX6_share_63 rfl ?_
                  refine r_iload hC dX6_share_65 rfl ?_
                  refine r_istore_n hC dX6_share_67 rfl ?_
                  refine r_iload hC dX6_share_68 rfl ?_
                  refine r_istore hC dX6_share_70 rfl ?_
                  show K _ [_, _, _, _, _, _] _ _
                  refine r_goto (tgt := 54) hC dX6_share_72 rfl ?_
                  refine r_forget hC (ls2 := [some (vR 30 0), some (vI w15), some (vI v13), some (vI w3), some (vI v17), none]) (lsub_some (lsub_some (lsub_some (lsub_some (lsub_some (lsub_none lsub_nil)))))) ?_
                  exact ih54 (w15) (v17)  (by omega) (by omega)  (by omega)  
            exact L54 4294967298 (w1) (w8)  (by omega) (by omega)  (by omega)  
          refine r_if_ne (tgt := 51) hC dX6_share_44 rfl (fun h10 => ?_) (fun h10 => ?_)
          · refine r_iconst hC dX6_share_51 rfl ?_
            exact J52_11 (1)  (by omega) 
          · refine r_iconst hC dX6_share_47 rfl ?_
            refine r_goto (tgt := 52) hC dX6_share_48 rfl ?_
            exact J52_11 (0)  (by omega) 
        refine r_if_ge (tgt := 33) hC dX6_share_20 rfl (fun h7 => ?_) (fun h7 => ?_)
        · refine r_aload_n hC dX6_share_33 rfl ?_
          refine z_getR hM dX6_share_34 fl_RX6_28 rfl rfl (vld_of (n := 1) rfl (by omega) (by omega)) ?_
          refine r_iload_n hC dX6_share_37 rfl ?_
          refine z_iald hM dX6_share_38 rfl (by omega) (by omega) (fun v18 h_v18 o_v18 t_v18 => ?_)
          clear t_v18
          exact J39_8 (v18)  (by omega) 
        · refine r_aload_n hC dX6_share_23 rfl ?_
          refine z_getR hM dX6_share_24 fl_RX6_28 rfl rfl (vld_of (n := 1) rfl (by omega) (by omega)) ?_
          refine r_iload_n hC dX6_share_27 rfl ?_
          refine z_iald hM dX6_share_28 rfl (by omega) (by omega) (fun v19 h_v19 o_v19 t_v19 => ?_)
          clear t_v19
          refine r_inegG hC dX6_share_29 (fun v20 h_v20 => ?_)
          refine r_goto (tgt := 39) hC dX6_share_30 rfl ?_
          exact J39_8 (v20)  (by omega) 
  exact L6 244 (0) (0) (0)  (by omega) (by omega) (by omega)  (by omega)  
-- the reference: its row, its questions
theorem qm_alikeFrom {eb : Bool} {d : Nat} {P : Option Vl → Mm → Prop} {σ : Mm} {i n : Int} (b_i : 0 ≤ i ∧ i ≤ 241) (b_n : 1 ≤ n ∧ n ≤ 242) (qg0 : σ 30 0 8 = n) (hi : i < n)  (k : ∀ r : Int, 1 ≤ r ∧ r ≤ n - i → P (some (vI r)) σ) : WT (false, eb, true) (d + 1) 168 [vR 30 0, vI i] σ P := by
  refine WT_in fun K hK => ?_
  have hK : StpY (false, eb, true) cX6_alikeFrom RX6 (some .int) (WT (false, eb, true) (d + 0)) P K := hK
  have hM := hK.1
  have hC := hK.1.1
  show K 0 [some (vR 30 0), some (vI i), none] [] σ
  refine r_iload_n hC dX6_alikeFrom_0 rfl ?_
  refine r_istore_n hC dX6_alikeFrom_1 rfl ?_
  refine r_iload_n hC dX6_alikeFrom_2 rfl ?_
  refine r_aload_n hC dX6_alikeFrom_3 rfl ?_
  refine z_getI (jz := 8) hM dX6_alikeFrom_4 fl_RX6_105 rfl rfl rfl (fun v1 h_v1 o_v1 t_v1 => ?_)
  have e_v1 : n = v1 := ((t_v1 ((Or.inr (Or.inr (Or.inr ⟨rfl, rfl⟩))))).trans qg0).symm
  clear t_v1
  subst e_v1
  refine r_icmp_ge (tgt := 31) hC dX6_alikeFrom_7 rfl (fun h2 => ?_) (fun h2 => ?_)
  · refine r_iload_n hC dX6_alikeFrom_31 rfl ?_
    refine r_iload_n hC dX6_alikeFrom_32 rfl ?_
    refine r_isubE hC ((i - i)) dX6_alikeFrom_33 (by omega) (by unfold inR; omega) ?_
    refine y_iret hK rfl dX6_alikeFrom_34 ?_
    exact k _ (by omega)
  · refine r_aload_n hC dX6_alikeFrom_10 rfl ?_
    refine z_getR hM dX6_alikeFrom_11 fl_RX6_28 rfl rfl (vld_of (n := 1) rfl (by omega) (by omega)) ?_
    refine r_iload_n hC dX6_alikeFrom_14 rfl ?_
    refine z_iald hM dX6_alikeFrom_15 rfl (by omega) (by omega) (fun v3 h_v3 o_v3 t_v3 => ?_)
    have w_v3 := t_v3 (Or.inr (Or.inr (Or.inr ⟨rfl, trivial⟩)))
    clear t_v3
    refine r_aload_n hC dX6_alikeFrom_16 rfl ?_
    refine z_getR hM dX6_alikeFrom_17 fl_RX6_28 rfl rfl (vld_of (n := 1) rfl (by omega) (by omega)) ?_
    refine r_iload_n hC dX6_alikeFrom_20 rfl ?_
    refine z_iald hM dX6_alikeFrom_21 rfl (by omega) (by omega) (fun v4 h_v4 o_v4 t_v4 => ?_)
    have w_v4 := t_v4 (Or.inr (Or.inr (Or.inr ⟨rfl, trivial⟩)))
    clear t_v4
    refine r_icmp_ne (tgt := 31) hC dX6_alikeFrom_22 rfl (fun h5 => ?_) (fun h5 => ?_)
    · refine r_iload_n hC dX6_alikeFrom_31 rfl ?_
      refine r_iload_n hC dX6_alikeFrom_32 rfl ?_
      refine r_isubE hC ((i - i)) dX6_alikeFrom_33 (by omega) (by unfold inR; omega) ?_
      refine y_iret hK rfl dX6_alikeFrom_34 ?_
      exact k _ (by omega)
    · refine r_iincE hC ((i + 1)) dX6_alikeFrom_25 rfl rfl (by omega) (by unfold inR; omega) ?_
      refine r_goto (tgt := 2) hC dX6_alikeFrom_28 rfl ?_
      have L2 : ∀ (n2 : Nat) (w6 : Int), 1 ≤ w6 ∧ w6 ≤ 242 → ((w6) ≤ n) → (i + 1 ≤ (w6)) → 242 - w6 < (n2 : Int) → K 2 [some (vR 30 0), some (vI i), some (vI w6)] [] σ := by
        intro n2
        induction n2 with
        | zero => intro w6  f_w6 i0_2 i1_2 hm  ; omega
        | succ n2 ih2 =>
          intro w6  f_w6 i0_2 i1_2 hm2  
          refine r_iload_n hC dX6_alikeFrom_2 rfl ?_
          refine r_aload_n hC dX6_alikeFrom_3 rfl ?_
          refine z_getI (jz := 8) hM dX6_alikeFrom_4 fl_RX6_105 rfl rfl rfl (fun v7 h_v7 o_v7 t_v7 => ?_)
          have e_v7 : n = v7 := ((t_v7 ((Or.inr (Or.inr (Or.inr ⟨rfl, rfl⟩))))).trans qg0).symm
          clear t_v7
          subst e_v7
          refine r_icmp_ge (tgt := 31) hC dX6_alikeFrom_7 rfl (fun h8 => ?_) (fun h8 => ?_)
          · refine r_iload_n hC dX6_alikeFrom_31 rfl ?_
            refine r_iload_n hC dX6_alikeFrom_32 rfl ?_
            refine r_isubE hC ((w6 - i)) dX6_alikeFrom_33 (by omega) (by unfold inR; omega) ?_
            refine y_iret hK rfl dX6_alikeFrom_34 ?_
            exact k _ (by omega)
          · refine r_aload_n hC dX6_alikeFrom_10 rfl ?_
            refine z_getR hM dX6_alikeFrom_11 fl_RX6_28 rfl rfl (vld_of (n := 1) rfl (by omega) (by omega)) ?_
            refine r_iload_n hC dX6_alikeFrom_14 rfl ?_
            refine z_iald hM dX6_alikeFrom_15 rfl (by omega) (by omega) (fun v9 h_v9 o_v9 t_v9 => ?_)
            have w_v9 := t_v9 (Or.inr (Or.inr (Or.inr ⟨rfl, trivial⟩)))
            clear t_v9
            refine r_aload_n hC dX6_alikeFrom_16 rfl ?_
            refine z_getR hM dX6_alikeFrom_17 fl_RX6_28 rfl rfl (vld_of (n := 1) rfl (by omega) (by omega)) ?_
            refine r_iload_n hC dX6_alikeFrom_20 rfl ?_
            refine z_iald hM dX6_alikeFrom_21 rfl (by omega) (by omega) (fun v10 h_v10 o_v10 t_v10 => ?_)
            have w_v10 := t_v10 (Or.inr (Or.inr (Or.inr ⟨rfl, trivial⟩)))
            clear t_v10
            refine r_icmp_ne (tgt := 31) hC dX6_alikeFrom_22 rfl (fun h11 => ?_) (fun h11 => ?_)
            · refine r_iload_n hC dX6_alikeFrom_31 rfl ?_
              refine r_iload_n hC dX6_alikeFrom_32 rfl ?_
              refine r_isubE hC ((w6 - i)) dX6_alikeFrom_33 (by omega) (by unfold inR; omega) ?_
              refine y_iret hK rfl dX6_alikeFrom_34 ?_
              exact k _ (by omega)
            · refine r_iincE hC ((w6 + 1)) dX6_alikeFrom_25 rfl rfl (by omega) (by unfold inR; omega) ?_
              refine r_goto (tgt := 2) hC dX6_alikeFrom_28 rfl ?_
              exact ih2 ((w6 + 1))  (by omega) (by omega) (by omega) (by omega)  
      exact L2 244 ((i + 1))  (by omega) (by omega) (by omega) (by omega)  
theorem qm_like {eb : Bool} {d : Nat} {P : Option Vl → Mm → Prop} {σ : Mm} {n : Int} (b_n : 1 ≤ n ∧ n ≤ 242) (hn : σ 30 0 8 = n)  (k : P none σ) : WT (false, eb, true) (d + 2) 169 [vR 30 0] σ P := by
  refine WT_in fun K hK => ?_
  have hK : StpY (false, eb, true) cX6_like RX6 (none) (WT (false, eb, true) (d + 1)) P K := hK
  have hM := hK.1
  have hC := hK.1.1
  show K 0 [some (vR 30 0), none, none, none, none, none] [] σ
  refine r_iconst hC dX6_like_0 rfl ?_
  refine r_istore_n hC dX6_like_1 rfl ?_
  refine r_iconst hC dX6_like_2 rfl ?_
  refine r_istore_n hC dX6_like_3 rfl ?_
  refine r_iconst hC dX6_like_4 rfl ?_
  refine r_istore_n hC dX6_like_5 rfl ?_
  show K _ [_, _, _, _, _, _] _ _
  refine r_iconst hC dX6_like_6 rfl ?_
  refine r_istore hC dX6_like_7 rfl ?_
  refine r_iconst hC dX6_like_9 rfl ?_
  refine r_istore hC dX6_like_10 rfl ?_
  have L12 : ∀ (n12 : Nat) (w1 w2 w3 w4 w5 : Int), -2147483648 ≤ w1 ∧ w1 ≤ 2147483647 → 0 ≤ w2 ∧ w2 ≤ 242 → -2147483648 ≤ w3 ∧ w3 ≤ 2147483647 → 0 ≤ w4 ∧ w4 ≤ 242 → 0 ≤ w5 ∧ w5 ≤ 242 → ((w5) ≤ n) → 242 - w5 < (n12 : Int) → K 12 [some (vR 30 0), some (vI w1), some (vI w2), some (vI w3), some (vI w4), some (vI w5)] [] σ := by
    intro n12
    induction n12 with
    | zero => intro w1 w2 w3 w4 w5  f_w1 f_w2 f_w3 f_w4 f_w5 i0_12 hm  ; omega
    | succ n12 ih12 =>
      intro w1 w2 w3 w4 w5  f_w1 f_w2 f_w3 f_w4 f_w5 i0_12 hm12  
      refine r_iload hC dX6_like_12 rfl ?_
      refine r_aload_n hC dX6_like_14 rfl ?_
      refine z_getI (jz := 8) hM dX6_like_15 fl_RX6_105 rfl rfl rfl (fun v6 h_v6 o_v6 t_v6 => ?_)
      rw [(t_v6 (Or.inr (Or.inr (Or.inr ⟨rfl, rfl⟩)))).trans hn]
      clear t_v6
      refine r_icmp_ge (tgt := 62) hC dX6_like_18 rfl (fun h7 => ?_) (fun h7 => ?_)
      · refine r_aload_n hC dX6_like_62 rfl ?_
        refine z_getR hM dX6_like_63 fl_RX6_31 rfl rfl (vld_of (n := 1) rfl (by omega) (by omega)) ?_
        refine r_iconst hC dX6_like_66 rfl ?_
        refine r_iload_n hC dX6_like_67 rfl ?_
        refine z_iastU hM dX6_like_68 rfl (by omega) (by omega) (by simp [Un, Tb, DL, DF, DR, DX]) (by simp [Okv]) ?_
        refine r_aload_n hC dX6_like_69 rfl ?_
        refine z_getR hM dX6_like_70 fl_RX6_31 rfl rfl (vld_of (n := 1) rfl (by omega) (by omega)) ?_
        refine r_iconst hC dX6_like_73 rfl ?_
        refine r_iload_n hC dX6_like_74 rfl ?_
        refine z_iastU hM dX6_like_75 rfl (by omega) (by omega) (by simp [Un, Tb, DL, DF, DR, DX]) (by simp [Okv]) ?_
        refine r_aload_n hC dX6_like_76 rfl ?_
        refine z_getR hM dX6_like_77 fl_RX6_31 rfl rfl (vld_of (n := 1) rfl (by omega) (by omega)) ?_
        refine r_iconst hC dX6_like_80 rfl ?_
        refine r_iload_n hC dX6_like_81 rfl ?_
        refine z_iastU hM dX6_like_82 rfl (by omega) (by omega) (by simp [Un, Tb, DL, DF, DR, DX]) (by simp [Okv]) ?_
        refine r_aload_n hC dX6_like_83 rfl ?_
        refine z_getR hM dX6_like_84 fl_RX6_31 rfl rfl (vld_of (n := 1) rfl (by omega) (by omega)) ?_
        refine r_iconst hC dX6_like_87 rfl ?_
        refine r_aload_n hC dX6_like_88 rfl ?_
        refine r_iconst hC dX6_like_89 rfl ?_
        refine z_inv1 hM dX6_like_90 vl_RX6_170 rfl rfl rfl (Nat.le_of_ble_eq_true rfl) (Nat.le_of_ble_eq_true rfl) ?_
        refine qm_alikeFrom (n := n) (by omega) (by omega) hn (by omega) (fun v8 h_v8 => ?_)
        refine z_iastU hM dX6_like_93 rfl (by omega) (by omega) (by simp [Un, Tb, DL, DF, DR, DX]) (by simp [Okv]) ?_
        refine r_aload_n hC dX6_like_94 rfl ?_
        refine z_getR hM dX6_like_95 fl_RX6_31 rfl rfl (vld_of (n := 1) rfl (by omega) (by omega)) ?_
        refine r_iconst hC dX6_like_98 rfl ?_
        refine r_iload hC dX6_like_99 rfl ?_
        refine z_iastU hM dX6_like_101 rfl (by omega) (by omega) (by simp [Un, Tb, DL, DF, DR, DX]) (by simp [Okv]) ?_
        refine r_aload_n hC dX6_like_102 rfl ?_
        refine z_getR hM dX6_like_103 fl_RX6_31 rfl rfl (vld_of (n := 1) rfl (by omega) (by omega)) ?_
        refine r_iconst hC dX6_like_106 rfl ?_
        refine r_aload_n hC dX6_like_107 rfl ?_
        refine z_getR hM dX6_like_108 fl_RX6_28 rfl rfl (vld_of (n := 1) rfl (by omega) (by omega)) ?_
        refine r_iconst hC dX6_like_111 rfl ?_
        refine z_iald hM dX6_like_112 rfl (by omega) (by omega) (fun v9 h_v9 o_v9 t_v9 => ?_)
        clear t_v9
        refine z_iastU hM dX6_like_113 rfl (by omega) (by omega) (by simp [Un, Tb, DL, DF, DR, DX]) (by simp [Okv]) ?_
        refine r_aload_n hC dX6_like_114 rfl ?_
        refine z_getR hM dX6_like_115 fl_RX6_31 rfl rfl (vld_of (n := 1) rfl (by omega) (by omega)) ?_
        refine r_bipush hC dX6_like_118 rfl ?_
        refine r_aload_n hC dX6_like_120 rfl ?_
        refine z_getR hM dX6_like_121 fl_RX6_28 rfl rfl (vld_of (n := 1) rfl (by omega) (by omega)) ?_
        refine r_aload_n hC dX6_like_124 rfl ?_
        refine z_getI (jz := 8) hM dX6_like_125 fl_RX6_105 rfl rfl rfl (fun v10 h_v10 o_v10 t_v10 => ?_)
        rw [(t_v10 (Or.inr (Or.inr (Or.inr ⟨rfl, rfl⟩)))).trans hn]
        clear t_v10
        refine r_iconst hC dX6_like_128 rfl ?_
        refine r_isubE hC ((n - 1)) dX6_like_129 (by omega) (by unfold inR; omega) ?_
        refine z_iald hM dX6_like_130 rfl (by omega) (by omega) (fun v11 h_v11 o_v11 t_v11 => ?_)
        clear t_v11
        refine z_iastU hM dX6_like_131 rfl (by omega) (by omega) (by simp [Un, Tb, DL, DF, DR, DX]) (by simp [Okv]) ?_
        refine y_vret hK rfl dX6_like_132 ?_
        exact k
      · refine r_aload_n hC dX6_like_21 rfl ?_
        refine r_iload hC dX6_like_22 rfl ?_
        refine z_inv1 hM dX6_like_24 vl_RX6_170 rfl rfl rfl (Nat.le_of_ble_eq_true rfl) (Nat.le_of_ble_eq_true rfl) ?_
        refine qm_alikeFrom (n := n) (by omega) (by omega) hn (by omega) (fun v12 h_v12 => ?_)
        refine r_istore hC dX6_like_27 rfl ?_
        refine r_iincG hC dX6_like_29 rfl rfl (fun v13 h_v13 => ?_)
        refine r_iload hC dX6_like_32 rfl ?_
        refine r_iload_n hC dX6_like_34 rfl ?_
        have J52_16 : ∀ (w15 w16 : Int), -2147483648 ≤ w15 ∧ w15 ≤ 2147483647 → 1 ≤ w16 ∧ w16 ≤ 242 → K 52 [some (vR 30 0), some (vI v13), some (vI w16), some (vI w15), some (vI v12), some (vI w5)] [] σ := by
          intro w15 w16  f_w15 f_w16 
          refine r_iload hC dX6_like_52 rfl ?_
          refine r_iload hC dX6_like_54 rfl ?_
          refine r_iaddE hC ((w5 + v12)) dX6_like_56 (by omega) (by unfold inR; omega) ?_
          refine r_istore hC dX6_like_57 rfl ?_
          refine r_goto (tgt := 12) hC dX6_like_59 rfl ?_
          exact ih12 (v13) (w16) (w15) (v12) ((w5 + v12))  (by omega) (by omega) (by omega) (by omega) (by omega) (by omega) (by omega)  
        refine r_icmp_gt (tgt := 41) hC dX6_like_35 rfl (fun h14 => ?_) (fun h14 => ?_)
        · refine r_iload hC dX6_like_41 rfl ?_
          refine r_istore_n hC dX6_like_43 rfl ?_
          refine r_aload_n hC dX6_like_44 rfl ?_
          refine z_getR hM dX6_like_45 fl_RX6_28 rfl rfl (vld_of (n := 1) rfl (by omega) (by omega)) ?_
          refine r_iload hC dX6_like_48 rfl ?_
          refine z_iald hM dX6_like_50 rfl (by omega) (by omega) (fun v18 h_v18 o_v18 t_v18 => ?_)
          clear t_v18
          refine r_istore_n hC dX6_like_51 rfl ?_
          exact J52_16 (v18) (v12)  (by omega) (by omega) 
        · refine r_goto (tgt := 52) hC dX6_like_38 rfl ?_
          exact J52_16 (w3) (w2)  (by omega) (by omega) 
  exact L12 244 (0) (0) (0) (0) (0)  (by omega) (by omega) (by omega) (by omega) (by omega) (by omega) (by omega)  
theorem qm_goThrough {eb : Bool} {d : Nat} {P : Option Vl → Mm → Prop} {σ : Mm} {o n : Int} (b_n : 1 ≤ n ∧ n ≤ 242) (hn : σ 30 0 8 = n)  (k : P none σ) : WT (false, eb, true) (d + 3) 158 [vR 30 0, vI o] σ P := by
  refine WT_in fun K hK => ?_
  have hK : StpY (false, eb, true) cX6_goThrough RX6 (none) (WT (false, eb, true) (d + 2)) P K := hK
  have hM := hK.1
  have hC := hK.1.1
  show K 0 [some (vR 30 0), some (vI o)] [] σ
  refine r_rngz hC (fun g0 => ?_)
  have r_o : -2147483648 ≤ o ∧ o ≤ 2147483647 := inR_le (g0 (vI o) (by simp))
  refine r_iload_n hC dX6_goThrough_0 rfl ?_
  rcases (by omega : (o < 0 ∨ 8 < o) ∨ o = 0 ∨ o = 1 ∨ o = 2 ∨ o = 3 ∨ o = 4 ∨ o = 5 ∨ o = 6 ∨ o = 7 ∨ o = 8) with h1 | h1 | h1 | h1 | h1 | h1 | h1 | h1 | h1 | h1
  · refine r_tableOut (tgt := 115) hC dX6_goThrough_1 h1 rfl ?_
    refine r_aload_n hC dX6_goThrough_115 rfl ?_
    refine z_inv0 hM dX6_goThrough_116 vl_RX6_157 rfl rfl rfl (Nat.le_of_ble_eq_true rfl) (Nat.le_of_ble_eq_true rfl) ?_
    refine qm_multiply b_n hn ?_
    refine y_vret hK rfl dX6_goThrough_119 ?_
    exact k
  · refine r_tableIn (tgt := 52) (off := 51) hC dX6_goThrough_1 (by omega) (by omega) (by rw [h1]; rfl) rfl ?_
    refine r_aload_n hC dX6_goThrough_52 rfl ?_
    refine z_inv0 hM dX6_goThrough_53 vl_RX6_130 rfl rfl rfl (Nat.le_of_ble_eq_true rfl) (Nat.le_of_ble_eq_true rfl) ?_
    refine qm_greatest b_n hn ?_
    refine r_goto (tgt := 119) hC dX6_goThrough_56 rfl ?_
    refine y_vret hK rfl dX6_goThrough_119 ?_
    exact k
  · refine r_tableIn (tgt := 59) (off := 58) hC dX6_goThrough_1 (by omega) (by omega) (by rw [h1]; rfl) rfl ?_
    refine r_aload_n hC dX6_goThrough_59 rfl ?_
    refine z_inv0 hM dX6_goThrough_60 vl_RX6_133 rfl rfl rfl (Nat.le_of_ble_eq_true rfl) (Nat.le_of_ble_eq_true rfl) ?_
    refine qm_share b_n hn ?_
    refine r_goto (tgt := 119) hC dX6_goThrough_63 rfl ?_
    refine y_vret hK rfl dX6_goThrough_119 ?_
    exact k
  · refine r_tableIn (tgt := 66) (off := 65) hC dX6_goThrough_1 (by omega) (by omega) (by rw [h1]; rfl) rfl ?_
    refine r_aload_n hC dX6_goThrough_66 rfl ?_
    refine z_inv0 hM dX6_goThrough_67 vl_RX6_136 rfl rfl rfl (Nat.le_of_ble_eq_true rfl) (Nat.le_of_ble_eq_true rfl) ?_
    refine qm_line b_n hn ?_
    refine r_goto (tgt := 119) hC dX6_goThrough_70 rfl ?_
    refine y_vret hK rfl dX6_goThrough_119 ?_
    exact k
  · refine r_tableIn (tgt := 73) (off := 72) hC dX6_goThrough_1 (by omega) (by omega) (by rw [h1]; rfl) rfl ?_
    refine r_aload_n hC dX6_goThrough_73 rfl ?_
    refine z_inv0 hM dX6_goThrough_74 vl_RX6_139 rfl rfl rfl (Nat.le_of_ble_eq_true rfl) (Nat.le_of_ble_eq_true rfl) ?_
    refine qm_run b_n hn ?_
    refine r_goto (tgt := 119) hC dX6_goThrough_77 rfl ?_
    refine y_vret hK rfl dX6_goThrough_119 ?_
    exact k
  · refine r_tableIn (tgt := 80) (off := 79) hC dX6_goThrough_1 (by omega) (by omega) (by rw [h1]; rfl) rfl ?_
    refine r_aload_n hC dX6_goThrough_80 rfl ?_
    refine z_inv0 hM dX6_goThrough_81 vl_RX6_142 rfl rfl rfl (Nat.le_of_ble_eq_true rfl) (Nat.le_of_ble_eq_true rfl) ?_
    refine qm_send b_n hn ?_
    refine r_goto (tgt := 119) hC dX6_goThrough_84 rfl ?_
    refine y_vret hK rfl dX6_goThrough_119 ?_
    exact k
  · refine r_tableIn (tgt := 87) (off := 86) hC dX6_goThrough_1 (by omega) (by omega) (by rw [h1]; rfl) rfl ?_
    refine r_aload_n hC dX6_goThrough_87 rfl ?_
    refine z_inv0 hM dX6_goThrough_88 vl_RX6_145 rfl rfl rfl (Nat.le_of_ble_eq_true rfl) (Nat.le_of_ble_eq_true rfl) ?_
    refine qm_nest b_n hn ?_
    refine r_goto (tgt := 119) hC dX6_goThrough_91 rfl ?_
    refine y_vret hK rfl dX6_goThrough_119 ?_
    exact k
  · refine r_tableIn (tgt := 94) (off := 93) hC dX6_goThrough_1 (by omega) (by omega) (by rw [h1]; rfl) rfl ?_
    refine r_aload_n hC dX6_goThrough_94 rfl ?_
    refine z_inv0 hM dX6_goThrough_95 vl_RX6_148 rfl rfl rfl (Nat.le_of_ble_eq_true rfl) (Nat.le_of_ble_eq_true rfl) ?_
    refine qm_like b_n hn ?_
    refine r_goto (tgt := 119) hC dX6_goThrough_98 rfl ?_
    refine y_vret hK rfl dX6_goThrough_119 ?_
    exact k
  · refine r_tableIn (tgt := 101) (off := 100) hC dX6_goThrough_1 (by omega) (by omega) (by rw [h1]; rfl) rfl ?_
    refine r_aload_n hC dX6_goThrough_101 rfl ?_
    refine z_inv0 hM dX6_goThrough_102 vl_RX6_151 rfl rfl rfl (Nat.le_of_ble_eq_true rfl) (Nat.le_of_ble_eq_true rfl) ?_
    refine qm_steps b_n hn ?_
    refine r_goto (tgt := 119) hC dX6_goThrough_105 rfl ?_
    refine y_vret hK rfl dX6_goThrough_119 ?_
    exact k
  · refine r_tableIn (tgt := 108) (off := 107) hC dX6_goThrough_1 (by omega) (by omega) (by rw [h1]; rfl) rfl ?_
    refine r_aload_n hC dX6_goThrough_108 rfl ?_
    refine z_inv0 hM dX6_goThrough_109 vl_RX6_154 rfl rfl rfl (Nat.le_of_ble_eq_true rfl) (Nat.le_of_ble_eq_true rfl) ?_
    refine qm_spread b_n hn ?_
    refine r_goto (tgt := 119) hC dX6_goThrough_112 rfl ?_
    refine y_vret hK rfl dX6_goThrough_119 ?_
    exact k
theorem qm_comes {eb : Bool} {d : Nat} {P : Option Vl → Mm → Prop} {σ : Mm} {o w n : Int} (b_w : 0 ≤ w ∧ w ≤ 6) (b_n : 0 ≤ n ∧ n ≤ 242) (qg0 : σ 30 0 8 = n)  (k : ∀ r : Int, (-2147483648 ≤ r ∧ r ≤ 2147483647) → P (some (vI r)) σ) : WT (false, eb, true) (d + 4) 159 [vR 30 0, vI o, vI w] σ P := by
  refine WT_in fun K hK => ?_
  have hK : StpY (false, eb, true) cX6_comes RX6 (some .int) (WT (false, eb, true) (d + 3)) P K := hK
  have hM := hK.1
  have hC := hK.1.1
  show K 0 [some (vR 30 0), some (vI o), some (vI w)] [] σ
  refine r_rngz hC (fun g0 => ?_)
  have r_o : -2147483648 ≤ o ∧ o ≤ 2147483647 := inR_le (g0 (vI o) (by simp))
  refine r_aload_n hC dX6_comes_0 rfl ?_
  refine z_getI (jz := 8) hM dX6_comes_1 fl_RX6_105 rfl rfl rfl (fun v1 h_v1 o_v1 t_v1 => ?_)
  have e_v1 : n = v1 := ((t_v1 ((Or.inr (Or.inr (Or.inr ⟨rfl, rfl⟩))))).trans qg0).symm
  clear t_v1
  subst e_v1
  refine r_if_ne (tgt := 10) hC dX6_comes_4 rfl (fun h2 => ?_) (fun h2 => ?_)
  · refine r_aload_n hC dX6_comes_10 rfl ?_
    refine r_iload_n hC dX6_comes_11 rfl ?_
    refine z_inv1 hM dX6_comes_12 vl_RX6_161 rfl rfl rfl (Nat.le_of_ble_eq_true rfl) (Nat.le_of_ble_eq_true rfl) ?_
    refine qm_goThrough (n := n) (by omega) (by have hq := qg0; omega) ?_
    refine r_aload_n hC dX6_comes_15 rfl ?_
    refine z_getR hM dX6_comes_16 fl_RX6_31 rfl rfl (vld_of (n := 1) rfl (by omega) (by omega)) ?_
    refine r_iload_n hC dX6_comes_19 rfl ?_
    refine z_iald hM dX6_comes_20 rfl (by omega) (by omega) (fun v3 h_v3 o_v3 t_v3 => ?_)
    clear t_v3
    refine y_iret hK rfl dX6_comes_21 ?_
    exact k _ (by omega)
  · refine r_ldc hC dX6_comes_7 co_RX6_160 rfl ?_
    refine y_iret hK rfl dX6_comes_9 ?_
    exact k _ (by omega)
theorem qm_clearRow {eb : Bool} {d : Nat} {P : Option Vl → Mm → Prop} {σ : Mm} {n : Int} (qg0 : σ 30 0 8 = n)  (k : ∀ ρ : Mm, Gx (fun c x y => c = 37 ∨ c = 30 ∧ y = 8) σ ρ → ρ 30 0 8 = 0 → P none ρ) : WT (false, eb, true) (d + 1) 152 [vR 30 0] σ P := by
  refine WT_in fun K hK => ?_
  have hK : StpY (false, eb, true) cX6_clearRow RX6 (none) (WT (false, eb, true) (d + 0)) P K := hK
  have hM := hK.1
  have hC := hK.1.1
  show K 0 [some (vR 30 0)] [] σ
  refine r_aload_n hC dX6_clearRow_0 rfl ?_
  refine r_iconst hC dX6_clearRow_1 rfl ?_
  refine z_putIG (jz := 8) hM dX6_clearRow_2 fw_RX6_105 rfl rfl rfl ⟨Or.inr (by simp [DL]), Or.inr (by simp [DF])⟩ (by first | trivial | (simp only [Okv]; omega) | (simp [Okv]; try omega)) (fun ρ1 a_ρ1 q_ρ1 => ?_)
  refine y_vret hK rfl dX6_clearRow_5 ?_
  exact k _ ((Gx.rf).al a_ρ1 (by first | (simp; done) | omega | (simp; omega))) (by have hq := q_ρ1; omega)
theorem qm_put {eb : Bool} {d : Nat} {P : Option Vl → Mm → Prop} {σ : Mm} {v n : Int} (b_n : 0 ≤ n ∧ n ≤ 241) (qg0 : σ 30 0 8 = n)  (k : ∀ ρ : Mm, Gx (fun c x y => c = 37 ∨ c = 30 ∧ y = 8) σ ρ → ρ 30 0 8 = n + 1 → P none ρ) : WT (false, eb, true) (d + 1) 153 [vR 30 0, vI v] σ P := by
  refine WT_in fun K hK => ?_
  have hK : StpY (false, eb, true) cX6_put RX6 (none) (WT (false, eb, true) (d + 0)) P K := hK
  have hM := hK.1
  have hC := hK.1.1
  show K 0 [some (vR 30 0), some (vI v)] [] σ
  refine r_rngz hC (fun g0 => ?_)
  have r_v : -2147483648 ≤ v ∧ v ≤ 2147483647 := inR_le (g0 (vI v) (by simp))
  refine r_aload_n hC dX6_put_0 rfl ?_
  refine z_getR hM dX6_put_1 fl_RX6_28 rfl rfl (vld_of (n := 1) rfl (by omega) (by omega)) ?_
  refine r_aload_n hC dX6_put_4 rfl ?_
  refine z_getI (jz := 8) hM dX6_put_5 fl_RX6_105 rfl rfl rfl (fun v1 h_v1 o_v1 t_v1 => ?_)
  have e_v1 : n = v1 := ((t_v1 ((Or.inr (Or.inr (Or.inr ⟨rfl, rfl⟩))))).trans qg0).symm
  clear t_v1
  subst e_v1
  refine r_iload_n hC dX6_put_8 rfl ?_
  refine z_iastG hM dX6_put_9 rfl (by omega) (by omega) ⟨Or.inr (by simp [DL]), Or.inr (by simp [DF])⟩ trivial (fun ρ2 a_ρ2 q_ρ2 => ?_)
  refine r_aload_n hC dX6_put_10 rfl ?_
  refine r_dup hC dX6_put_11 rfl ?_
  refine z_getI (jz := 8) hM dX6_put_12 fl_RX6_105 rfl rfl rfl (fun v3 h_v3 o_v3 t_v3 => ?_)
  have e_v3 : n = v3 := ((t_v3 ((Or.inr (Or.inr (Or.inr ⟨rfl, rfl⟩))))).trans ((a_ρ2 _ _ _ (by omega)).trans qg0)).symm
  clear t_v3
  subst e_v3
  refine r_iconst hC dX6_put_15 rfl ?_
  refine r_iaddE hC ((n + 1)) dX6_put_16 (by omega) (by unfold inR; omega) ?_
  refine z_putIG (jz := 8) hM dX6_put_17 fw_RX6_105 rfl rfl rfl ⟨Or.inr (by simp [DL]), Or.inr (by simp [DF])⟩ (by first | trivial | (simp only [Okv]; omega) | (simp [Okv]; try omega)) (fun ρ4 a_ρ4 q_ρ4 => ?_)
  refine y_vret hK rfl dX6_put_20 ?_
  exact k _ (((Gx.rf).al a_ρ2 (by first | (simp; done) | omega | (simp; omega))).al a_ρ4 (by first | (simp; done) | omega | (simp; omega))) (by have hq := q_ρ4; omega)
theorem qm_putFrom {eb : Bool} {d : Nat} {P : Option Vl → Mm → Prop} {σ : Mm} {l f z n : Int} (b_l : 0 ≤ l ∧ l ≤ 7) (b_f : 0 ≤ f ∧ f ≤ 121) (b_z : -2147483648 ≤ z ∧ z ≤ 120) (b_n : 0 ≤ n ∧ n ≤ 242) (qg0 : σ 30 0 8 = n) (hs : f ≤ z → n + (z - f + 1) ≤ 242)  (k : ∀ ρ : Mm, Gx (fun c x y => c = 37 ∨ c = 30 ∧ y = 8) σ ρ → ((f ≤ z → ρ 30 0 8 = n + (z - f + 1)) ∧ (z < f → ρ 30 0 8 = n)) → P none ρ) : WT (false, eb, true) (d + 2) 154 [vR 30 0, vI l, vI f, vI z] σ P := by
  refine WT_in fun K hK => ?_
  have hK : StpY (false, eb, true) cX6_putFrom RX6 (none) (WT (false, eb, true) (d + 1)) P K := hK
  have hM := hK.1
  have hC := hK.1.1
  show K 0 [some (vR 30 0), some (vI l), some (vI f), some (vI z), none] [] σ
  refine r_iload_n hC dX6_putFrom_0 rfl ?_
  refine r_istore hC dX6_putFrom_1 rfl ?_
  have L3 : ∀ (n3 : Nat) (w1 w2 : Int) (ρ3 : Mm), 0 ≤ w1 ∧ w1 ≤ 121 → 0 ≤ w2 ∧ w2 ≤ 242 → ((w2) = n + (w1) - f) → ((w1) ≤ z + 1 ∨ (w1) = f) → (f ≤ (w1)) → 121 - w1 < (n3 : Int) → Gx (fun c x y => c = 37 ∨ c = 30 ∧ y = 8) σ ρ3 → ρ3 30 0 8 = w2 → K 3 [some (vR 30 0), some (vI l), some (vI f), some (vI z), some (vI w1)] [] ρ3 := by
    intro n3
    induction n3 with
    | zero => intro w1 w2 ρ3 f_w1 f_w2 i0_3 i1_3 i2_3 hm g_ρ3 q0_ρ3 ; omega
    | succ n3 ih3 =>
      intro w1 w2 ρ3 f_w1 f_w2 i0_3 i1_3 i2_3 hm3 g_ρ3 q0_ρ3 
      refine r_iload hC dX6_putFrom_3 rfl ?_
      refine r_iload_n hC dX6_putFrom_5 rfl ?_
      refine r_icmp_gt (tgt := 31) hC dX6_putFrom_6 rfl (fun h4 => ?_) (fun h4 => ?_)
      · refine y_vret hK rfl dX6_putFrom_31 ?_
        exact k _ (g_ρ3) (by have hq := q0_ρ3; omega)
      · refine r_aload_n hC dX6_putFrom_9 rfl ?_
        refine r_aload_n hC dX6_putFrom_10 rfl ?_
        refine z_getR hM dX6_putFrom_11 fl_RX6_16 rfl rfl (vld_of (n := 1) rfl (by omega) (by omega)) ?_
        refine r_bipush hC dX6_putFrom_14 rfl ?_
        refine r_iload_n hC dX6_putFrom_16 rfl ?_
        refine r_imulE hC ((121 * l)) dX6_putFrom_17 (by omega) (by unfold inR; omega) ?_
        refine r_iload hC dX6_putFrom_18 rfl ?_
        refine r_iaddE hC (((121 * l) + w1)) dX6_putFrom_20 (by omega) (by unfold inR; omega) ?_
        refine z_iald hM dX6_putFrom_21 rfl (by omega) (by omega) (fun v5 h_v5 o_v5 t_v5 => ?_)
        clear t_v5
        refine z_inv1 hM dX6_putFrom_22 vl_RX6_109 rfl rfl rfl (Nat.le_of_ble_eq_true rfl) (Nat.le_of_ble_eq_true rfl) ?_
        refine qm_put (n := w2) (by omega) (by have hq := q0_ρ3; omega) (fun ρ6 g_ρ6 q_ρ6 => ?_)
        refine r_iincE hC ((w1 + 1)) dX6_putFrom_25 rfl rfl (by omega) (by unfold inR; omega) ?_
        refine r_goto (tgt := 3) hC dX6_putFrom_28 rfl ?_
        exact ih3 ((w1 + 1)) ((w2 + 1)) ρ6 (by omega) (by omega) (by omega) (by omega) (by omega) (by omega) (Gx.gx (g_ρ3) g_ρ6 (fun _ _ _ h => h)) (by have hq := q_ρ6; omega) 
  exact L3 123 (f) (n) σ (by omega) (by omega) (by omega) (by omega) (by omega) (by omega) (Gx.rf) (by have hq := qg0; omega) 
theorem qm_layAll {eb : Bool} {d : Nat} {P : Option Vl → Mm → Prop} {σ : Mm} {l n : Int} (b_l : 0 ≤ l ∧ l ≤ 7) (qg0 : σ 30 0 8 = n)  (k : ∀ ρ : Mm, Gx (fun c x y => c = 37 ∨ c = 30 ∧ y = 8) σ ρ → 0 ≤ ρ 30 0 8 ∧ ρ 30 0 8 ≤ 121 → (True → ρ 30 0 8 = σ 31 0 (22 * l + 5)) → P none ρ) : WT (false, eb, true) (d + 3) 155 [vR 30 0, vI l] σ P := by
  refine WT_in fun K hK => ?_
  have hK : StpY (false, eb, true) cX6_layAll RX6 (none) (WT (false, eb, true) (d + 2)) P K := hK
  have hM := hK.1
  have hC := hK.1.1
  show K 0 [some (vR 30 0), some (vI l)] [] σ
  refine r_aload_n hC dX6_layAll_0 rfl ?_
  refine z_inv0 hM dX6_layAll_1 vl_RX6_113 rfl rfl rfl (Nat.le_of_ble_eq_true rfl) (Nat.le_of_ble_eq_true rfl) ?_
  refine qm_clearRow (n := n) (by have hq := qg0; omega) (fun ρ1 g_ρ1 q_ρ1 => ?_)
  refine r_aload_n hC dX6_layAll_4 rfl ?_
  refine r_iload_n hC dX6_layAll_5 rfl ?_
  refine r_iconst hC dX6_layAll_6 rfl ?_
  refine r_aload_n hC dX6_layAll_7 rfl ?_
  refine r_iload_n hC dX6_layAll_8 rfl ?_
  refine z_inv1 hM dX6_layAll_9 vl_RX6_116 rfl rfl rfl (Nat.le_of_ble_eq_true rfl) (Nat.le_of_ble_eq_true rfl) ?_
  refine qm_heldOf (by omega) (fun v2 h_v2 t_v2 => ?_)
  refine r_iconst hC dX6_layAll_12 rfl ?_
  refine r_isubE hC ((v2 - 1)) dX6_layAll_13 (by omega) (by unfold inR; omega) ?_
  refine z_inv3 hM dX6_layAll_14 vl_RX6_120 rfl rfl rfl (Nat.le_of_ble_eq_true rfl) (Nat.le_of_ble_eq_true rfl) ?_
  refine qm_putFrom (n := 0) (by omega) (by omega) (by omega) (by omega) (by have hq := q_ρ1; omega) (by omega) (fun ρ3 g_ρ3 q_ρ3 => ?_)
  obtain ⟨n4, e_n4⟩ : ∃ v, ρ3 30 0 8 = v := ⟨_, rfl⟩
  have b_n4 : (0 ≤ (v2 - 1) → n4 = 0 + ((v2 - 1) - 0 + 1)) ∧ ((v2 - 1) < 0 → n4 = 0) ∧ 0 ≤ n4 ∧ n4 ≤ 242 := by have hq := q_ρ3; omega
  replace q_ρ3 := e_n4
  refine y_vret hK rfl dX6_layAll_17 ?_
  exact k _ (Gx.gx (Gx.gx (Gx.rf) g_ρ1 (fun _ _ _ h => h)) g_ρ3 (fun _ _ _ h => h)) (by have hq := q_ρ3; omega) (fun he => by have hq := q_ρ3; have hr := t_v2 he; have hs := (g_ρ1 31 0 (22 * l + 5) (by simp)); omega)
theorem qm_comesFrom_S {eb : Bool} {d : Nat} {P : Option Vl → Mm → Prop} {σ : Mm} {l f z w n : Int} (b_l : 0 ≤ l ∧ l ≤ 7) (b_f : 0 ≤ f ∧ f ≤ 121) (b_z : -2147483648 ≤ z ∧ z ≤ 120) (b_w : 0 ≤ w ∧ w ≤ 6) (qg0 : σ 30 0 8 = n)  (k : ∀ (r : Int) (ρ : Mm), Gx (fun c x y => c = 37 ∨ c = 30 ∧ y = 8) σ ρ → (-2147483648 ≤ r ∧ r ≤ 2147483647) → P (some (vI r)) ρ) : WT (false, eb, true) (d + 5) 213 [vR 30 0, vI l, vI f, vI z, vI w] σ P := by
  refine WT_in fun K hK => ?_
  have hK : StpY (false, eb, true) cX6_comesFrom RX6 (some .int) (WT (false, eb, true) (d + 4)) P K := hK
  have hM := hK.1
  have hC := hK.1.1
  show K 0 [some (vR 30 0), some (vI l), some (vI f), some (vI z), some (vI w)] [] σ
  refine r_aload_n hC dX6_comesFrom_0 rfl ?_
  refine z_inv0 hM dX6_comesFrom_1 vl_RX6_113 rfl rfl rfl (Nat.le_of_ble_eq_true rfl) (Nat.le_of_ble_eq_true rfl) ?_
  refine qm_clearRow (n := n) (by have hq := qg0; omega) (fun ρ1 g_ρ1 q_ρ1 => ?_)
  refine r_aload_n hC dX6_comesFrom_4 rfl ?_
  refine r_iload_n hC dX6_comesFrom_5 rfl ?_
  refine r_iload_n hC dX6_comesFrom_6 rfl ?_
  refine r_iload_n hC dX6_comesFrom_7 rfl ?_
  refine z_inv3 hM dX6_comesFrom_8 vl_RX6_120 rfl rfl rfl (Nat.le_of_ble_eq_true rfl) (Nat.le_of_ble_eq_true rfl) ?_
  refine qm_putFrom (n := 0) (by omega) (by omega) (by omega) (by omega) (by have hq := q_ρ1; omega) (by omega) (fun ρ2 g_ρ2 q_ρ2 => ?_)
  obtain ⟨n3, e_n3⟩ : ∃ v, ρ2 30 0 8 = v := ⟨_, rfl⟩
  have b_n3 : (f ≤ z → n3 = 0 + (z - f + 1)) ∧ (z < f → n3 = 0) ∧ 0 ≤ n3 ∧ n3 ≤ 242 := by have hq := q_ρ2; omega
  replace q_ρ2 := e_n3
  refine r_aload_n hC dX6_comesFrom_11 rfl ?_
  refine r_aload_n hC dX6_comesFrom_12 rfl ?_
  refine r_iload_n hC dX6_comesFrom_13 rfl ?_
  refine r_iconst hC dX6_comesFrom_14 rfl ?_
  refine z_inv2 hM dX6_comesFrom_15 vl_RX6_80 rfl rfl rfl (Nat.le_of_ble_eq_true rfl) (Nat.le_of_ble_eq_true rfl) ?_
  refine qm_of (by omega) (by omega) (fun v4 h_v4 h5_v4 h0_v4 t_v4 => ?_)
  clear t_v4
  refine r_iload hC dX6_comesFrom_18 rfl ?_
  refine z_inv2 hM dX6_comesFrom_20 vl_RX6_197 rfl rfl rfl (Nat.le_of_ble_eq_true rfl) (Nat.le_of_ble_eq_true rfl) ?_
  refine qm_comes (n := n3) (by omega) (by omega) (by have hq := q_ρ2; omega) (fun v5 h_v5 => ?_)
  refine y_iret hK rfl dX6_comesFrom_23 ?_
  exact k _ _ (Gx.gx (Gx.gx (Gx.rf) g_ρ1 (fun _ _ _ h => h)) g_ρ2 (fun _ _ _ h => h)) (by omega)
theorem qm_comesFrom {eb : Bool} {d : Nat} {P : Option Vl → Mm → Prop} {σ : Mm} {l f z w : Int} (b_l : 0 ≤ l ∧ l ≤ 7) (b_f : 0 ≤ f ∧ f ≤ 121) (b_z : -2147483648 ≤ z ∧ z ≤ 120) (b_w : 0 ≤ w ∧ w ≤ 6) (k : ∀ r : Int, -2147483648 ≤ r ∧ r ≤ 2147483647 → P (some (vI r)) σ) : WT (false, eb, false) (d + 5) 213 [vR 30 0, vI l, vI f, vI z, vI w] σ P := by
  refine WT_loose (false, eb, true) (fun h => h) (fun h => h) (fun c j q => ?_) (fun ρ hL_ hF hT hO => ?_)
  · rcases q with q | q | q | q
    · exact Or.inl q
    · cases q.1
    · exact Or.inr (Or.inr (Or.inl q))
    · cases q.1
  · refine qm_comesFrom_S b_l b_f b_z b_w (qg0 := rfl) (fun r ρ2 g hr => ⟨σ, k r hr, fun h => Or.inl h, fun h => Or.inl h, fun c i j q => ?_⟩)
    refine (g c i j ?_).trans (hT c i j q)
    rintro (rfl | ⟨rfl, rfl⟩)
    all_goals
      rcases q with q | q | q | q
      · exact q
      · exact q.2
      · rcases q.2 with z | z <;> exact z
      · cases q.1
theorem qm_comesWithout_S {eb : Bool} {d : Nat} {P : Option Vl → Mm → Prop} {σ : Mm} {l x w n : Int} (b_l : 0 ≤ l ∧ l ≤ 7) (b_x : 0 ≤ x ∧ x ≤ 120) (b_w : 0 ≤ w ∧ w ≤ 6) (qg0 : σ 30 0 8 = n)  (k : ∀ (r : Int) (ρ : Mm), Gx (fun c x y => c = 37 ∨ c = 30 ∧ y = 8) σ ρ → (-2147483648 ≤ r ∧ r ≤ 2147483647) → P (some (vI r)) ρ) : WT (false, eb, true) (d + 5) 224 [vR 30 0, vI l, vI x, vI w] σ P := by
  refine WT_in fun K hK => ?_
  have hK : StpY (false, eb, true) cX6_comesWithout RX6 (some .int) (WT (false, eb, true) (d + 4)) P K := hK
  have hM := hK.1
  have hC := hK.1.1
  show K 0 [some (vR 30 0), some (vI l), some (vI x), some (vI w)] [] σ
  refine r_aload_n hC dX6_comesWithout_0 rfl ?_
  refine z_inv0 hM dX6_comesWithout_1 vl_RX6_113 rfl rfl rfl (Nat.le_of_ble_eq_true rfl) (Nat.le_of_ble_eq_true rfl) ?_
  refine qm_clearRow (n := n) (by have hq := qg0; omega) (fun ρ1 g_ρ1 q_ρ1 => ?_)
  refine r_aload_n hC dX6_comesWithout_4 rfl ?_
  refine r_iload_n hC dX6_comesWithout_5 rfl ?_
  refine r_iconst hC dX6_comesWithout_6 rfl ?_
  refine r_iload_n hC dX6_comesWithout_7 rfl ?_
  refine r_iconst hC dX6_comesWithout_8 rfl ?_
  refine r_isubE hC ((x - 1)) dX6_comesWithout_9 (by omega) (by unfold inR; omega) ?_
  refine z_inv3 hM dX6_comesWithout_10 vl_RX6_120 rfl rfl rfl (Nat.le_of_ble_eq_true rfl) (Nat.le_of_ble_eq_true rfl) ?_
  refine qm_putFrom (n := 0) (by omega) (by omega) (by omega) (by omega) (by have hq := q_ρ1; omega) (by omega) (fun ρ2 g_ρ2 q_ρ2 => ?_)
  obtain ⟨n3, e_n3⟩ : ∃ v, ρ2 30 0 8 = v := ⟨_, rfl⟩
  have b_n3 : (0 ≤ (x - 1) → n3 = 0 + ((x - 1) - 0 + 1)) ∧ ((x - 1) < 0 → n3 = 0) ∧ 0 ≤ n3 ∧ n3 ≤ 242 := by have hq := q_ρ2; omega
  replace q_ρ2 := e_n3
  refine r_aload_n hC dX6_comesWithout_13 rfl ?_
  refine r_iload_n hC dX6_comesWithout_14 rfl ?_
  refine r_iload_n hC dX6_comesWithout_15 rfl ?_
  refine r_iconst hC dX6_comesWithout_16 rfl ?_
  refine r_iaddE hC ((x + 1)) dX6_comesWithout_17 (by omega) (by unfold inR; omega) ?_
  refine r_aload_n hC dX6_comesWithout_18 rfl ?_
  refine r_iload_n hC dX6_comesWithout_19 rfl ?_
  refine z_inv1 hM dX6_comesWithout_20 vl_RX6_116 rfl rfl rfl (Nat.le_of_ble_eq_true rfl) (Nat.le_of_ble_eq_true rfl) ?_
  refine qm_heldOf (by omega) (fun v4 h_v4 t_v4 => ?_)
  clear t_v4
  refine r_iconst hC dX6_comesWithout_23 rfl ?_
  refine r_isubE hC ((v4 - 1)) dX6_comesWithout_24 (by omega) (by unfold inR; omega) ?_
  refine z_inv3 hM dX6_comesWithout_25 vl_RX6_120 rfl rfl rfl (Nat.le_of_ble_eq_true rfl) (Nat.le_of_ble_eq_true rfl) ?_
  refine qm_putFrom (n := n3) (by omega) (by omega) (by omega) (by omega) (by have hq := q_ρ2; omega) (by omega) (fun ρ5 g_ρ5 q_ρ5 => ?_)
  obtain ⟨n6, e_n6⟩ : ∃ v, ρ5 30 0 8 = v := ⟨_, rfl⟩
  have b_n6 : ((x + 1) ≤ (v4 - 1) → n6 = n3 + ((v4 - 1) - (x + 1) + 1)) ∧ ((v4 - 1) < (x + 1) → n6 = n3) ∧ 0 ≤ n6 ∧ n6 ≤ 242 := by have hq := q_ρ5; omega
  replace q_ρ5 := e_n6
  refine r_aload_n hC dX6_comesWithout_28 rfl ?_
  refine r_aload_n hC dX6_comesWithout_29 rfl ?_
  refine r_iload_n hC dX6_comesWithout_30 rfl ?_
  refine r_iconst hC dX6_comesWithout_31 rfl ?_
  refine z_inv2 hM dX6_comesWithout_32 vl_RX6_80 rfl rfl rfl (Nat.le_of_ble_eq_true rfl) (Nat.le_of_ble_eq_true rfl) ?_
  refine qm_of (by omega) (by omega) (fun v7 h_v7 h5_v7 h0_v7 t_v7 => ?_)
  clear t_v7
  refine r_iload_n hC dX6_comesWithout_35 rfl ?_
  refine z_inv2 hM dX6_comesWithout_36 vl_RX6_197 rfl rfl rfl (Nat.le_of_ble_eq_true rfl) (Nat.le_of_ble_eq_true rfl) ?_
  refine qm_comes (n := n6) (by omega) (by omega) (by have hq := q_ρ5; omega) (fun v8 h_v8 => ?_)
  refine y_iret hK rfl dX6_comesWithout_39 ?_
  exact k _ _ (Gx.gx (Gx.gx (Gx.gx (Gx.rf) g_ρ1 (fun _ _ _ h => h)) g_ρ2 (fun _ _ _ h => h)) g_ρ5 (fun _ _ _ h => h)) (by omega)
theorem qm_comesWithout {eb : Bool} {d : Nat} {P : Option Vl → Mm → Prop} {σ : Mm} {l x w : Int} (b_l : 0 ≤ l ∧ l ≤ 7) (b_x : 0 ≤ x ∧ x ≤ 120) (b_w : 0 ≤ w ∧ w ≤ 6) (k : ∀ r : Int, -2147483648 ≤ r ∧ r ≤ 2147483647 → P (some (vI r)) σ) : WT (false, eb, false) (d + 5) 224 [vR 30 0, vI l, vI x, vI w] σ P := by
  refine WT_loose (false, eb, true) (fun h => h) (fun h => h) (fun c j q => ?_) (fun ρ hL_ hF hT hO => ?_)
  · rcases q with q | q | q | q
    · exact Or.inl q
    · cases q.1
    · exact Or.inr (Or.inr (Or.inl q))
    · cases q.1
  · refine qm_comesWithout_S b_l b_x b_w (qg0 := rfl) (fun r ρ2 g hr => ⟨σ, k r hr, fun h => Or.inl h, fun h => Or.inl h, fun c i j q => ?_⟩)
    refine (g c i j ?_).trans (hT c i j q)
    rintro (rfl | ⟨rfl, rfl⟩)
    all_goals
      rcases q with q | q | q | q
      · exact q
      · exact q.2
      · rcases q.2 with z | z <;> exact z
      · cases q.1
-- the reference: questions
theorem qm_placeOf {eb : Bool} {d : Nat} {P : Option Vl → Mm → Prop} {σ : Mm} {l t : Int} (b_l : 0 ≤ l ∧ l ≤ 7)  (k : ∀ r : Int, 0 ≤ r ∧ r ≤ 121 → P (some (vI r)) σ) : WT (false, eb, false) (d + 3) 191 [vR 30 0, vI l, vI t] σ P := by
  refine WT_in fun K hK => ?_
  have hK : StpY (false, eb, false) cX6_placeOf RX6 (some .int) (WT (false, eb, false) (d + 2)) P K := hK
  have hM := hK.1
  have hC := hK.1.1
  show K 0 [some (vR 30 0), some (vI l), some (vI t), none] [] σ
  refine r_rngz hC (fun g0 => ?_)
  have r_t : -2147483648 ≤ t ∧ t ≤ 2147483647 := inR_le (g0 (vI t) (by simp))
  refine r_iconst hC dX6_placeOf_0 rfl ?_
  refine r_istore_n hC dX6_placeOf_1 rfl ?_
  have L2 : ∀ (n2 : Nat) (w1 : Int), 0 ≤ w1 ∧ w1 ≤ 121 → 121 - w1 < (n2 : Int) → K 2 [some (vR 30 0), some (vI l), some (vI t), some (vI w1)] [] σ := by
    intro n2
    induction n2 with
    | zero => intro w1  f_w1  hm  ; omega
    | succ n2 ih2 =>
      intro w1  f_w1  hm2  
      refine r_iload_n hC dX6_placeOf_2 rfl ?_
      refine r_aload_n hC dX6_placeOf_3 rfl ?_
      refine r_iload_n hC dX6_placeOf_4 rfl ?_
      refine z_inv1 hM dX6_placeOf_5 vl_RX6_116 rfl rfl rfl (Nat.le_of_ble_eq_true rfl) (Nat.le_of_ble_eq_true rfl) ?_
      refine qm_heldOf (by omega) (fun v2 h_v2 t_v2 => ?_)
      clear t_v2
      have J32_3 : K 32 [some (vR 30 0), some (vI l), some (vI t), some (vI w1)] [] σ := by
        refine r_iload_n hC dX6_placeOf_32 rfl ?_
        refine y_iret hK rfl dX6_placeOf_33 ?_
        exact k _ (by omega)
      refine r_icmp_ge (tgt := 32) hC dX6_placeOf_8 rfl (fun h3 => ?_) (fun h3 => ?_)
      · exact J32_3
      · refine r_aload_n hC dX6_placeOf_11 rfl ?_
        refine z_getR hM dX6_placeOf_12 fl_RX6_13 rfl rfl (vld_of (n := 1) rfl (by omega) (by omega)) ?_
        refine r_bipush hC dX6_placeOf_15 rfl ?_
        refine r_iload_n hC dX6_placeOf_17 rfl ?_
        refine r_imulE hC ((121 * l)) dX6_placeOf_18 (by omega) (by unfold inR; omega) ?_
        refine r_iload_n hC dX6_placeOf_19 rfl ?_
        refine r_iaddE hC (((121 * l) + w1)) dX6_placeOf_20 (by omega) (by unfold inR; omega) ?_
        refine z_iald hM dX6_placeOf_21 rfl (by omega) (by omega) (fun v5 h_v5 o_v5 t_v5 => ?_)
        clear t_v5
        refine r_iload_n hC dX6_placeOf_22 rfl ?_
        refine r_icmp_gt (tgt := 32) hC dX6_placeOf_23 rfl (fun h6 => ?_) (fun h6 => ?_)
        · exact J32_3
        · refine r_iincE hC ((w1 + 1)) dX6_placeOf_26 rfl rfl (by omega) (by unfold inR; omega) ?_
          refine r_goto (tgt := 2) hC dX6_placeOf_29 rfl ?_
          exact ih2 ((w1 + 1))  (by omega)  (by omega)  
  exact L2 123 (0)  (by omega)  (by omega)  
theorem qm_aheadOf {eb : Bool} {d : Nat} {P : Option Vl → Mm → Prop} {σ : Mm} {l t : Int} (b_l : 0 ≤ l ∧ l ≤ 7)  (k : ∀ r : Int, 0 ≤ r ∧ r ≤ 121 → P (some (vI r)) σ) : WT (false, eb, false) (d + 4) 216 [vR 30 0, vI l, vI t] σ P := by
  refine WT_in fun K hK => ?_
  have hK : StpY (false, eb, false) cX6_aheadOf RX6 (some .int) (WT (false, eb, false) (d + 3)) P K := hK
  have hM := hK.1
  have hC := hK.1.1
  show K 0 [some (vR 30 0), some (vI l), some (vI t)] [] σ
  refine r_rngz hC (fun g0 => ?_)
  have r_t : -2147483648 ≤ t ∧ t ≤ 2147483647 := inR_le (g0 (vI t) (by simp))
  refine r_iload_n hC dX6_aheadOf_0 rfl ?_
  refine r_ldc hC dX6_aheadOf_1 co_RX6_160 rfl ?_
  have J18_2 : ∀ (w2 : Int), 0 ≤ w2 ∧ w2 ≤ 121 → K 18 [some (vR 30 0), some (vI l), some (vI t)] [vI w2] σ := by
    intro w2  f_w2 
    refine y_iret hK rfl dX6_aheadOf_18 ?_
    exact k _ (by omega)
  refine r_icmp_ne (tgt := 10) hC dX6_aheadOf_3 rfl (fun h1 => ?_) (fun h1 => ?_)
  · refine r_aload_n hC dX6_aheadOf_10 rfl ?_
    refine r_iload_n hC dX6_aheadOf_11 rfl ?_
    refine r_iload_n hC dX6_aheadOf_12 rfl ?_
    refine r_iconst hC dX6_aheadOf_13 rfl ?_
    refine r_isubE hC ((t - 1)) dX6_aheadOf_14 (by omega) (by unfold inR; omega) ?_
    refine z_inv2 hM dX6_aheadOf_15 vl_RX6_224 rfl rfl rfl (Nat.le_of_ble_eq_true rfl) (Nat.le_of_ble_eq_true rfl) ?_
    refine qm_placeOf (by omega) (fun v4 h_v4 => ?_)
    exact J18_2 (v4)  (by omega) 
  · refine r_iconst hC dX6_aheadOf_6 rfl ?_
    refine r_goto (tgt := 18) hC dX6_aheadOf_7 rfl ?_
    exact J18_2 (0)  (by omega) 
theorem qm_total {eb : Bool} {d : Nat} {P : Option Vl → Mm → Prop} {σ : Mm} {l w : Int}   (k : ∀ r : Int, -2147483648 ≤ r ∧ r ≤ 2147483647 → P (some (vI r)) σ) : WT (false, eb, false) (d + 6) 214 [vR 30 0, vI l, vI w] σ P := by
  refine WT_in fun K hK => ?_
  have hK : StpY (false, eb, false) cX6_total RX6 (some .int) (WT (false, eb, false) (d + 5)) P K := hK
  have hM := hK.1
  have hC := hK.1.1
  show K 0 [some (vR 30 0), some (vI l), some (vI w)] [] σ
  refine r_rngz hC (fun g0 => ?_)
  have r_l : -2147483648 ≤ l ∧ l ≤ 2147483647 := inR_le (g0 (vI l) (by simp))
  have r_w : -2147483648 ≤ w ∧ w ≤ 2147483647 := inR_le (g0 (vI w) (by simp))
  refine r_aload_n hC dX6_total_0 rfl ?_
  refine r_iload_n hC dX6_total_1 rfl ?_
  refine r_iload_n hC dX6_total_2 rfl ?_
  refine z_inv2 hM dX6_total_3 vl_RX6_207 rfl rfl rfl (Nat.le_of_ble_eq_true rfl) (Nat.le_of_ble_eq_true rfl) ?_
  refine qm_isNumber (fun h1 => ?_) ?_
  · refine r_if_eq (tgt := 26) hC dX6_total_6 rfl (fun h2 => by omega) (fun h2 => ?_)
    refine r_aload_n hC dX6_total_9 rfl ?_
    refine r_iload_n hC dX6_total_10 rfl ?_
    refine r_iconst hC dX6_total_11 rfl ?_
    refine r_aload_n hC dX6_total_12 rfl ?_
    refine r_iload_n hC dX6_total_13 rfl ?_
    refine z_inv1 hM dX6_total_14 vl_RX6_116 rfl rfl rfl (Nat.le_of_ble_eq_true rfl) (Nat.le_of_ble_eq_true rfl) ?_
    refine qm_heldOf (by omega) (fun v3 h_v3 t_v3 => ?_)
    clear t_v3
    refine r_iconst hC dX6_total_17 rfl ?_
    refine r_isubE hC ((v3 - 1)) dX6_total_18 (by omega) (by unfold inR; omega) ?_
    refine r_iload_n hC dX6_total_19 rfl ?_
    refine z_inv4 hM dX6_total_20 vl_RX6_243 rfl rfl rfl (Nat.le_of_ble_eq_true rfl) (Nat.le_of_ble_eq_true rfl) ?_
    refine qm_comesFrom (by omega) (by omega) (by omega) (by omega) (fun v4 h_v4 => ?_)
    refine r_goto (tgt := 28) hC dX6_total_23 rfl ?_
    refine y_iret hK rfl dX6_total_28 ?_
    exact k _ (by omega)
  · refine r_if_eq (tgt := 26) hC dX6_total_6 rfl (fun h5 => ?_) (fun h5 => by omega)
    refine r_ldc hC dX6_total_26 co_RX6_160 rfl ?_
    refine y_iret hK rfl dX6_total_28 ?_
    exact k _ (by omega)
theorem qm_part {eb : Bool} {d : Nat} {P : Option Vl → Mm → Prop} {σ : Mm} {l f z w : Int}   (k : ∀ r : Int, -2147483648 ≤ r ∧ r ≤ 2147483647 → P (some (vI r)) σ) : WT (false, eb, false) (d + 6) 215 [vR 30 0, vI l, vI f, vI z, vI w] σ P := by
  refine WT_in fun K hK => ?_
  have hK : StpY (false, eb, false) cX6_part RX6 (some .int) (WT (false, eb, false) (d + 5)) P K := hK
  have hM := hK.1
  have hC := hK.1.1
  show K 0 [some (vR 30 0), some (vI l), some (vI f), some (vI z), some (vI w)] [] σ
  refine r_rngz hC (fun g0 => ?_)
  have r_l : -2147483648 ≤ l ∧ l ≤ 2147483647 := inR_le (g0 (vI l) (by simp))
  have r_f : -2147483648 ≤ f ∧ f ≤ 2147483647 := inR_le (g0 (vI f) (by simp))
  have r_z : -2147483648 ≤ z ∧ z ≤ 2147483647 := inR_le (g0 (vI z) (by simp))
  have r_w : -2147483648 ≤ w ∧ w ≤ 2147483647 := inR_le (g0 (vI w) (by simp))
  refine r_aload_n hC dX6_part_0 rfl ?_
  refine r_iload_n hC dX6_part_1 rfl ?_
  refine r_iload hC dX6_part_2 rfl ?_
  refine z_inv2 hM dX6_part_4 vl_RX6_207 rfl rfl rfl (Nat.le_of_ble_eq_true rfl) (Nat.le_of_ble_eq_true rfl) ?_
  refine qm_isNumber (fun h1 => ?_) ?_
  · refine r_if_eq (tgt := 33) hC dX6_part_7 rfl (fun h2 => by omega) (fun h2 => ?_)
    refine r_aload_n hC dX6_part_10 rfl ?_
    refine r_iload_n hC dX6_part_11 rfl ?_
    refine r_iload_n hC dX6_part_12 rfl ?_
    refine z_inv2 hM dX6_part_13 vl_RX6_262 rfl rfl rfl (Nat.le_of_ble_eq_true rfl) (Nat.le_of_ble_eq_true rfl) ?_
    refine qm_isEvent (fun h3 x_h3 => ?_) ?_
    · refine r_if_eq (tgt := 33) hC dX6_part_16 rfl (fun h4 => by omega) (fun h4 => ?_)
      refine r_aload_n hC dX6_part_19 rfl ?_
      refine r_iload_n hC dX6_part_20 rfl ?_
      refine r_iload_n hC dX6_part_21 rfl ?_
      refine z_inv2 hM dX6_part_22 vl_RX6_262 rfl rfl rfl (Nat.le_of_ble_eq_true rfl) (Nat.le_of_ble_eq_true rfl) ?_
      refine qm_isEvent (fun h5 x_h5 => ?_) ?_
      · refine r_if_eq (tgt := 33) hC dX6_part_25 rfl (fun h6 => by omega) (fun h6 => ?_)
        refine r_iload_n hC dX6_part_28 rfl ?_
        refine r_iload_n hC dX6_part_29 rfl ?_
        refine r_icmp_le (tgt := 36) hC dX6_part_30 rfl (fun h7 => ?_) (fun h7 => ?_)
        · refine r_aload_n hC dX6_part_36 rfl ?_
          refine r_iload_n hC dX6_part_37 rfl ?_
          refine r_iload_n hC dX6_part_38 rfl ?_
          refine r_iload_n hC dX6_part_39 rfl ?_
          refine r_iload hC dX6_part_40 rfl ?_
          refine z_inv4 hM dX6_part_42 vl_RX6_243 rfl rfl rfl (Nat.le_of_ble_eq_true rfl) (Nat.le_of_ble_eq_true rfl) ?_
          refine qm_comesFrom (by omega) (by omega) (by omega) (by omega) (fun v8 h_v8 => ?_)
          refine y_iret hK rfl dX6_part_45 ?_
          exact k _ (by omega)
        · refine r_ldc hC dX6_part_33 co_RX6_160 rfl ?_
          refine y_iret hK rfl dX6_part_35 ?_
          exact k _ (by omega)
      · refine r_if_eq (tgt := 33) hC dX6_part_25 rfl (fun h9 => ?_) (fun h9 => by omega)
        refine r_ldc hC dX6_part_33 co_RX6_160 rfl ?_
        refine y_iret hK rfl dX6_part_35 ?_
        exact k _ (by omega)
    · refine r_if_eq (tgt := 33) hC dX6_part_16 rfl (fun h10 => ?_) (fun h10 => by omega)
      refine r_ldc hC dX6_part_33 co_RX6_160 rfl ?_
      refine y_iret hK rfl dX6_part_35 ?_
      exact k _ (by omega)
  · refine r_if_eq (tgt := 33) hC dX6_part_7 rfl (fun h11 => ?_) (fun h11 => by omega)
    refine r_ldc hC dX6_part_33 co_RX6_160 rfl ?_
    refine y_iret hK rfl dX6_part_35 ?_
    exact k _ (by omega)
theorem qm_during {eb : Bool} {d : Nat} {P : Option Vl → Mm → Prop} {σ : Mm} {l f z w : Int}   (k : ∀ r : Int, -2147483648 ≤ r ∧ r ≤ 2147483647 → P (some (vI r)) σ) : WT (false, eb, false) (d + 6) 217 [vR 30 0, vI l, vI f, vI z, vI w] σ P := by
  refine WT_in fun K hK => ?_
  have hK : StpY (false, eb, false) cX6_during RX6 (some .int) (WT (false, eb, false) (d + 5)) P K := hK
  have hM := hK.1
  have hC := hK.1.1
  show K 0 [some (vR 30 0), some (vI l), some (vI f), some (vI z), some (vI w), none, none] [] σ
  refine r_rngz hC (fun g0 => ?_)
  have r_l : -2147483648 ≤ l ∧ l ≤ 2147483647 := inR_le (g0 (vI l) (by simp))
  have r_f : -2147483648 ≤ f ∧ f ≤ 2147483647 := inR_le (g0 (vI f) (by simp))
  have r_z : -2147483648 ≤ z ∧ z ≤ 2147483647 := inR_le (g0 (vI z) (by simp))
  have r_w : -2147483648 ≤ w ∧ w ≤ 2147483647 := inR_le (g0 (vI w) (by simp))
  refine r_aload_n hC dX6_during_0 rfl ?_
  refine r_iload_n hC dX6_during_1 rfl ?_
  refine r_iload hC dX6_during_2 rfl ?_
  refine z_inv2 hM dX6_during_4 vl_RX6_207 rfl rfl rfl (Nat.le_of_ble_eq_true rfl) (Nat.le_of_ble_eq_true rfl) ?_
  refine qm_isNumber (fun h1 => ?_) ?_
  · refine r_if_ne (tgt := 13) hC dX6_during_7 rfl (fun h2 => ?_) (fun h2 => by omega)
    refine r_aload_n hC dX6_during_13 rfl ?_
    refine r_iload_n hC dX6_during_14 rfl ?_
    refine r_iload_n hC dX6_during_15 rfl ?_
    refine z_inv2 hM dX6_during_16 vl_RX6_265 rfl rfl rfl (Nat.le_of_ble_eq_true rfl) (Nat.le_of_ble_eq_true rfl) ?_
    refine qm_aheadOf (by omega) (fun v3 h_v3 => ?_)
    refine r_istore hC dX6_during_19 rfl ?_
    refine r_aload_n hC dX6_during_21 rfl ?_
    refine r_iload_n hC dX6_during_22 rfl ?_
    refine r_iload_n hC dX6_during_23 rfl ?_
    refine z_inv2 hM dX6_during_24 vl_RX6_224 rfl rfl rfl (Nat.le_of_ble_eq_true rfl) (Nat.le_of_ble_eq_true rfl) ?_
    refine qm_placeOf (by omega) (fun v4 h_v4 => ?_)
    refine r_iconst hC dX6_during_27 rfl ?_
    refine r_isubE hC ((v4 - 1)) dX6_during_28 (by omega) (by unfold inR; omega) ?_
    refine r_istore hC dX6_during_29 rfl ?_
    refine r_aload_n hC dX6_during_31 rfl ?_
    refine r_iload_n hC dX6_during_32 rfl ?_
    refine r_iload hC dX6_during_33 rfl ?_
    refine r_iload hC dX6_during_35 rfl ?_
    refine r_iload hC dX6_during_37 rfl ?_
    refine z_inv4 hM dX6_during_39 vl_RX6_243 rfl rfl rfl (Nat.le_of_ble_eq_true rfl) (Nat.le_of_ble_eq_true rfl) ?_
    refine qm_comesFrom (by omega) (by omega) (by omega) (by omega) (fun v5 h_v5 => ?_)
    refine y_iret hK rfl dX6_during_42 ?_
    exact k _ (by omega)
  · refine r_if_ne (tgt := 13) hC dX6_during_7 rfl (fun h6 => by omega) (fun h6 => ?_)
    refine r_ldc hC dX6_during_10 co_RX6_160 rfl ?_
    refine y_iret hK rfl dX6_during_12 ?_
    exact k _ (by omega)
theorem qm_many {eb : Bool} {d : Nat} {P : Option Vl → Mm → Prop} {σ : Mm} {l f z : Int}   (k : ∀ r : Int, -1 ≤ r ∧ r ≤ 121 → P (some (vI r)) σ) : WT (false, eb, false) (d + 5) 218 [vR 30 0, vI l, vI f, vI z] σ P := by
  refine WT_in fun K hK => ?_
  have hK : StpY (false, eb, false) cX6_many RX6 (some .int) (WT (false, eb, false) (d + 4)) P K := hK
  have hM := hK.1
  have hC := hK.1.1
  show K 0 [some (vR 30 0), some (vI l), some (vI f), some (vI z), none] [] σ
  refine r_rngz hC (fun g0 => ?_)
  have r_l : -2147483648 ≤ l ∧ l ≤ 2147483647 := inR_le (g0 (vI l) (by simp))
  have r_f : -2147483648 ≤ f ∧ f ≤ 2147483647 := inR_le (g0 (vI f) (by simp))
  have r_z : -2147483648 ≤ z ∧ z ≤ 2147483647 := inR_le (g0 (vI z) (by simp))
  refine r_aload_n hC dX6_many_0 rfl ?_
  refine r_iload_n hC dX6_many_1 rfl ?_
  refine z_inv1 hM dX6_many_2 vl_RX6_124 rfl rfl rfl (Nat.le_of_ble_eq_true rfl) (Nat.le_of_ble_eq_true rfl) ?_
  refine qm_isLane (fun h1 => ?_) ?_
  · refine r_if_ne (tgt := 10) hC dX6_many_5 rfl (fun h2 => ?_) (fun h2 => by omega)
    refine r_aload_n hC dX6_many_10 rfl ?_
    refine r_iload_n hC dX6_many_11 rfl ?_
    refine r_iload_n hC dX6_many_12 rfl ?_
    refine z_inv2 hM dX6_many_13 vl_RX6_224 rfl rfl rfl (Nat.le_of_ble_eq_true rfl) (Nat.le_of_ble_eq_true rfl) ?_
    refine qm_placeOf (by omega) (fun v3 h_v3 => ?_)
    refine r_aload_n hC dX6_many_16 rfl ?_
    refine r_iload_n hC dX6_many_17 rfl ?_
    refine r_iload_n hC dX6_many_18 rfl ?_
    refine z_inv2 hM dX6_many_19 vl_RX6_265 rfl rfl rfl (Nat.le_of_ble_eq_true rfl) (Nat.le_of_ble_eq_true rfl) ?_
    refine qm_aheadOf (by omega) (fun v4 h_v4 => ?_)
    refine r_isubE hC ((v3 - v4)) dX6_many_22 (by omega) (by unfold inR; omega) ?_
    refine r_istore hC dX6_many_23 rfl ?_
    refine r_iload hC dX6_many_25 rfl ?_
    have J36_6 : ∀ (w6 : Int), 0 ≤ w6 ∧ w6 ≤ 121 → K 36 [some (vR 30 0), some (vI l), some (vI f), some (vI z), some (vI (v3 - v4))] [vI w6] σ := by
      intro w6  f_w6 
      refine y_iret hK rfl dX6_many_36 ?_
      exact k _ (by omega)
    refine r_if_ge (tgt := 34) hC dX6_many_27 rfl (fun h5 => ?_) (fun h5 => ?_)
    · refine r_iload hC dX6_many_34 rfl ?_
      exact J36_6 ((v3 - v4))  (by omega) 
    · refine r_iconst hC dX6_many_30 rfl ?_
      refine r_goto (tgt := 36) hC dX6_many_31 rfl ?_
      exact J36_6 (0)  (by omega) 
  · refine r_if_ne (tgt := 10) hC dX6_many_5 rfl (fun h8 => by omega) (fun h8 => ?_)
    refine r_iconst hC dX6_many_8 rfl ?_
    refine y_iret hK rfl dX6_many_9 ?_
    exact k _ (by omega)
theorem qm_reach {eb : Bool} {d : Nat} {P : Option Vl → Mm → Prop} {σ : Mm} {l w b : Int}   (k : ∀ r : Int, -1 ≤ r ∧ r ≤ 121 → P (some (vI r)) σ) : WT (false, eb, false) (d + 6) 219 [vR 30 0, vI l, vI w, vI b] σ P := by
  refine WT_in fun K hK => ?_
  have hK : StpY (false, eb, false) cX6_reach RX6 (some .int) (WT (false, eb, false) (d + 5)) P K := hK
  have hM := hK.1
  have hC := hK.1.1
  show K 0 [some (vR 30 0), some (vI l), some (vI w), some (vI b), none] [] σ
  refine r_rngz hC (fun g0 => ?_)
  have r_l : -2147483648 ≤ l ∧ l ≤ 2147483647 := inR_le (g0 (vI l) (by simp))
  have r_w : -2147483648 ≤ w ∧ w ≤ 2147483647 := inR_le (g0 (vI w) (by simp))
  have r_b : -2147483648 ≤ b ∧ b ≤ 2147483647 := inR_le (g0 (vI b) (by simp))
  refine r_aload_n hC dX6_reach_0 rfl ?_
  refine r_iload_n hC dX6_reach_1 rfl ?_
  refine r_iload_n hC dX6_reach_2 rfl ?_
  refine z_inv2 hM dX6_reach_3 vl_RX6_207 rfl rfl rfl (Nat.le_of_ble_eq_true rfl) (Nat.le_of_ble_eq_true rfl) ?_
  refine qm_isNumber (fun h1 => ?_) ?_
  · refine r_if_ne (tgt := 11) hC dX6_reach_6 rfl (fun h2 => ?_) (fun h2 => by omega)
    refine r_iconst hC dX6_reach_11 rfl ?_
    refine r_istore hC dX6_reach_12 rfl ?_
    have L14 : ∀ (n14 : Nat) (w3 : Int), 1 ≤ w3 ∧ w3 ≤ 122 → 122 - w3 < (n14 : Int) → K 14 [some (vR 30 0), some (vI l), some (vI w), some (vI b), some (vI w3)] [] σ := by
      intro n14
      induction n14 with
      | zero => intro w3  f_w3  hm  ; omega
      | succ n14 ih14 =>
        intro w3  f_w3  hm14  
        refine r_iload hC dX6_reach_14 rfl ?_
        refine r_aload_n hC dX6_reach_16 rfl ?_
        refine r_iload_n hC dX6_reach_17 rfl ?_
        refine z_inv1 hM dX6_reach_18 vl_RX6_116 rfl rfl rfl (Nat.le_of_ble_eq_true rfl) (Nat.le_of_ble_eq_true rfl) ?_
        refine qm_heldOf (by omega) (fun v4 h_v4 t_v4 => ?_)
        clear t_v4
        refine r_icmp_gt (tgt := 51) hC dX6_reach_21 rfl (fun h5 => ?_) (fun h5 => ?_)
        · refine r_iconst hC dX6_reach_51 rfl ?_
          refine y_iret hK rfl dX6_reach_52 ?_
          exact k _ (by omega)
        · refine r_aload_n hC dX6_reach_24 rfl ?_
          refine r_iload_n hC dX6_reach_25 rfl ?_
          refine r_iconst hC dX6_reach_26 rfl ?_
          refine r_iload hC dX6_reach_27 rfl ?_
          refine r_iconst hC dX6_reach_29 rfl ?_
          refine r_isubE hC ((w3 - 1)) dX6_reach_30 (by omega) (by unfold inR; omega) ?_
          refine r_iload_n hC dX6_reach_31 rfl ?_
          refine z_inv4 hM dX6_reach_32 vl_RX6_243 rfl rfl rfl (Nat.le_of_ble_eq_true rfl) (Nat.le_of_ble_eq_true rfl) ?_
          refine qm_comesFrom (by omega) (by omega) (by omega) (by omega) (fun v6 h_v6 => ?_)
          refine r_iload_n hC dX6_reach_35 rfl ?_
          refine z_ins2 hM dX6_reach_36 tl_RX6_200 rfl (Nat.le_of_ble_eq_true rfl) (Nat.le_of_ble_eq_true rfl) ?_
          refine qm_isReached (fun v7 h_v7 => ?_)
          refine r_if_eq (tgt := 45) hC dX6_reach_39 rfl (fun h8 => ?_) (fun h8 => ?_)
          · refine r_iincE hC ((w3 + 1)) dX6_reach_45 rfl rfl (by omega) (by unfold inR; omega) ?_
            refine r_goto (tgt := 14) hC dX6_reach_48 rfl ?_
            exact ih14 ((w3 + 1))  (by omega)  (by omega)  
          · refine r_iload hC dX6_reach_42 rfl ?_
            refine y_iret hK rfl dX6_reach_44 ?_
            exact k _ (by omega)
    exact L14 123 (1)  (by omega)  (by omega)  
  · refine r_if_ne (tgt := 11) hC dX6_reach_6 rfl (fun h9 => by omega) (fun h9 => ?_)
    refine r_iconst hC dX6_reach_9 rfl ?_
    refine y_iret hK rfl dX6_reach_10 ?_
    exact k _ (by omega)
theorem qm_reachBack_S {eb : Bool} {d : Nat} {P : Option Vl → Mm → Prop} {σ : Mm} {l w b hl : Int} (qg0 : σ 31 0 ((22 * l) + 5) = hl) (hL : HM σ)  (k : ∀ r : Int, -1 ≤ r ∧ r ≤ 120 → P (some (vI r)) σ) : WT (false, eb, false) (d + 6) 220 [vR 30 0, vI l, vI w, vI b] σ P := by
  refine WT_in fun K hK => ?_
  have hK : StpY (false, eb, false) cX6_reachBack RX6 (some .int) (WT (false, eb, false) (d + 5)) P K := hK
  have hM := hK.1
  have hC := hK.1.1
  show K 0 [some (vR 30 0), some (vI l), some (vI w), some (vI b), none] [] σ
  refine r_rngz hC (fun g0 => ?_)
  have r_l : -2147483648 ≤ l ∧ l ≤ 2147483647 := inR_le (g0 (vI l) (by simp))
  have r_w : -2147483648 ≤ w ∧ w ≤ 2147483647 := inR_le (g0 (vI w) (by simp))
  have r_b : -2147483648 ≤ b ∧ b ≤ 2147483647 := inR_le (g0 (vI b) (by simp))
  refine r_aload_n hC dX6_reachBack_0 rfl ?_
  refine r_iload_n hC dX6_reachBack_1 rfl ?_
  refine r_iload_n hC dX6_reachBack_2 rfl ?_
  refine z_inv2 hM dX6_reachBack_3 vl_RX6_207 rfl rfl rfl (Nat.le_of_ble_eq_true rfl) (Nat.le_of_ble_eq_true rfl) ?_
  refine qm_isNumber (fun h1 => ?_) ?_
  · have b0_h1 : 0 ≤ hl ∧ hl ≤ 120 := by have := HM.h31 hL (l := l) (by omega) (by omega); have := qg0; omega
    refine r_if_ne (tgt := 11) hC dX6_reachBack_6 rfl (fun h2 => ?_) (fun h2 => by omega)
    refine r_iconst hC dX6_reachBack_11 rfl ?_
    refine r_istore hC dX6_reachBack_12 rfl ?_
    have L14 : ∀ (n14 : Nat) (w3 : Int), 1 ≤ w3 ∧ w3 ≤ 121 → 121 - w3 < (n14 : Int) → K 14 [some (vR 30 0), some (vI l), some (vI w), some (vI b), some (vI w3)] [] σ := by
      intro n14
      induction n14 with
      | zero => intro w3  f_w3  hm  ; omega
      | succ n14 ih14 =>
        intro w3  f_w3  hm14  
        refine r_iload hC dX6_reachBack_14 rfl ?_
        refine r_aload_n hC dX6_reachBack_16 rfl ?_
        refine r_iload_n hC dX6_reachBack_17 rfl ?_
        refine z_inv1 hM dX6_reachBack_18 vl_RX6_116 rfl rfl rfl (Nat.le_of_ble_eq_true rfl) (Nat.le_of_ble_eq_true rfl) ?_
        refine qm_heldOf (by omega) (fun v4 h_v4 t_v4 => ?_)
        have e_v4 : hl = v4 := ((t_v4 trivial).trans qg0).symm
        clear t_v4
        subst e_v4
        refine r_icmp_gt (tgt := 61) hC dX6_reachBack_21 rfl (fun h5 => ?_) (fun h5 => ?_)
        · refine r_iconst hC dX6_reachBack_61 rfl ?_
          refine y_iret hK rfl dX6_reachBack_62 ?_
          exact k _ (by omega)
        · refine r_aload_n hC dX6_reachBack_24 rfl ?_
          refine r_iload_n hC dX6_reachBack_25 rfl ?_
          refine r_aload_n hC dX6_reachBack_26 rfl ?_
          refine r_iload_n hC dX6_reachBack_27 rfl ?_
          refine z_inv1 hM dX6_reachBack_28 vl_RX6_116 rfl rfl rfl (Nat.le_of_ble_eq_true rfl) (Nat.le_of_ble_eq_true rfl) ?_
          refine qm_heldOf (by omega) (fun v6 h_v6 t_v6 => ?_)
          have e_v6 : hl = v6 := ((t_v6 trivial).trans qg0).symm
          clear t_v6
          subst e_v6
          refine r_iload hC dX6_reachBack_31 rfl ?_
          refine r_isubE hC ((hl - w3)) dX6_reachBack_33 (by omega) (by unfold inR; omega) ?_
          refine r_aload_n hC dX6_reachBack_34 rfl ?_
          refine r_iload_n hC dX6_reachBack_35 rfl ?_
          refine z_inv1 hM dX6_reachBack_36 vl_RX6_116 rfl rfl rfl (Nat.le_of_ble_eq_true rfl) (Nat.le_of_ble_eq_true rfl) ?_
          refine qm_heldOf (by omega) (fun v7 h_v7 t_v7 => ?_)
          have e_v7 : hl = v7 := ((t_v7 trivial).trans qg0).symm
          clear t_v7
          subst e_v7
          refine r_iconst hC dX6_reachBack_39 rfl ?_
          refine r_isubE hC ((hl - 1)) dX6_reachBack_40 (by omega) (by unfold inR; omega) ?_
          refine r_iload_n hC dX6_reachBack_41 rfl ?_
          refine z_inv4 hM dX6_reachBack_42 vl_RX6_243 rfl rfl rfl (Nat.le_of_ble_eq_true rfl) (Nat.le_of_ble_eq_true rfl) ?_
          refine qm_comesFrom (by omega) (by omega) (by omega) (by omega) (fun v8 h_v8 => ?_)
          refine r_iload_n hC dX6_reachBack_45 rfl ?_
          refine z_ins2 hM dX6_reachBack_46 tl_RX6_200 rfl (Nat.le_of_ble_eq_true rfl) (Nat.le_of_ble_eq_true rfl) ?_
          refine qm_isReached (fun v9 h_v9 => ?_)
          refine r_if_eq (tgt := 55) hC dX6_reachBack_49 rfl (fun h10 => ?_) (fun h10 => ?_)
          · refine r_iincE hC ((w3 + 1)) dX6_reachBack_55 rfl rfl (by omega) (by unfold inR; omega) ?_
            refine r_goto (tgt := 14) hC dX6_reachBack_58 rfl ?_
            exact ih14 ((w3 + 1))  (by omega)  (by omega)  
          · refine r_iload hC dX6_reachBack_52 rfl ?_
            refine y_iret hK rfl dX6_reachBack_54 ?_
            exact k _ (by omega)
    exact L14 122 (1)  (by omega)  (by omega)  
  · refine r_if_ne (tgt := 11) hC dX6_reachBack_6 rfl (fun h11 => by omega) (fun h11 => ?_)
    refine r_iconst hC dX6_reachBack_9 rfl ?_
    refine y_iret hK rfl dX6_reachBack_10 ?_
    exact k _ (by omega)
theorem qm_bestOf {eb : Bool} {d : Nat} {P : Option Vl → Mm → Prop} {σ : Mm} {l m w : Int}   (k0 : P (some (vI (-1))) σ) (k1 : ∀ r : Int, 0 ≤ l ∧ l ≤ 3 ∧ 1 ≤ m ∧ 0 ≤ r ∧ r + m ≤ 121 ∧ 0 ≤ w ∧ w ≤ 6 → P (some (vI r)) σ) : WT (false, eb, false) (d + 6) 221 [vR 30 0, vI l, vI m, vI w] σ P := by
  refine WT_in fun K hK => ?_
  have hK : StpY (false, eb, false) cX6_bestOf RX6 (some .int) (WT (false, eb, false) (d + 5)) P K := hK
  have hM := hK.1
  have hC := hK.1.1
  show K 0 [some (vR 30 0), some (vI l), some (vI m), some (vI w), none, none, none, none] [] σ
  refine r_rngz hC (fun g0 => ?_)
  have r_l : -2147483648 ≤ l ∧ l ≤ 2147483647 := inR_le (g0 (vI l) (by simp))
  have r_m : -2147483648 ≤ m ∧ m ≤ 2147483647 := inR_le (g0 (vI m) (by simp))
  have r_w : -2147483648 ≤ w ∧ w ≤ 2147483647 := inR_le (g0 (vI w) (by simp))
  refine r_aload_n hC dX6_bestOf_0 rfl ?_
  refine r_iload_n hC dX6_bestOf_1 rfl ?_
  refine r_iload_n hC dX6_bestOf_2 rfl ?_
  refine z_inv2 hM dX6_bestOf_3 vl_RX6_207 rfl rfl rfl (Nat.le_of_ble_eq_true rfl) (Nat.le_of_ble_eq_true rfl) ?_
  refine qm_isNumber (fun h1 => ?_) ?_
  · refine r_if_eq (tgt := 22) hC dX6_bestOf_6 rfl (fun h2 => by omega) (fun h2 => ?_)
    refine r_iload_n hC dX6_bestOf_9 rfl ?_
    refine r_iconst hC dX6_bestOf_10 rfl ?_
    refine r_aload_n hC dX6_bestOf_11 rfl ?_
    refine r_iload_n hC dX6_bestOf_12 rfl ?_
    refine z_inv1 hM dX6_bestOf_13 vl_RX6_116 rfl rfl rfl (Nat.le_of_ble_eq_true rfl) (Nat.le_of_ble_eq_true rfl) ?_
    refine qm_heldOf (by omega) (fun v3 h_v3 t_v3 => ?_)
    clear t_v3
    refine z_ins3 hM dX6_bestOf_16 tl_RX6_76 rfl (Nat.le_of_ble_eq_true rfl) (Nat.le_of_ble_eq_true rfl) ?_
    refine qm_isIn (fun h5 => ?_) (fun h5 => ?_)
    · refine r_if_ne (tgt := 24) hC dX6_bestOf_19 rfl (fun h6 => ?_) (fun h6 => by omega)
      refine r_iconst hC dX6_bestOf_24 rfl ?_
      refine r_istore hC dX6_bestOf_25 rfl ?_
      refine r_aload_n hC dX6_bestOf_27 rfl ?_
      refine r_iload_n hC dX6_bestOf_28 rfl ?_
      refine r_iconst hC dX6_bestOf_29 rfl ?_
      refine r_iload_n hC dX6_bestOf_30 rfl ?_
      refine r_iconst hC dX6_bestOf_31 rfl ?_
      refine r_isubE hC ((m - 1)) dX6_bestOf_32 (by omega) (by unfold inR; omega) ?_
      refine r_iload_n hC dX6_bestOf_33 rfl ?_
      refine z_inv4 hM dX6_bestOf_34 vl_RX6_243 rfl rfl rfl (Nat.le_of_ble_eq_true rfl) (Nat.le_of_ble_eq_true rfl) ?_
      refine qm_comesFrom (by omega) (by omega) (by omega) (by omega) (fun v7 h_v7 => ?_)
      refine r_istore hC dX6_bestOf_37 rfl ?_
      refine r_iconst hC dX6_bestOf_39 rfl ?_
      refine r_istore hC dX6_bestOf_40 rfl ?_
      have L42 : ∀ (n42 : Nat) (w8 w9 w10 : Int), 0 ≤ w8 ∧ w8 ≤ 120 → -2147483648 ≤ w9 ∧ w9 ≤ 2147483647 → 1 ≤ w10 ∧ w10 ≤ 121 → ((w8) + m ≤ 121) → 121 - w10 < (n42 : Int) → K 42 [some (vR 30 0), some (vI l), some (vI m), some (vI w), some (vI w8), some (vI w9), some (vI w10), none] [] σ := by
        intro n42
        induction n42 with
        | zero => intro w8 w9 w10  f_w8 f_w9 f_w10 i0_42 hm  ; omega
        | succ n42 ih42 =>
          intro w8 w9 w10  f_w8 f_w9 f_w10 i0_42 hm42  
          refine r_iload hC dX6_bestOf_42 rfl ?_
          refine r_iload_n hC dX6_bestOf_44 rfl ?_
          refine r_iaddE hC ((w10 + m)) dX6_bestOf_45 (by omega) (by unfold inR; omega) ?_
          refine r_aload_n hC dX6_bestOf_46 rfl ?_
          refine r_iload_n hC dX6_bestOf_47 rfl ?_
          refine z_inv1 hM dX6_bestOf_48 vl_RX6_116 rfl rfl rfl (Nat.le_of_ble_eq_true rfl) (Nat.le_of_ble_eq_true rfl) ?_
          refine qm_heldOf (by omega) (fun v11 h_v11 t_v11 => ?_)
          clear t_v11
          refine r_icmp_gt (tgt := 94) hC dX6_bestOf_51 rfl (fun h12 => ?_) (fun h12 => ?_)
          · refine r_iload hC dX6_bestOf_94 rfl ?_
            refine y_iret hK rfl dX6_bestOf_96 ?_
            exact k1 _ (by omega)
          · refine r_aload_n hC dX6_bestOf_54 rfl ?_
            refine r_iload_n hC dX6_bestOf_55 rfl ?_
            refine r_iload hC dX6_bestOf_56 rfl ?_
            refine r_iload hC dX6_bestOf_58 rfl ?_
            refine r_iload_n hC dX6_bestOf_60 rfl ?_
            refine r_iaddE hC ((w10 + m)) dX6_bestOf_61 (by omega) (by unfold inR; omega) ?_
            refine r_iconst hC dX6_bestOf_62 rfl ?_
            refine r_isubE hC (((w10 + m) - 1)) dX6_bestOf_63 (by omega) (by unfold inR; omega) ?_
            refine r_iload_n hC dX6_bestOf_64 rfl ?_
            refine z_inv4 hM dX6_bestOf_65 vl_RX6_243 rfl rfl rfl (Nat.le_of_ble_eq_true rfl) (Nat.le_of_ble_eq_true rfl) ?_
            refine qm_comesFrom (by omega) (by omega) (by omega) (by omega) (fun v13 h_v13 => ?_)
            refine r_istore hC dX6_bestOf_68 rfl ?_
            refine r_iload hC dX6_bestOf_70 rfl ?_
            refine r_iload hC dX6_bestOf_72 rfl ?_
            refine r_icmp_gt (tgt := 80) hC dX6_bestOf_74 rfl (fun h14 => ?_) (fun h14 => ?_)
            · refine r_iload hC dX6_bestOf_80 rfl ?_
              refine r_istore hC dX6_bestOf_82 rfl ?_
              refine r_iload hC dX6_bestOf_84 rfl ?_
              refine r_istore hC dX6_bestOf_86 rfl ?_
              refine r_iincE hC ((w10 + 1)) dX6_bestOf_88 rfl rfl (by omega) (by unfold inR; omega) ?_
              show K _ [_, _, _, _, _, _, _, _] _ _
              refine r_goto (tgt := 42) hC dX6_bestOf_91 rfl ?_
              refine r_forget hC (ls2 := [some (vR 30 0), some (vI l), some (vI m), some (vI w), some (vI w10), some (vI v13), some (vI (w10 + 1)), none]) (lsub_some (lsub_some (lsub_some (lsub_some (lsub_some (lsub_some (lsub_some (lsub_none lsub_nil)))))))) ?_
              exact ih42 (w10) (v13) ((w10 + 1))  (by omega) (by omega) (by omega) (by omega) (by omega)  
            · refine r_goto (tgt := 88) hC dX6_bestOf_77 rfl ?_
              refine r_iincE hC ((w10 + 1)) dX6_bestOf_88 rfl rfl (by omega) (by unfold inR; omega) ?_
              refine r_goto (tgt := 42) hC dX6_bestOf_91 rfl ?_
              refine r_forget hC (ls2 := [some (vR 30 0), some (vI l), some (vI m), some (vI w), some (vI w8), some (vI w9), some (vI (w10 + 1)), none]) (lsub_some (lsub_some (lsub_some (lsub_some (lsub_some (lsub_some (lsub_some (lsub_none lsub_nil)))))))) ?_
              exact ih42 (w8) (w9) ((w10 + 1))  (by omega) (by omega) (by omega) (by omega) (by omega)  
      exact L42 123 (0) (v7) (1)  (by omega) (by omega) (by omega) (by omega) (by omega)  
    · refine r_if_ne (tgt := 24) hC dX6_bestOf_19 rfl (fun h15 => by omega) (fun h15 => ?_)
      refine r_iconst hC dX6_bestOf_22 rfl ?_
      refine y_iret hK rfl dX6_bestOf_23 ?_
      exact k0
  · refine r_if_eq (tgt := 22) hC dX6_bestOf_6 rfl (fun h16 => ?_) (fun h16 => by omega)
    refine r_iconst hC dX6_bestOf_22 rfl ?_
    refine y_iret hK rfl dX6_bestOf_23 ?_
    exact k0
theorem qm_peakAt {eb : Bool} {d : Nat} {P : Option Vl → Mm → Prop} {σ : Mm} {l m w : Int}   (k : ∀ r : Int, -1 ≤ r ∧ r ≤ 120 → P (some (vI r)) σ) : WT (false, eb, false) (d + 7) 222 [vR 30 0, vI l, vI m, vI w] σ P := by
  refine WT_in fun K hK => ?_
  have hK : StpY (false, eb, false) cX6_peakAt RX6 (some .int) (WT (false, eb, false) (d + 6)) P K := hK
  have hM := hK.1
  have hC := hK.1.1
  show K 0 [some (vR 30 0), some (vI l), some (vI m), some (vI w)] [] σ
  refine r_rngz hC (fun g0 => ?_)
  have r_l : -2147483648 ≤ l ∧ l ≤ 2147483647 := inR_le (g0 (vI l) (by simp))
  have r_m : -2147483648 ≤ m ∧ m ≤ 2147483647 := inR_le (g0 (vI m) (by simp))
  have r_w : -2147483648 ≤ w ∧ w ≤ 2147483647 := inR_le (g0 (vI w) (by simp))
  refine r_aload_n hC dX6_peakAt_0 rfl ?_
  refine r_iload_n hC dX6_peakAt_1 rfl ?_
  refine r_iload_n hC dX6_peakAt_2 rfl ?_
  refine r_iload_n hC dX6_peakAt_3 rfl ?_
  refine z_inv3 hM dX6_peakAt_4 vl_RX6_268 rfl rfl rfl (Nat.le_of_ble_eq_true rfl) (Nat.le_of_ble_eq_true rfl) ?_
  refine qm_bestOf ?_ (fun v1 h_v1 => ?_)
  · refine y_iret hK rfl dX6_peakAt_7 ?_
    exact k _ (by omega)
  · refine y_iret hK rfl dX6_peakAt_7 ?_
    exact k _ (by omega)
theorem qm_peak {eb : Bool} {d : Nat} {P : Option Vl → Mm → Prop} {σ : Mm} {l m w : Int}   (k : ∀ r : Int, -2147483648 ≤ r ∧ r ≤ 2147483647 → P (some (vI r)) σ) : WT (false, eb, false) (d + 7) 223 [vR 30 0, vI l, vI m, vI w] σ P := by
  refine WT_in fun K hK => ?_
  have hK : StpY (false, eb, false) cX6_peak RX6 (some .int) (WT (false, eb, false) (d + 6)) P K := hK
  have hM := hK.1
  have hC := hK.1.1
  show K 0 [some (vR 30 0), some (vI l), some (vI m), some (vI w), none] [] σ
  refine r_rngz hC (fun g0 => ?_)
  have r_l : -2147483648 ≤ l ∧ l ≤ 2147483647 := inR_le (g0 (vI l) (by simp))
  have r_m : -2147483648 ≤ m ∧ m ≤ 2147483647 := inR_le (g0 (vI m) (by simp))
  have r_w : -2147483648 ≤ w ∧ w ≤ 2147483647 := inR_le (g0 (vI w) (by simp))
  refine r_aload_n hC dX6_peak_0 rfl ?_
  refine r_iload_n hC dX6_peak_1 rfl ?_
  refine r_iload_n hC dX6_peak_2 rfl ?_
  refine r_iload_n hC dX6_peak_3 rfl ?_
  refine z_inv3 hM dX6_peak_4 vl_RX6_268 rfl rfl rfl (Nat.le_of_ble_eq_true rfl) (Nat.le_of_ble_eq_true rfl) ?_
  refine qm_bestOf ?_ (fun v1 h_v1 => ?_)
  · refine r_istore hC dX6_peak_7 rfl ?_
    refine r_iload hC dX6_peak_9 rfl ?_
    refine r_if_ge (tgt := 19) hC dX6_peak_11 rfl (fun h2 => by omega) (fun h2 => ?_)
    refine r_ldc hC dX6_peak_14 co_RX6_160 rfl ?_
    refine r_goto (tgt := 33) hC dX6_peak_16 rfl ?_
    refine y_iret hK rfl dX6_peak_33 ?_
    exact k _ (by omega)
  · refine r_istore hC dX6_peak_7 rfl ?_
    refine r_iload hC dX6_peak_9 rfl ?_
    refine r_if_ge (tgt := 19) hC dX6_peak_11 rfl (fun h3 => ?_) (fun h3 => by omega)
    refine r_aload_n hC dX6_peak_19 rfl ?_
    refine r_iload_n hC dX6_peak_20 rfl ?_
    refine r_iload hC dX6_peak_21 rfl ?_
    refine r_iload hC dX6_peak_23 rfl ?_
    refine r_iload_n hC dX6_peak_25 rfl ?_
    refine r_iaddE hC ((v1 + m)) dX6_peak_26 (by omega) (by unfold inR; omega) ?_
    refine r_iconst hC dX6_peak_27 rfl ?_
    refine r_isubE hC (((v1 + m) - 1)) dX6_peak_28 (by omega) (by unfold inR; omega) ?_
    refine r_iload_n hC dX6_peak_29 rfl ?_
    refine z_inv4 hM dX6_peak_30 vl_RX6_243 rfl rfl rfl (Nat.le_of_ble_eq_true rfl) (Nat.le_of_ble_eq_true rfl) ?_
    refine qm_comesFrom (by omega) (by omega) (by omega) (by omega) (fun v4 h_v4 => ?_)
    refine y_iret hK rfl dX6_peak_33 ?_
    exact k _ (by omega)
theorem qm_without {eb : Bool} {d : Nat} {P : Option Vl → Mm → Prop} {σ : Mm} {l x w : Int}   (k : ∀ r : Int, -2147483648 ≤ r ∧ r ≤ 2147483647 → P (some (vI r)) σ) : WT (false, eb, false) (d + 6) 225 [vR 30 0, vI l, vI x, vI w] σ P := by
  refine WT_in fun K hK => ?_
  have hK : StpY (false, eb, false) cX6_without RX6 (some .int) (WT (false, eb, false) (d + 5)) P K := hK
  have hM := hK.1
  have hC := hK.1.1
  show K 0 [some (vR 30 0), some (vI l), some (vI x), some (vI w)] [] σ
  refine r_rngz hC (fun g0 => ?_)
  have r_l : -2147483648 ≤ l ∧ l ≤ 2147483647 := inR_le (g0 (vI l) (by simp))
  have r_x : -2147483648 ≤ x ∧ x ≤ 2147483647 := inR_le (g0 (vI x) (by simp))
  have r_w : -2147483648 ≤ w ∧ w ≤ 2147483647 := inR_le (g0 (vI w) (by simp))
  refine r_aload_n hC dX6_without_0 rfl ?_
  refine r_iload_n hC dX6_without_1 rfl ?_
  refine r_iload_n hC dX6_without_2 rfl ?_
  refine z_inv2 hM dX6_without_3 vl_RX6_207 rfl rfl rfl (Nat.le_of_ble_eq_true rfl) (Nat.le_of_ble_eq_true rfl) ?_
  refine qm_isNumber (fun h1 => ?_) ?_
  · refine r_if_eq (tgt := 28) hC dX6_without_6 rfl (fun h2 => by omega) (fun h2 => ?_)
    refine r_aload_n hC dX6_without_9 rfl ?_
    refine r_iload_n hC dX6_without_10 rfl ?_
    refine r_iload_n hC dX6_without_11 rfl ?_
    refine z_inv2 hM dX6_without_12 vl_RX6_262 rfl rfl rfl (Nat.le_of_ble_eq_true rfl) (Nat.le_of_ble_eq_true rfl) ?_
    refine qm_isEvent (fun h3 x_h3 => ?_) ?_
    · refine r_if_eq (tgt := 28) hC dX6_without_15 rfl (fun h4 => by omega) (fun h4 => ?_)
      refine r_aload_n hC dX6_without_18 rfl ?_
      refine r_iload_n hC dX6_without_19 rfl ?_
      refine r_iload_n hC dX6_without_20 rfl ?_
      refine r_iload_n hC dX6_without_21 rfl ?_
      refine z_inv3 hM dX6_without_22 vl_RX6_271 rfl rfl rfl (Nat.le_of_ble_eq_true rfl) (Nat.le_of_ble_eq_true rfl) ?_
      refine qm_comesWithout (by omega) (by omega) (by omega) (fun v5 h_v5 => ?_)
      refine r_goto (tgt := 30) hC dX6_without_25 rfl ?_
      refine y_iret hK rfl dX6_without_30 ?_
      exact k _ (by omega)
    · refine r_if_eq (tgt := 28) hC dX6_without_15 rfl (fun h6 => ?_) (fun h6 => by omega)
      refine r_ldc hC dX6_without_28 co_RX6_160 rfl ?_
      refine y_iret hK rfl dX6_without_30 ?_
      exact k _ (by omega)
  · refine r_if_eq (tgt := 28) hC dX6_without_6 rfl (fun h7 => ?_) (fun h7 => by omega)
    refine r_ldc hC dX6_without_28 co_RX6_160 rfl ?_
    refine y_iret hK rfl dX6_without_30 ?_
    exact k _ (by omega)
theorem qm_spare {eb : Bool} {d : Nat} {P : Option Vl → Mm → Prop} {σ : Mm} {l w : Int}   (k : ∀ r : Int, -1 ≤ r ∧ r ≤ 120 → P (some (vI r)) σ) : WT (false, eb, false) (d + 6) 226 [vR 30 0, vI l, vI w] σ P := by
  refine WT_in fun K hK => ?_
  have hK : StpY (false, eb, false) cX6_spare RX6 (some .int) (WT (false, eb, false) (d + 5)) P K := hK
  have hM := hK.1
  have hC := hK.1.1
  show K 0 [some (vR 30 0), some (vI l), some (vI w), none, none, none, none] [] σ
  refine r_rngz hC (fun g0 => ?_)
  have r_l : -2147483648 ≤ l ∧ l ≤ 2147483647 := inR_le (g0 (vI l) (by simp))
  have r_w : -2147483648 ≤ w ∧ w ≤ 2147483647 := inR_le (g0 (vI w) (by simp))
  refine r_aload_n hC dX6_spare_0 rfl ?_
  refine r_iload_n hC dX6_spare_1 rfl ?_
  refine r_iload_n hC dX6_spare_2 rfl ?_
  refine z_inv2 hM dX6_spare_3 vl_RX6_207 rfl rfl rfl (Nat.le_of_ble_eq_true rfl) (Nat.le_of_ble_eq_true rfl) ?_
  refine qm_isNumber (fun h1 => ?_) ?_
  · refine r_if_eq (tgt := 18) hC dX6_spare_6 rfl (fun h2 => by omega) (fun h2 => ?_)
    refine r_aload_n hC dX6_spare_9 rfl ?_
    refine r_iload_n hC dX6_spare_10 rfl ?_
    refine z_inv1 hM dX6_spare_11 vl_RX6_116 rfl rfl rfl (Nat.le_of_ble_eq_true rfl) (Nat.le_of_ble_eq_true rfl) ?_
    refine qm_heldOf (by omega) (fun v3 h_v3 t_v3 => ?_)
    clear t_v3
    refine r_iconst hC dX6_spare_14 rfl ?_
    refine r_icmp_ge (tgt := 20) hC dX6_spare_15 rfl (fun h4 => ?_) (fun h4 => ?_)
    · refine r_iconst hC dX6_spare_20 rfl ?_
      refine r_istore_n hC dX6_spare_21 rfl ?_
      refine r_aload_n hC dX6_spare_22 rfl ?_
      refine r_iload_n hC dX6_spare_23 rfl ?_
      refine r_iconst hC dX6_spare_24 rfl ?_
      refine r_iload_n hC dX6_spare_25 rfl ?_
      refine z_inv3 hM dX6_spare_26 vl_RX6_271 rfl rfl rfl (Nat.le_of_ble_eq_true rfl) (Nat.le_of_ble_eq_true rfl) ?_
      refine qm_comesWithout (by omega) (by omega) (by omega) (fun v5 h_v5 => ?_)
      refine r_istore hC dX6_spare_29 rfl ?_
      refine r_iconst hC dX6_spare_31 rfl ?_
      refine r_istore hC dX6_spare_32 rfl ?_
      have L34 : ∀ (n34 : Nat) (w6 w7 w8 : Int), 0 ≤ w6 ∧ w6 ≤ 120 → -2147483648 ≤ w7 ∧ w7 ≤ 2147483647 → 1 ≤ w8 ∧ w8 ≤ 121 → 121 - w8 < (n34 : Int) → K 34 [some (vR 30 0), some (vI l), some (vI w), some (vI w6), some (vI w7), some (vI w8), none] [] σ := by
        intro n34
        induction n34 with
        | zero => intro w6 w7 w8  f_w6 f_w7 f_w8  hm  ; omega
        | succ n34 ih34 =>
          intro w6 w7 w8  f_w6 f_w7 f_w8  hm34  
          refine r_iload hC dX6_spare_34 rfl ?_
          refine r_aload_n hC dX6_spare_36 rfl ?_
          refine r_iload_n hC dX6_spare_37 rfl ?_
          refine z_inv1 hM dX6_spare_38 vl_RX6_116 rfl rfl rfl (Nat.le_of_ble_eq_true rfl) (Nat.le_of_ble_eq_true rfl) ?_
          refine qm_heldOf (by omega) (fun v9 h_v9 t_v9 => ?_)
          clear t_v9
          refine r_icmp_ge (tgt := 77) hC dX6_spare_41 rfl (fun h10 => ?_) (fun h10 => ?_)
          · refine r_iload_n hC dX6_spare_77 rfl ?_
            refine y_iret hK rfl dX6_spare_78 ?_
            exact k _ (by omega)
          · refine r_aload_n hC dX6_spare_44 rfl ?_
            refine r_iload_n hC dX6_spare_45 rfl ?_
            refine r_iload hC dX6_spare_46 rfl ?_
            refine r_iload_n hC dX6_spare_48 rfl ?_
            refine z_inv3 hM dX6_spare_49 vl_RX6_271 rfl rfl rfl (Nat.le_of_ble_eq_true rfl) (Nat.le_of_ble_eq_true rfl) ?_
            refine qm_comesWithout (by omega) (by omega) (by omega) (fun v11 h_v11 => ?_)
            refine r_istore hC dX6_spare_52 rfl ?_
            refine r_iload hC dX6_spare_54 rfl ?_
            refine r_iload hC dX6_spare_56 rfl ?_
            have J71_14 : ∀ (w13 w14 : Int), 0 ≤ w13 ∧ w13 ≤ 120 → -2147483648 ≤ w14 ∧ w14 ≤ 2147483647 → K 71 [some (vR 30 0), some (vI l), some (vI w), some (vI w13), some (vI w14), some (vI w8), some (vI v11)] [] σ := by
              intro w13 w14  f_w13 f_w14 
              refine r_iincE hC ((w8 + 1)) dX6_spare_71 rfl rfl (by omega) (by unfold inR; omega) ?_
              refine r_goto (tgt := 34) hC dX6_spare_74 rfl ?_
              refine r_forget hC (ls2 := [some (vR 30 0), some (vI l), some (vI w), some (vI w13), some (vI w14), some (vI (w8 + 1)), none]) (lsub_some (lsub_some (lsub_some (lsub_some (lsub_some (lsub_some (lsub_none lsub_nil))))))) ?_
              exact ih34 (w13) (w14) ((w8 + 1))  (by omega) (by omega) (by omega)  (by omega)  
            refine r_icmp_gt (tgt := 64) hC dX6_spare_58 rfl (fun h12 => ?_) (fun h12 => ?_)
            · refine r_iload hC dX6_spare_64 rfl ?_
              refine r_istore_n hC dX6_spare_66 rfl ?_
              refine r_iload hC dX6_spare_67 rfl ?_
              refine r_istore hC dX6_spare_69 rfl ?_
              exact J71_14 (w8) (v11)  (by omega) (by omega) 
            · refine r_goto (tgt := 71) hC dX6_spare_61 rfl ?_
              exact J71_14 (w6) (w7)  (by omega) (by omega) 
      exact L34 122 (0) (v5) (1)  (by omega) (by omega) (by omega)  (by omega)  
    · refine r_iconst hC dX6_spare_18 rfl ?_
      refine y_iret hK rfl dX6_spare_19 ?_
      exact k _ (by omega)
  · refine r_if_eq (tgt := 18) hC dX6_spare_6 rfl (fun h16 => ?_) (fun h16 => by omega)
    refine r_iconst hC dX6_spare_18 rfl ?_
    refine y_iret hK rfl dX6_spare_19 ?_
    exact k _ (by omega)
theorem qm_turned_S {eb : Bool} {d : Nat} {P : Option Vl → Mm → Prop} {σ : Mm} {l w n : Int} (qg0 : σ 30 0 8 = n)  (k : ∀ (r : Int) (ρ : Mm), Gx (fun c x y => c = 37 ∨ c = 30 ∧ y = 8) σ ρ → (-2147483648 ≤ r ∧ r ≤ 2147483647) → P (some (vI r)) ρ) : WT (false, eb, true) (d + 5) 227 [vR 30 0, vI l, vI w] σ P := by
  refine WT_in fun K hK => ?_
  have hK : StpY (false, eb, true) cX6_turned RX6 (some .int) (WT (false, eb, true) (d + 4)) P K := hK
  have hM := hK.1
  have hC := hK.1.1
  show K 0 [some (vR 30 0), some (vI l), some (vI w), none] [] σ
  refine r_rngz hC (fun g0 => ?_)
  have r_l : -2147483648 ≤ l ∧ l ≤ 2147483647 := inR_le (g0 (vI l) (by simp))
  have r_w : -2147483648 ≤ w ∧ w ≤ 2147483647 := inR_le (g0 (vI w) (by simp))
  refine r_aload_n hC dX6_turned_0 rfl ?_
  refine r_iload_n hC dX6_turned_1 rfl ?_
  refine r_iload_n hC dX6_turned_2 rfl ?_
  refine z_inv2 hM dX6_turned_3 vl_RX6_207 rfl rfl rfl (Nat.le_of_ble_eq_true rfl) (Nat.le_of_ble_eq_true rfl) ?_
  refine qm_isNumber (fun h1 => ?_) ?_
  · refine r_if_ne (tgt := 12) hC dX6_turned_6 rfl (fun h2 => ?_) (fun h2 => by omega)
    refine r_aload_n hC dX6_turned_12 rfl ?_
    refine z_inv0 hM dX6_turned_13 vl_RX6_113 rfl rfl rfl (Nat.le_of_ble_eq_true rfl) (Nat.le_of_ble_eq_true rfl) ?_
    refine qm_clearRow (n := n) (by have hq := qg0; omega) (fun ρ3 g_ρ3 q_ρ3 => ?_)
    refine r_aload_n hC dX6_turned_16 rfl ?_
    refine r_iload_n hC dX6_turned_17 rfl ?_
    refine z_inv1 hM dX6_turned_18 vl_RX6_116 rfl rfl rfl (Nat.le_of_ble_eq_true rfl) (Nat.le_of_ble_eq_true rfl) ?_
    refine qm_heldOf (by omega) (fun v4 h_v4 t_v4 => ?_)
    clear t_v4
    refine r_iconst hC dX6_turned_21 rfl ?_
    refine r_isubE hC ((v4 - 1)) dX6_turned_22 (by omega) (by unfold inR; omega) ?_
    refine r_istore_n hC dX6_turned_23 rfl ?_
    have L24 : ∀ (n24 : Nat) (w5 w6 : Int) (ρ7 : Mm), -1 ≤ w5 ∧ w5 ≤ 120 → 0 ≤ w6 ∧ w6 ≤ 121 → ((w6) + (w5) ≤ 120) → w5 + 1 < (n24 : Int) → Gx (fun c x y => c = 37 ∨ c = 30 ∧ y = 8) σ ρ7 → ρ7 30 0 8 = w6 → K 24 [some (vR 30 0), some (vI l), some (vI w), some (vI w5)] [] ρ7 := by
      intro n24
      induction n24 with
      | zero => intro w5 w6 ρ7 f_w5 f_w6 i0_24 hm g_ρ7 q0_ρ7 ; omega
      | succ n24 ih24 =>
        intro w5 w6 ρ7 f_w5 f_w6 i0_24 hm24 g_ρ7 q0_ρ7 
        refine r_iload_n hC dX6_turned_24 rfl ?_
        refine r_if_lt (tgt := 49) hC dX6_turned_25 rfl (fun h8 => ?_) (fun h8 => ?_)
        · refine r_aload_n hC dX6_turned_49 rfl ?_
          refine r_aload_n hC dX6_turned_50 rfl ?_
          refine r_iload_n hC dX6_turned_51 rfl ?_
          refine r_iconst hC dX6_turned_52 rfl ?_
          refine z_inv2 hM dX6_turned_53 vl_RX6_80 rfl rfl rfl (Nat.le_of_ble_eq_true rfl) (Nat.le_of_ble_eq_true rfl) ?_
          refine qm_of (by omega) (by omega) (fun v9 h_v9 h5_v9 h0_v9 t_v9 => ?_)
          clear t_v9
          refine r_iload_n hC dX6_turned_56 rfl ?_
          refine z_inv2 hM dX6_turned_57 vl_RX6_197 rfl rfl rfl (Nat.le_of_ble_eq_true rfl) (Nat.le_of_ble_eq_true rfl) ?_
          refine qm_comes (n := w6) (by omega) (by omega) (by have hq := q0_ρ7; omega) (fun v10 h_v10 => ?_)
          refine y_iret hK rfl dX6_turned_60 ?_
          exact k _ _ (g_ρ7) (by omega)
        · refine r_aload_n hC dX6_turned_28 rfl ?_
          refine r_aload_n hC dX6_turned_29 rfl ?_
          refine z_getR hM dX6_turned_30 fl_RX6_16 rfl rfl (vld_of (n := 1) rfl (by omega) (by omega)) ?_
          refine r_bipush hC dX6_turned_33 rfl ?_
          refine r_iload_n hC dX6_turned_35 rfl ?_
          refine r_imulE hC ((121 * l)) dX6_turned_36 (by omega) (by unfold inR; omega) ?_
          refine r_iload_n hC dX6_turned_37 rfl ?_
          refine r_iaddE hC (((121 * l) + w5)) dX6_turned_38 (by omega) (by unfold inR; omega) ?_
          refine z_iald hM dX6_turned_39 rfl (by omega) (by omega) (fun v11 h_v11 o_v11 t_v11 => ?_)
          clear t_v11
          refine z_inv1 hM dX6_turned_40 vl_RX6_109 rfl rfl rfl (Nat.le_of_ble_eq_true rfl) (Nat.le_of_ble_eq_true rfl) ?_
          refine qm_put (n := w6) (by omega) (by have hq := q0_ρ7; omega) (fun ρ12 g_ρ12 q_ρ12 => ?_)
          refine r_iincE hC ((w5 - 1)) dX6_turned_43 rfl rfl (by omega) (by unfold inR; omega) ?_
          refine r_goto (tgt := 24) hC dX6_turned_46 rfl ?_
          exact ih24 ((w5 - 1)) ((w6 + 1)) ρ12 (by omega) (by omega) (by omega) (by omega) (Gx.gx (g_ρ7) g_ρ12 (fun _ _ _ h => h)) (by have hq := q_ρ12; omega) 
    exact L24 123 ((v4 - 1)) (0) ρ3 (by omega) (by omega) (by omega) (by omega) (Gx.gx (Gx.rf) g_ρ3 (fun _ _ _ h => h)) (by have hq := q_ρ3; omega) 
  · refine r_if_ne (tgt := 12) hC dX6_turned_6 rfl (fun h13 => by omega) (fun h13 => ?_)
    refine r_ldc hC dX6_turned_9 co_RX6_160 rfl ?_
    refine y_iret hK rfl dX6_turned_11 ?_
    exact k _ _ (Gx.rf) (by omega)
theorem qm_turned {eb : Bool} {d : Nat} {P : Option Vl → Mm → Prop} {σ : Mm} {l w : Int}  (k : ∀ r : Int, -2147483648 ≤ r ∧ r ≤ 2147483647 → P (some (vI r)) σ) : WT (false, eb, false) (d + 5) 227 [vR 30 0, vI l, vI w] σ P := by
  refine WT_loose (false, eb, true) (fun h => h) (fun h => h) (fun c j q => ?_) (fun ρ hL_ hF hT hO => ?_)
  · rcases q with q | q | q | q
    · exact Or.inl q
    · cases q.1
    · exact Or.inr (Or.inr (Or.inl q))
    · cases q.1
  · refine qm_turned_S  (qg0 := rfl) (fun r ρ2 g hr => ⟨σ, k r hr, fun h => Or.inl h, fun h => Or.inl h, fun c i j q => ?_⟩)
    refine (g c i j ?_).trans (hT c i j q)
    rintro (rfl | ⟨rfl, rfl⟩)
    all_goals
      rcases q with q | q | q | q
      · exact q
      · exact q.2
      · rcases q.2 with z | z <;> exact z
      · cases q.1
theorem qm_joined_S {eb : Bool} {d : Nat} {P : Option Vl → Mm → Prop} {σ : Mm} {l o w n : Int} (qg0 : σ 30 0 8 = n)  (k : ∀ (r : Int) (ρ : Mm), Gx (fun c x y => c = 37 ∨ c = 30 ∧ y = 8) σ ρ → (-2147483648 ≤ r ∧ r ≤ 2147483647) → P (some (vI r)) ρ) : WT (false, eb, true) (d + 5) 232 [vR 30 0, vI l, vI o, vI w] σ P := by
  refine WT_in fun K hK => ?_
  have hK : StpY (false, eb, true) cX6_joined RX6 (some .int) (WT (false, eb, true) (d + 4)) P K := hK
  have hM := hK.1
  have hC := hK.1.1
  show K 0 [some (vR 30 0), some (vI l), some (vI o), some (vI w)] [] σ
  refine r_rngz hC (fun g0 => ?_)
  have r_l : -2147483648 ≤ l ∧ l ≤ 2147483647 := inR_le (g0 (vI l) (by simp))
  have r_o : -2147483648 ≤ o ∧ o ≤ 2147483647 := inR_le (g0 (vI o) (by simp))
  have r_w : -2147483648 ≤ w ∧ w ≤ 2147483647 := inR_le (g0 (vI w) (by simp))
  refine r_aload_n hC dX6_joined_0 rfl ?_
  refine r_iload_n hC dX6_joined_1 rfl ?_
  refine r_iload_n hC dX6_joined_2 rfl ?_
  refine z_inv2 hM dX6_joined_3 vl_RX6_280 rfl rfl rfl (Nat.le_of_ble_eq_true rfl) (Nat.le_of_ble_eq_true rfl) ?_
  refine qm_areAlike (fun h1 => ?_) ?_
  · refine r_if_eq (tgt := 18) hC dX6_joined_6 rfl (fun h2 => by omega) (fun h2 => ?_)
    refine r_aload_n hC dX6_joined_9 rfl ?_
    refine r_iload_n hC dX6_joined_10 rfl ?_
    refine r_iload_n hC dX6_joined_11 rfl ?_
    refine z_inv2 hM dX6_joined_12 vl_RX6_207 rfl rfl rfl (Nat.le_of_ble_eq_true rfl) (Nat.le_of_ble_eq_true rfl) ?_
    refine qm_isNumber (fun h3 => ?_) ?_
    · refine r_if_ne (tgt := 21) hC dX6_joined_15 rfl (fun h4 => ?_) (fun h4 => by omega)
      refine r_aload_n hC dX6_joined_21 rfl ?_
      refine r_iload_n hC dX6_joined_22 rfl ?_
      refine z_inv1 hM dX6_joined_23 vl_RX6_194 rfl rfl rfl (Nat.le_of_ble_eq_true rfl) (Nat.le_of_ble_eq_true rfl) ?_
      refine qm_layAll (by omega) rfl (fun ρ5 g_ρ5 b_ρ5 t_ρ5 => ?_)
      obtain ⟨n6, q_ρ5⟩ : ∃ v, ρ5 30 0 8 = v := ⟨_, rfl⟩
      have b_n6 : 0 ≤ n6 ∧ n6 ≤ 121 := by omega
      refine r_aload_n hC dX6_joined_26 rfl ?_
      refine r_iload_n hC dX6_joined_27 rfl ?_
      refine r_iconst hC dX6_joined_28 rfl ?_
      refine r_aload_n hC dX6_joined_29 rfl ?_
      refine r_iload_n hC dX6_joined_30 rfl ?_
      refine z_inv1 hM dX6_joined_31 vl_RX6_116 rfl rfl rfl (Nat.le_of_ble_eq_true rfl) (Nat.le_of_ble_eq_true rfl) ?_
      refine qm_heldOf (by omega) (fun v7 h_v7 t_v7 => ?_)
      clear t_v7
      refine r_iconst hC dX6_joined_34 rfl ?_
      refine r_isubE hC ((v7 - 1)) dX6_joined_35 (by omega) (by unfold inR; omega) ?_
      refine z_inv3 hM dX6_joined_36 vl_RX6_120 rfl rfl rfl (Nat.le_of_ble_eq_true rfl) (Nat.le_of_ble_eq_true rfl) ?_
      refine qm_putFrom (n := n6) (by omega) (by omega) (by omega) (by omega) (by have hq := q_ρ5; omega) (by omega) (fun ρ8 g_ρ8 q_ρ8 => ?_)
      obtain ⟨n9, e_n9⟩ : ∃ v, ρ8 30 0 8 = v := ⟨_, rfl⟩
      have b_n9 : (0 ≤ (v7 - 1) → n9 = n6 + ((v7 - 1) - 0 + 1)) ∧ ((v7 - 1) < 0 → n9 = n6) ∧ 0 ≤ n9 ∧ n9 ≤ 242 := by have hq := q_ρ8; omega
      replace q_ρ8 := e_n9
      refine r_aload_n hC dX6_joined_39 rfl ?_
      refine r_aload_n hC dX6_joined_40 rfl ?_
      refine r_iload_n hC dX6_joined_41 rfl ?_
      refine r_iconst hC dX6_joined_42 rfl ?_
      refine z_inv2 hM dX6_joined_43 vl_RX6_80 rfl rfl rfl (Nat.le_of_ble_eq_true rfl) (Nat.le_of_ble_eq_true rfl) ?_
      refine qm_of (by omega) (by omega) (fun v10 h_v10 h5_v10 h0_v10 t_v10 => ?_)
      clear t_v10
      refine r_iload_n hC dX6_joined_46 rfl ?_
      refine z_inv2 hM dX6_joined_47 vl_RX6_197 rfl rfl rfl (Nat.le_of_ble_eq_true rfl) (Nat.le_of_ble_eq_true rfl) ?_
      refine qm_comes (n := n9) (by omega) (by omega) (by have hq := q_ρ8; omega) (fun v11 h_v11 => ?_)
      refine y_iret hK rfl dX6_joined_50 ?_
      exact k _ _ (Gx.gx (Gx.gx (Gx.rf) g_ρ5 (fun _ _ _ h => h)) g_ρ8 (fun _ _ _ h => h)) (by omega)
    · refine r_if_ne (tgt := 21) hC dX6_joined_15 rfl (fun h12 => by omega) (fun h12 => ?_)
      refine r_ldc hC dX6_joined_18 co_RX6_160 rfl ?_
      refine y_iret hK rfl dX6_joined_20 ?_
      exact k _ _ (Gx.rf) (by omega)
  · refine r_if_eq (tgt := 18) hC dX6_joined_6 rfl (fun h13 => ?_) (fun h13 => by omega)
    refine r_ldc hC dX6_joined_18 co_RX6_160 rfl ?_
    refine y_iret hK rfl dX6_joined_20 ?_
    exact k _ _ (Gx.rf) (by omega)
theorem qm_joined {eb : Bool} {d : Nat} {P : Option Vl → Mm → Prop} {σ : Mm} {l o w : Int}  (k : ∀ r : Int, -2147483648 ≤ r ∧ r ≤ 2147483647 → P (some (vI r)) σ) : WT (false, eb, false) (d + 5) 232 [vR 30 0, vI l, vI o, vI w] σ P := by
  refine WT_loose (false, eb, true) (fun h => h) (fun h => h) (fun c j q => ?_) (fun ρ hL_ hF hT hO => ?_)
  · rcases q with q | q | q | q
    · exact Or.inl q
    · cases q.1
    · exact Or.inr (Or.inr (Or.inl q))
    · cases q.1
  · refine qm_joined_S  (qg0 := rfl) (fun r ρ2 g hr => ⟨σ, k r hr, fun h => Or.inl h, fun h => Or.inl h, fun c i j q => ?_⟩)
    refine (g c i j ?_).trans (hT c i j q)
    rintro (rfl | ⟨rfl, rfl⟩)
    all_goals
      rcases q with q | q | q | q
      · exact q
      · exact q.2
      · rcases q.2 with z | z <;> exact z
      · cases q.1
theorem qm_woven_S {eb : Bool} {d : Nat} {P : Option Vl → Mm → Prop} {σ : Mm} {l o w n : Int} (qg0 : σ 30 0 8 = n)  (k : ∀ (r : Int) (ρ : Mm), Gx (fun c x y => c = 37 ∨ c = 30 ∧ y = 8) σ ρ → (-2147483648 ≤ r ∧ r ≤ 2147483647) → P (some (vI r)) ρ) : WT (false, eb, true) (d + 5) 233 [vR 30 0, vI l, vI o, vI w] σ P := by
  refine WT_in fun K hK => ?_
  have hK : StpY (false, eb, true) cX6_woven RX6 (some .int) (WT (false, eb, true) (d + 4)) P K := hK
  have hM := hK.1
  have hC := hK.1.1
  show K 0 [some (vR 30 0), some (vI l), some (vI o), some (vI w), none, none] [] σ
  refine r_rngz hC (fun g0 => ?_)
  have r_l : -2147483648 ≤ l ∧ l ≤ 2147483647 := inR_le (g0 (vI l) (by simp))
  have r_o : -2147483648 ≤ o ∧ o ≤ 2147483647 := inR_le (g0 (vI o) (by simp))
  have r_w : -2147483648 ≤ w ∧ w ≤ 2147483647 := inR_le (g0 (vI w) (by simp))
  refine r_aload_n hC dX6_woven_0 rfl ?_
  refine r_iload_n hC dX6_woven_1 rfl ?_
  refine r_iload_n hC dX6_woven_2 rfl ?_
  refine z_inv2 hM dX6_woven_3 vl_RX6_280 rfl rfl rfl (Nat.le_of_ble_eq_true rfl) (Nat.le_of_ble_eq_true rfl) ?_
  refine qm_areAlike (fun h1 => ?_) ?_
  · refine r_if_eq (tgt := 18) hC dX6_woven_6 rfl (fun h2 => by omega) (fun h2 => ?_)
    refine r_aload_n hC dX6_woven_9 rfl ?_
    refine r_iload_n hC dX6_woven_10 rfl ?_
    refine r_iload_n hC dX6_woven_11 rfl ?_
    refine z_inv2 hM dX6_woven_12 vl_RX6_207 rfl rfl rfl (Nat.le_of_ble_eq_true rfl) (Nat.le_of_ble_eq_true rfl) ?_
    refine qm_isNumber (fun h3 => ?_) ?_
    · refine r_if_ne (tgt := 21) hC dX6_woven_15 rfl (fun h4 => ?_) (fun h4 => by omega)
      refine r_aload_n hC dX6_woven_21 rfl ?_
      refine z_inv0 hM dX6_woven_22 vl_RX6_113 rfl rfl rfl (Nat.le_of_ble_eq_true rfl) (Nat.le_of_ble_eq_true rfl) ?_
      refine qm_clearRow (n := n) (by have hq := qg0; omega) (fun ρ5 g_ρ5 q_ρ5 => ?_)
      refine r_iconst hC dX6_woven_25 rfl ?_
      refine r_istore hC dX6_woven_26 rfl ?_
      refine r_iconst hC dX6_woven_28 rfl ?_
      refine r_istore hC dX6_woven_29 rfl ?_
      have L31 : ∀ (n31 : Nat) (w6 w7 w8 : Int) (ρ9 : Mm), 0 ≤ w6 ∧ w6 ≤ 121 → 0 ≤ w7 ∧ w7 ≤ 121 → 0 ≤ w8 ∧ w8 ≤ 242 → ((w8) = (w6) + (w7)) → 121 - w7 < (n31 : Int) → Gx (fun c x y => c = 37 ∨ c = 30 ∧ y = 8) σ ρ9 → ρ9 30 0 8 = w8 → K 31 [some (vR 30 0), some (vI l), some (vI o), some (vI w), some (vI w6), some (vI w7)] [] ρ9 := by
        intro n31
        induction n31 with
        | zero => intro w6 w7 w8 ρ9 f_w6 f_w7 f_w8 i0_31 hm g_ρ9 q0_ρ9 ; omega
        | succ n31 ih31 =>
          intro w6 w7 w8 ρ9 f_w6 f_w7 f_w8 i0_31 hm31 g_ρ9 q0_ρ9 
          refine r_iload hC dX6_woven_31 rfl ?_
          refine r_aload_n hC dX6_woven_33 rfl ?_
          refine r_iload_n hC dX6_woven_34 rfl ?_
          refine z_inv1 hM dX6_woven_35 vl_RX6_116 rfl rfl rfl (Nat.le_of_ble_eq_true rfl) (Nat.le_of_ble_eq_true rfl) ?_
          refine qm_heldOf (by omega) (fun v10 h_v10 t_v10 => ?_)
          clear t_v10
          refine r_icmp_ge (tgt := 122) hC dX6_woven_38 rfl (fun h11 => ?_) (fun h11 => ?_)
          · refine r_aload_n hC dX6_woven_122 rfl ?_
            refine r_iload_n hC dX6_woven_123 rfl ?_
            refine r_iload hC dX6_woven_124 rfl ?_
            refine r_aload_n hC dX6_woven_126 rfl ?_
            refine r_iload_n hC dX6_woven_127 rfl ?_
            refine z_inv1 hM dX6_woven_128 vl_RX6_116 rfl rfl rfl (Nat.le_of_ble_eq_true rfl) (Nat.le_of_ble_eq_true rfl) ?_
            refine qm_heldOf (by omega) (fun v12 h_v12 t_v12 => ?_)
            clear t_v12
            refine r_iconst hC dX6_woven_131 rfl ?_
            refine r_isubE hC ((v12 - 1)) dX6_woven_132 (by omega) (by unfold inR; omega) ?_
            refine z_inv3 hM dX6_woven_133 vl_RX6_120 rfl rfl rfl (Nat.le_of_ble_eq_true rfl) (Nat.le_of_ble_eq_true rfl) ?_
            refine qm_putFrom (n := w8) (by omega) (by omega) (by omega) (by omega) (by have hq := q0_ρ9; omega) (by omega) (fun ρ13 g_ρ13 q_ρ13 => ?_)
            obtain ⟨n14, e_n14⟩ : ∃ v, ρ13 30 0 8 = v := ⟨_, rfl⟩
            have b_n14 : (w6 ≤ (v12 - 1) → n14 = w8 + ((v12 - 1) - w6 + 1)) ∧ ((v12 - 1) < w6 → n14 = w8) ∧ 0 ≤ n14 ∧ n14 ≤ 242 := by have hq := q_ρ13; omega
            replace q_ρ13 := e_n14
            refine r_aload_n hC dX6_woven_136 rfl ?_
            refine r_aload_n hC dX6_woven_137 rfl ?_
            refine r_iload_n hC dX6_woven_138 rfl ?_
            refine r_iconst hC dX6_woven_139 rfl ?_
            refine z_inv2 hM dX6_woven_140 vl_RX6_80 rfl rfl rfl (Nat.le_of_ble_eq_true rfl) (Nat.le_of_ble_eq_true rfl) ?_
            refine qm_of (by omega) (by omega) (fun v15 h_v15 h5_v15 h0_v15 t_v15 => ?_)
            clear t_v15
            refine r_iload_n hC dX6_woven_143 rfl ?_
            refine z_inv2 hM dX6_woven_144 vl_RX6_197 rfl rfl rfl (Nat.le_of_ble_eq_true rfl) (Nat.le_of_ble_eq_true rfl) ?_
            refine qm_comes (n := n14) (by omega) (by omega) (by have hq := q_ρ13; omega) (fun v16 h_v16 => ?_)
            refine y_iret hK rfl dX6_woven_147 ?_
            exact k _ _ (Gx.gx (g_ρ9) g_ρ13 (fun _ _ _ h => h)) (by omega)
          · have L41 : ∀ (n41 : Nat) (w17 w18 : Int) (ρ19 : Mm), 0 ≤ w17 ∧ w17 ≤ 121 → 0 ≤ w18 ∧ w18 ≤ 242 → ((w18) = (w17) + (w7)) → 121 - w17 < (n41 : Int) → Gx (fun c x y => c = 37 ∨ c = 30 ∧ y = 8) σ ρ19 → ρ19 30 0 8 = w18 → K 41 [some (vR 30 0), some (vI l), some (vI o), some (vI w), some (vI w17), some (vI w7)] [] ρ19 := by
              intro n41
              induction n41 with
              | zero => intro w17 w18 ρ19 f_w17 f_w18 i0_41 hm g_ρ19 q0_ρ19 ; omega
              | succ n41 ih41 =>
                intro w17 w18 ρ19 f_w17 f_w18 i0_41 hm41 g_ρ19 q0_ρ19 
                refine r_iload hC dX6_woven_41 rfl ?_
                refine r_aload_n hC dX6_woven_43 rfl ?_
                refine r_iload_n hC dX6_woven_44 rfl ?_
                refine z_inv1 hM dX6_woven_45 vl_RX6_116 rfl rfl rfl (Nat.le_of_ble_eq_true rfl) (Nat.le_of_ble_eq_true rfl) ?_
                refine qm_heldOf (by omega) (fun v20 h_v20 t_v20 => ?_)
                clear t_v20
                refine r_icmp_ge (tgt := 100) hC dX6_woven_48 rfl (fun h21 => ?_) (fun h21 => ?_)
                · refine r_aload_n hC dX6_woven_100 rfl ?_
                  refine r_aload_n hC dX6_woven_101 rfl ?_
                  refine z_getR hM dX6_woven_102 fl_RX6_16 rfl rfl (vld_of (n := 1) rfl (by omega) (by omega)) ?_
                  refine r_bipush hC dX6_woven_105 rfl ?_
                  refine r_iload_n hC dX6_woven_107 rfl ?_
                  refine r_imulE hC ((121 * l)) dX6_woven_108 (by omega) (by unfold inR; omega) ?_
                  refine r_iload hC dX6_woven_109 rfl ?_
                  refine r_iaddE hC (((121 * l) + w7)) dX6_woven_111 (by omega) (by unfold inR; omega) ?_
                  refine z_iald hM dX6_woven_112 rfl (by omega) (by omega) (fun v22 h_v22 o_v22 t_v22 => ?_)
                  clear t_v22
                  refine z_inv1 hM dX6_woven_113 vl_RX6_109 rfl rfl rfl (Nat.le_of_ble_eq_true rfl) (Nat.le_of_ble_eq_true rfl) ?_
                  refine qm_put (n := w18) (by omega) (by have hq := q0_ρ19; omega) (fun ρ23 g_ρ23 q_ρ23 => ?_)
                  refine r_iincE hC ((w7 + 1)) dX6_woven_116 rfl rfl (by omega) (by unfold inR; omega) ?_
                  refine r_goto (tgt := 31) hC dX6_woven_119 rfl ?_
                  exact ih31 (w17) ((w7 + 1)) ((w18 + 1)) ρ23 (by omega) (by omega) (by omega) (by omega) (by omega) (Gx.gx (g_ρ19) g_ρ23 (fun _ _ _ h => h)) (by have hq := q_ρ23; omega) 
                · refine r_aload_n hC dX6_woven_51 rfl ?_
                  refine z_getR hM dX6_woven_52 fl_RX6_13 rfl rfl (vld_of (n := 1) rfl (by omega) (by omega)) ?_
                  refine r_bipush hC dX6_woven_55 rfl ?_
                  refine r_iload_n hC dX6_woven_57 rfl ?_
                  refine r_imulE hC ((121 * o)) dX6_woven_58 (by omega) (by unfold inR; omega) ?_
                  refine r_iload hC dX6_woven_59 rfl ?_
                  refine r_iaddE hC (((121 * o) + w17)) dX6_woven_61 (by omega) (by unfold inR; omega) ?_
                  refine z_iald hM dX6_woven_62 rfl (by omega) (by omega) (fun v24 h_v24 o_v24 t_v24 => ?_)
                  clear t_v24
                  refine r_aload_n hC dX6_woven_63 rfl ?_
                  refine z_getR hM dX6_woven_64 fl_RX6_13 rfl rfl (vld_of (n := 1) rfl (by omega) (by omega)) ?_
                  refine r_bipush hC dX6_woven_67 rfl ?_
                  refine r_iload_n hC dX6_woven_69 rfl ?_
                  refine r_imulE hC ((121 * l)) dX6_woven_70 (by omega) (by unfold inR; omega) ?_
                  refine r_iload hC dX6_woven_71 rfl ?_
                  refine r_iaddE hC (((121 * l) + w7)) dX6_woven_73 (by omega) (by unfold inR; omega) ?_
                  refine z_iald hM dX6_woven_74 rfl (by omega) (by omega) (fun v25 h_v25 o_v25 t_v25 => ?_)
                  clear t_v25
                  refine r_icmp_ge (tgt := 100) hC dX6_woven_75 rfl (fun h26 => ?_) (fun h26 => ?_)
                  · refine r_aload_n hC dX6_woven_100 rfl ?_
                    refine r_aload_n hC dX6_woven_101 rfl ?_
                    refine z_getR hM dX6_woven_102 fl_RX6_16 rfl rfl (vld_of (n := 1) rfl (by omega) (by omega)) ?_
                    refine r_bipush hC dX6_woven_105 rfl ?_
                    refine r_iload_n hC dX6_woven_107 rfl ?_
                    refine r_imulE hC ((121 * l)) dX6_woven_108 (by omega) (by unfold inR; omega) ?_
                    refine r_iload hC dX6_woven_109 rfl ?_
                    refine r_iaddE hC (((121 * l) + w7)) dX6_woven_111 (by omega) (by unfold inR; omega) ?_
                    refine z_iald hM dX6_woven_112 rfl (by omega) (by omega) (fun v27 h_v27 o_v27 t_v27 => ?_)
                    clear t_v27
                    refine z_inv1 hM dX6_woven_113 vl_RX6_109 rfl rfl rfl (Nat.le_of_ble_eq_true rfl) (Nat.le_of_ble_eq_true rfl) ?_
                    refine qm_put (n := w18) (by omega) (by have hq := q0_ρ19; omega) (fun ρ28 g_ρ28 q_ρ28 => ?_)
                    refine r_iincE hC ((w7 + 1)) dX6_woven_116 rfl rfl (by omega) (by unfold inR; omega) ?_
                    refine r_goto (tgt := 31) hC dX6_woven_119 rfl ?_
                    exact ih31 (w17) ((w7 + 1)) ((w18 + 1)) ρ28 (by omega) (by omega) (by omega) (by omega) (by omega) (Gx.gx (g_ρ19) g_ρ28 (fun _ _ _ h => h)) (by have hq := q_ρ28; omega) 
                  · refine r_aload_n hC dX6_woven_78 rfl ?_
                    refine r_aload_n hC dX6_woven_79 rfl ?_
                    refine z_getR hM dX6_woven_80 fl_RX6_16 rfl rfl (vld_of (n := 1) rfl (by omega) (by omega)) ?_
                    refine r_bipush hC dX6_woven_83 rfl ?_
                    refine r_iload_n hC dX6_woven_85 rfl ?_
                    refine r_imulE hC ((121 * o)) dX6_woven_86 (by omega) (by unfold inR; omega) ?_
                    refine r_iload hC dX6_woven_87 rfl ?_
                    refine r_iaddE hC (((121 * o) + w17)) dX6_woven_89 (by omega) (by unfold inR; omega) ?_
                    refine z_iald hM dX6_woven_90 rfl (by omega) (by omega) (fun v29 h_v29 o_v29 t_v29 => ?_)
                    clear t_v29
                    refine z_inv1 hM dX6_woven_91 vl_RX6_109 rfl rfl rfl (Nat.le_of_ble_eq_true rfl) (Nat.le_of_ble_eq_true rfl) ?_
                    refine qm_put (n := w18) (by omega) (by have hq := q0_ρ19; omega) (fun ρ30 g_ρ30 q_ρ30 => ?_)
                    refine r_iincE hC ((w17 + 1)) dX6_woven_94 rfl rfl (by omega) (by unfold inR; omega) ?_
                    refine r_goto (tgt := 41) hC dX6_woven_97 rfl ?_
                    exact ih41 ((w17 + 1)) ((w18 + 1)) ρ30 (by omega) (by omega) (by omega) (by omega) (Gx.gx (g_ρ19) g_ρ30 (fun _ _ _ h => h)) (by have hq := q_ρ30; omega) 
            exact L41 123 (w6) (w8) ρ9 (by omega) (by omega) (by omega) (by omega) (g_ρ9) (by have hq := q0_ρ9; omega) 
      exact L31 123 (0) (0) (0) ρ5 (by omega) (by omega) (by omega) (by omega) (by omega) (Gx.gx (Gx.rf) g_ρ5 (fun _ _ _ h => h)) (by have hq := q_ρ5; omega) 
    · refine r_if_ne (tgt := 21) hC dX6_woven_15 rfl (fun h31 => by omega) (fun h31 => ?_)
      refine r_ldc hC dX6_woven_18 co_RX6_160 rfl ?_
      refine y_iret hK rfl dX6_woven_20 ?_
      exact k _ _ (Gx.rf) (by omega)
  · refine r_if_eq (tgt := 18) hC dX6_woven_6 rfl (fun h32 => ?_) (fun h32 => by omega)
    refine r_ldc hC dX6_woven_18 co_RX6_160 rfl ?_
    refine y_iret hK rfl dX6_woven_20 ?_
    exact k _ _ (Gx.rf) (by omega)
theorem qm_woven {eb : Bool} {d : Nat} {P : Option Vl → Mm → Prop} {σ : Mm} {l o w : Int}  (k : ∀ r : Int, -2147483648 ≤ r ∧ r ≤ 2147483647 → P (some (vI r)) σ) : WT (false, eb, false) (d + 5) 233 [vR 30 0, vI l, vI o, vI w] σ P := by
  refine WT_loose (false, eb, true) (fun h => h) (fun h => h) (fun c j q => ?_) (fun ρ hL_ hF hT hO => ?_)
  · rcases q with q | q | q | q
    · exact Or.inl q
    · cases q.1
    · exact Or.inr (Or.inr (Or.inl q))
    · cases q.1
  · refine qm_woven_S  (qg0 := rfl) (fun r ρ2 g hr => ⟨σ, k r hr, fun h => Or.inl h, fun h => Or.inl h, fun c i j q => ?_⟩)
    refine (g c i j ?_).trans (hT c i j q)
    rintro (rfl | ⟨rfl, rfl⟩)
    all_goals
      rcases q with q | q | q | q
      · exact q
      · exact q.2
      · rcases q.2 with z | z <;> exact z
      · cases q.1
theorem qm_keepNumbers {eb ec : Bool} {d : Nat} {P : Option Vl → Mm → Prop} {σ : Mm} {o : Int}   (k : P none σ) : WT (false, eb, ec) (d + 2) 228 [vR 30 0, vI o] σ P := by
  refine WT_in fun K hK => ?_
  have hK : StpY (false, eb, ec) cX6_keepNumbers RX6 (none) (WT (false, eb, ec) (d + 1)) P K := hK
  have hM := hK.1
  have hC := hK.1.1
  show K 0 [some (vR 30 0), some (vI o), none] [] σ
  refine r_rngz hC (fun g0 => ?_)
  have r_o : -2147483648 ≤ o ∧ o ≤ 2147483647 := inR_le (g0 (vI o) (by simp))
  refine r_iconst hC dX6_keepNumbers_0 rfl ?_
  refine r_istore_n hC dX6_keepNumbers_1 rfl ?_
  have L2 : ∀ (n2 : Nat) (w1 : Int), 0 ≤ w1 ∧ w1 ≤ 7 → 7 - w1 < (n2 : Int) → K 2 [some (vR 30 0), some (vI o), some (vI w1)] [] σ := by
    intro n2
    induction n2 with
    | zero => intro w1  f_w1  hm  ; omega
    | succ n2 ih2 =>
      intro w1  f_w1  hm2  
      refine r_iload_n hC dX6_keepNumbers_2 rfl ?_
      refine r_iload_n hC dX6_keepNumbers_3 rfl ?_
      refine z_ins1 hM dX6_keepNumbers_4 tl_RX6_127 rfl (Nat.le_of_ble_eq_true rfl) (Nat.le_of_ble_eq_true rfl) ?_
      refine qm_howMany (fun v2 h_v2 => ?_)
      refine r_icmp_ge (tgt := 28) hC dX6_keepNumbers_7 rfl (fun h3 => ?_) (fun h3 => ?_)
      · refine y_vret hK rfl dX6_keepNumbers_28 ?_
        exact k
      · refine r_aload_n hC dX6_keepNumbers_10 rfl ?_
        refine z_getR hM dX6_keepNumbers_11 fl_RX6_64 rfl rfl (vld_of (n := 1) rfl (by omega) (by omega)) ?_
        refine r_iload_n hC dX6_keepNumbers_14 rfl ?_
        refine r_aload_n hC dX6_keepNumbers_15 rfl ?_
        refine z_getR hM dX6_keepNumbers_16 fl_RX6_31 rfl rfl (vld_of (n := 1) rfl (by omega) (by omega)) ?_
        refine r_iload_n hC dX6_keepNumbers_19 rfl ?_
        refine z_iald hM dX6_keepNumbers_20 rfl (by omega) (by omega) (fun v4 h_v4 o_v4 t_v4 => ?_)
        clear t_v4
        refine z_iastU hM dX6_keepNumbers_21 rfl (by omega) (by omega) (by simp [Un, Tb, DL, DF, DR, DX]) (by simp [Okv]) ?_
        refine r_iincE hC ((w1 + 1)) dX6_keepNumbers_22 rfl rfl (by omega) (by unfold inR; omega) ?_
        refine r_goto (tgt := 2) hC dX6_keepNumbers_25 rfl ?_
        exact ih2 ((w1 + 1))  (by omega)  (by omega)  
  exact L2 9 (0)  (by omega)  (by omega)  
theorem qm_areKept {e : Ev} {d : Nat} {P : Option Vl → Mm → Prop} {σ : Mm} {o : Int}   (k : ∀ r : Int, 0 ≤ r ∧ r ≤ 1 → P (some (vI r)) σ) : WT e (d + 2) 229 [vR 30 0, vI o] σ P := by
  refine WT_in fun K hK => ?_
  have hK : StpY e cX6_areKept RX6 (some .boolean) (WT e (d + 1)) P K := hK
  have hM := hK.1
  have hC := hK.1.1
  show K 0 [some (vR 30 0), some (vI o), none] [] σ
  refine r_rngz hC (fun g0 => ?_)
  have r_o : -2147483648 ≤ o ∧ o ≤ 2147483647 := inR_le (g0 (vI o) (by simp))
  refine r_iconst hC dX6_areKept_0 rfl ?_
  refine r_istore_n hC dX6_areKept_1 rfl ?_
  have L2 : ∀ (n2 : Nat) (w1 : Int), 0 ≤ w1 ∧ w1 ≤ 7 → 7 - w1 < (n2 : Int) → K 2 [some (vR 30 0), some (vI o), some (vI w1)] [] σ := by
    intro n2
    induction n2 with
    | zero => intro w1  f_w1  hm  ; omega
    | succ n2 ih2 =>
      intro w1  f_w1  hm2  
      refine r_iload_n hC dX6_areKept_2 rfl ?_
      refine r_iload_n hC dX6_areKept_3 rfl ?_
      refine z_ins1 hM dX6_areKept_4 tl_RX6_127 rfl (Nat.le_of_ble_eq_true rfl) (Nat.le_of_ble_eq_true rfl) ?_
      refine qm_howMany (fun v2 h_v2 => ?_)
      refine r_icmp_ge (tgt := 33) hC dX6_areKept_7 rfl (fun h3 => ?_) (fun h3 => ?_)
      · refine r_iconst hC dX6_areKept_33 rfl ?_
        refine y_zret hK rfl dX6_areKept_34 (by omega) ?_
        exact k _ (by omega)
      · refine r_aload_n hC dX6_areKept_10 rfl ?_
        refine z_getR hM dX6_areKept_11 fl_RX6_64 rfl rfl (vld_of (n := 1) rfl (by omega) (by omega)) ?_
        refine r_iload_n hC dX6_areKept_14 rfl ?_
        refine z_iald hM dX6_areKept_15 rfl (by omega) (by omega) (fun v4 h_v4 o_v4 t_v4 => ?_)
        clear t_v4
        refine r_aload_n hC dX6_areKept_16 rfl ?_
        refine z_getR hM dX6_areKept_17 fl_RX6_31 rfl rfl (vld_of (n := 1) rfl (by omega) (by omega)) ?_
        refine r_iload_n hC dX6_areKept_20 rfl ?_
        refine z_iald hM dX6_areKept_21 rfl (by omega) (by omega) (fun v5 h_v5 o_v5 t_v5 => ?_)
        clear t_v5
        refine r_icmp_eq (tgt := 27) hC dX6_areKept_22 rfl (fun h6 => ?_) (fun h6 => ?_)
        · refine r_iincE hC ((w1 + 1)) dX6_areKept_27 rfl rfl (by omega) (by unfold inR; omega) ?_
          refine r_goto (tgt := 2) hC dX6_areKept_30 rfl ?_
          exact ih2 ((w1 + 1))  (by omega)  (by omega)  
        · refine r_iconst hC dX6_areKept_25 rfl ?_
          refine y_zret hK rfl dX6_areKept_26 (by omega) ?_
          exact k _ (by omega)
  exact L2 9 (0)  (by omega)  (by omega)  
theorem qm_commutes_S {eb : Bool} {d : Nat} {P : Option Vl → Mm → Prop} {σ : Mm} {l x n hl : Int} (qg0 : σ 30 0 8 = n) (qg1 : σ 31 0 ((22 * l) + 5) = hl) (hL : HM σ)  (k : ∀ (r : Int) (ρ : Mm), Gx (fun c x y => c = 37 ∨ c = 30 ∧ y = 8) σ ρ → (-2147483648 ≤ r ∧ r ≤ 2147483647) → P (some (vI r)) ρ) : WT (false, eb, true) (d + 4) 230 [vR 30 0, vI l, vI x] σ P := by
  refine WT_in fun K hK => ?_
  have hK : StpY (false, eb, true) cX6_commutes RX6 (some .int) (WT (false, eb, true) (d + 3)) P K := hK
  have hM := hK.1
  have hC := hK.1.1
  show K 0 [some (vR 30 0), some (vI l), some (vI x), none] [] σ
  refine r_rngz hC (fun g0 => ?_)
  have r_l : -2147483648 ≤ l ∧ l ≤ 2147483647 := inR_le (g0 (vI l) (by simp))
  have r_x : -2147483648 ≤ x ∧ x ≤ 2147483647 := inR_le (g0 (vI x) (by simp))
  refine r_aload_n hC dX6_commutes_0 rfl ?_
  refine r_iload_n hC dX6_commutes_1 rfl ?_
  refine z_inv1 hM dX6_commutes_2 vl_RX6_124 rfl rfl rfl (Nat.le_of_ble_eq_true rfl) (Nat.le_of_ble_eq_true rfl) ?_
  refine qm_isLane (fun h1 => ?_) ?_
  · have b0_h1 : 0 ≤ hl ∧ hl ≤ 120 := by have := HM.h31 hL (l := l) (by omega) (by omega); have := qg1; omega
    refine r_if_eq (tgt := 23) hC dX6_commutes_5 rfl (fun h2 => by omega) (fun h2 => ?_)
    refine r_iload_n hC dX6_commutes_8 rfl ?_
    refine r_iconst hC dX6_commutes_9 rfl ?_
    refine r_aload_n hC dX6_commutes_10 rfl ?_
    refine r_iload_n hC dX6_commutes_11 rfl ?_
    refine z_inv1 hM dX6_commutes_12 vl_RX6_116 rfl rfl rfl (Nat.le_of_ble_eq_true rfl) (Nat.le_of_ble_eq_true rfl) ?_
    refine qm_heldOf (by omega) (fun v3 h_v3 t_v3 => ?_)
    have e_v3 : hl = v3 := ((t_v3 trivial).trans qg1).symm
    clear t_v3
    subst e_v3
    refine r_iconst hC dX6_commutes_15 rfl ?_
    refine r_isubE hC ((hl - 2)) dX6_commutes_16 (by omega) (by unfold inR; omega) ?_
    refine z_ins3 hM dX6_commutes_17 tl_RX6_76 rfl (Nat.le_of_ble_eq_true rfl) (Nat.le_of_ble_eq_true rfl) ?_
    refine qm_isIn (fun h5 => ?_) (fun h5 => ?_)
    · refine r_if_ne (tgt := 25) hC dX6_commutes_20 rfl (fun h6 => ?_) (fun h6 => by omega)
      refine r_aload_n hC dX6_commutes_25 rfl ?_
      refine r_iload_n hC dX6_commutes_26 rfl ?_
      refine z_inv1 hM dX6_commutes_27 vl_RX6_194 rfl rfl rfl (Nat.le_of_ble_eq_true rfl) (Nat.le_of_ble_eq_true rfl) ?_
      refine qm_layAll (by omega) rfl (fun ρ7 g_ρ7 b_ρ7 t_ρ7 => ?_)
      have q_ρ7 : ρ7 30 0 8 = hl := by have hq := t_ρ7 trivial; have hr := qg1; omega
      refine r_aload_n hC dX6_commutes_30 rfl ?_
      refine r_aload_n hC dX6_commutes_31 rfl ?_
      refine r_iload_n hC dX6_commutes_32 rfl ?_
      refine r_iconst hC dX6_commutes_33 rfl ?_
      refine z_inv2 hM dX6_commutes_34 vl_RX6_80 rfl rfl rfl (Nat.le_of_ble_eq_true rfl) (Nat.le_of_ble_eq_true rfl) ?_
      refine qm_of (by omega) (by omega) (fun v9 h_v9 h5_v9 h0_v9 t_v9 => ?_)
      clear t_v9
      refine z_inv1 hM dX6_commutes_37 vl_RX6_161 rfl rfl rfl (Nat.le_of_ble_eq_true rfl) (Nat.le_of_ble_eq_true rfl) ?_
      refine qm_goThrough (n := hl) (by omega) (by have hq := q_ρ7; omega) ?_
      refine r_aload_n hC dX6_commutes_40 rfl ?_
      refine r_aload_n hC dX6_commutes_41 rfl ?_
      refine r_iload_n hC dX6_commutes_42 rfl ?_
      refine r_iconst hC dX6_commutes_43 rfl ?_
      refine z_inv2 hM dX6_commutes_44 vl_RX6_80 rfl rfl rfl (Nat.le_of_ble_eq_true rfl) (Nat.le_of_ble_eq_true rfl) ?_
      refine qm_of (by omega) (by omega) (fun v10 h_v10 h5_v10 h0_v10 t_v10 => ?_)
      clear t_v10
      refine z_inv1 hM dX6_commutes_47 vl_RX6_274 rfl rfl rfl (Nat.le_of_ble_eq_true rfl) (Nat.le_of_ble_eq_true rfl) ?_
      refine qm_keepNumbers ?_
      refine r_aload_n hC dX6_commutes_50 rfl ?_
      refine z_getR hM dX6_commutes_51 fl_RX6_28 rfl rfl (vld_of (n := 1) rfl (by omega) (by omega)) ?_
      refine r_iload_n hC dX6_commutes_54 rfl ?_
      refine z_iald hM dX6_commutes_55 rfl (by omega) (by omega) (fun v11 h_v11 o_v11 t_v11 => ?_)
      clear t_v11
      refine r_istore_n hC dX6_commutes_56 rfl ?_
      refine r_aload_n hC dX6_commutes_57 rfl ?_
      refine z_getR hM dX6_commutes_58 fl_RX6_28 rfl rfl (vld_of (n := 1) rfl (by omega) (by omega)) ?_
      refine r_iload_n hC dX6_commutes_61 rfl ?_
      refine r_aload_n hC dX6_commutes_62 rfl ?_
      refine z_getR hM dX6_commutes_63 fl_RX6_28 rfl rfl (vld_of (n := 1) rfl (by omega) (by omega)) ?_
      refine r_iload_n hC dX6_commutes_66 rfl ?_
      refine r_iconst hC dX6_commutes_67 rfl ?_
      refine r_iaddE hC ((x + 1)) dX6_commutes_68 (by omega) (by unfold inR; omega) ?_
      refine z_iald hM dX6_commutes_69 rfl (by omega) (by omega) (fun v12 h_v12 o_v12 t_v12 => ?_)
      clear t_v12
      refine z_iastG hM dX6_commutes_70 rfl (by omega) (by omega) ⟨Or.inr (by simp [DL]), Or.inr (by simp [DF])⟩ trivial (fun ρ13 a_ρ13 q_ρ13 => ?_)
      refine r_aload_n hC dX6_commutes_71 rfl ?_
      refine z_getR hM dX6_commutes_72 fl_RX6_28 rfl rfl (vld_of (n := 1) rfl (by omega) (by omega)) ?_
      refine r_iload_n hC dX6_commutes_75 rfl ?_
      refine r_iconst hC dX6_commutes_76 rfl ?_
      refine r_iaddE hC ((x + 1)) dX6_commutes_77 (by omega) (by unfold inR; omega) ?_
      refine r_iload_n hC dX6_commutes_78 rfl ?_
      refine z_iastG hM dX6_commutes_79 rfl (by omega) (by omega) ⟨Or.inr (by simp [DL]), Or.inr (by simp [DF])⟩ trivial (fun ρ14 a_ρ14 q_ρ14 => ?_)
      refine r_aload_n hC dX6_commutes_80 rfl ?_
      refine r_aload_n hC dX6_commutes_81 rfl ?_
      refine r_iload_n hC dX6_commutes_82 rfl ?_
      refine r_iconst hC dX6_commutes_83 rfl ?_
      refine z_inv2 hM dX6_commutes_84 vl_RX6_80 rfl rfl rfl (Nat.le_of_ble_eq_true rfl) (Nat.le_of_ble_eq_true rfl) ?_
      refine qm_of (by omega) (by omega) (fun v15 h_v15 h5_v15 h0_v15 t_v15 => ?_)
      clear t_v15
      refine z_inv1 hM dX6_commutes_87 vl_RX6_161 rfl rfl rfl (Nat.le_of_ble_eq_true rfl) (Nat.le_of_ble_eq_true rfl) ?_
      refine qm_goThrough (n := hl) (by omega) (by have hq := ((a_ρ14 _ _ _ (by omega)).trans ((a_ρ13 _ _ _ (by omega)).trans q_ρ7)); omega) ?_
      refine r_aload_n hC dX6_commutes_90 rfl ?_
      refine r_aload_n hC dX6_commutes_91 rfl ?_
      refine r_iload_n hC dX6_commutes_92 rfl ?_
      refine r_iconst hC dX6_commutes_93 rfl ?_
      refine z_inv2 hM dX6_commutes_94 vl_RX6_80 rfl rfl rfl (Nat.le_of_ble_eq_true rfl) (Nat.le_of_ble_eq_true rfl) ?_
      refine qm_of (by omega) (by omega) (fun v16 h_v16 h5_v16 h0_v16 t_v16 => ?_)
      clear t_v16
      refine z_inv1 hM dX6_commutes_97 vl_RX6_277 rfl rfl rfl (Nat.le_of_ble_eq_true rfl) (Nat.le_of_ble_eq_true rfl) ?_
      refine qm_areKept (fun v17 h_v17 => ?_)
      refine r_if_eq (tgt := 107) hC dX6_commutes_100 rfl (fun h18 => ?_) (fun h18 => ?_)
      · refine r_iconst hC dX6_commutes_107 rfl ?_
        refine y_iret hK rfl dX6_commutes_108 ?_
        exact k _ _ (((Gx.gx (Gx.rf) g_ρ7 (fun _ _ _ h => h)).al a_ρ13 (by first | (simp; done) | omega | (simp; omega))).al a_ρ14 (by first | (simp; done) | omega | (simp; omega))) (by omega)
      · refine r_iconst hC dX6_commutes_103 rfl ?_
        refine r_goto (tgt := 108) hC dX6_commutes_104 rfl ?_
        refine y_iret hK rfl dX6_commutes_108 ?_
        exact k _ _ (((Gx.gx (Gx.rf) g_ρ7 (fun _ _ _ h => h)).al a_ρ13 (by first | (simp; done) | omega | (simp; omega))).al a_ρ14 (by first | (simp; done) | omega | (simp; omega))) (by omega)
    · refine r_if_ne (tgt := 25) hC dX6_commutes_20 rfl (fun h19 => by omega) (fun h19 => ?_)
      refine r_iconst hC dX6_commutes_23 rfl ?_
      refine y_iret hK rfl dX6_commutes_24 ?_
      exact k _ _ (Gx.rf) (by omega)
  · refine r_if_eq (tgt := 23) hC dX6_commutes_5 rfl (fun h20 => ?_) (fun h20 => by omega)
    refine r_iconst hC dX6_commutes_23 rfl ?_
    refine y_iret hK rfl dX6_commutes_24 ?_
    exact k _ _ (Gx.rf) (by omega)
theorem qm_commutes {eb : Bool} {d : Nat} {P : Option Vl → Mm → Prop} {σ : Mm} {l x : Int} (hL : HM σ)  (k : ∀ r : Int, -2147483648 ≤ r ∧ r ≤ 2147483647 → P (some (vI r)) σ) : WT (false, eb, false) (d + 4) 230 [vR 30 0, vI l, vI x] σ P := by
  refine WT_loose (false, eb, true) (fun h => h) (fun h => h) (fun c j q => ?_) (fun ρ hL_ hF hT hO => ?_)
  · rcases q with q | q | q | q
    · exact Or.inl q
    · cases q.1
    · exact Or.inr (Or.inr (Or.inl q))
    · cases q.1
  · refine qm_commutes_S  (qg0 := rfl) (qg1 := rfl) (hL.tr hT) (fun r ρ2 g hr => ⟨σ, k r hr, fun h => Or.inl h, fun h => Or.inl h, fun c i j q => ?_⟩)
    refine (g c i j ?_).trans (hT c i j q)
    rintro (rfl | ⟨rfl, rfl⟩)
    all_goals
      rcases q with q | q | q | q
      · exact q
      · exact q.2
      · rcases q.2 with z | z <;> exact z
      · cases q.1
theorem qm_same_S {eb : Bool} {d : Nat} {P : Option Vl → Mm → Prop} {σ : Mm} {l o n hl ho : Int} (qg0 : σ 30 0 8 = n) (qg1 : σ 31 0 ((22 * l) + 5) = hl) (qg2 : σ 31 0 ((22 * o) + 5) = ho) (hL : HM σ)  (k : ∀ (r : Int) (ρ : Mm), Gx (fun c x y => c = 37 ∨ c = 30 ∧ y = 8) σ ρ → (-2147483648 ≤ r ∧ r ≤ 2147483647) → P (some (vI r)) ρ) : WT (false, eb, true) (d + 4) 234 [vR 30 0, vI l, vI o] σ P := by
  refine WT_in fun K hK => ?_
  have hK : StpY (false, eb, true) cX6_same RX6 (some .int) (WT (false, eb, true) (d + 3)) P K := hK
  have hM := hK.1
  have hC := hK.1.1
  show K 0 [some (vR 30 0), some (vI l), some (vI o)] [] σ
  refine r_rngz hC (fun g0 => ?_)
  have r_l : -2147483648 ≤ l ∧ l ≤ 2147483647 := inR_le (g0 (vI l) (by simp))
  have r_o : -2147483648 ≤ o ∧ o ≤ 2147483647 := inR_le (g0 (vI o) (by simp))
  refine r_aload_n hC dX6_same_0 rfl ?_
  refine r_iload_n hC dX6_same_1 rfl ?_
  refine r_iload_n hC dX6_same_2 rfl ?_
  refine z_inv2 hM dX6_same_3 vl_RX6_280 rfl rfl rfl (Nat.le_of_ble_eq_true rfl) (Nat.le_of_ble_eq_true rfl) ?_
  refine qm_areAlike (fun h1 => ?_) ?_
  · have b0_h1 : 0 ≤ hl ∧ hl ≤ 120 := by have := HM.h31 hL (l := l) (by omega) (by omega); have := qg1; omega
    have b1_h1 : 0 ≤ ho ∧ ho ≤ 120 := by have := HM.h31 hL (l := o) (by omega) (by omega); have := qg2; omega
    refine r_if_ne (tgt := 11) hC dX6_same_6 rfl (fun h2 => ?_) (fun h2 => by omega)
    refine r_aload_n hC dX6_same_11 rfl ?_
    refine r_iload_n hC dX6_same_12 rfl ?_
    refine z_inv1 hM dX6_same_13 vl_RX6_116 rfl rfl rfl (Nat.le_of_ble_eq_true rfl) (Nat.le_of_ble_eq_true rfl) ?_
    refine qm_heldOf (by omega) (fun v3 h_v3 t_v3 => ?_)
    have e_v3 : hl = v3 := ((t_v3 trivial).trans qg1).symm
    clear t_v3
    subst e_v3
    refine r_if_eq (tgt := 27) hC dX6_same_16 rfl (fun h4 => ?_) (fun h4 => ?_)
    · refine r_aload_n hC dX6_same_27 rfl ?_
      refine r_iload_n hC dX6_same_28 rfl ?_
      refine z_inv1 hM dX6_same_29 vl_RX6_116 rfl rfl rfl (Nat.le_of_ble_eq_true rfl) (Nat.le_of_ble_eq_true rfl) ?_
      refine qm_heldOf (by omega) (fun v5 h_v5 t_v5 => ?_)
      have e_v5 : hl = v5 := ((t_v5 trivial).trans qg1).symm
      clear t_v5
      subst e_v5
      refine r_aload_n hC dX6_same_32 rfl ?_
      refine r_iload_n hC dX6_same_33 rfl ?_
      refine z_inv1 hM dX6_same_34 vl_RX6_116 rfl rfl rfl (Nat.le_of_ble_eq_true rfl) (Nat.le_of_ble_eq_true rfl) ?_
      refine qm_heldOf (by omega) (fun v6 h_v6 t_v6 => ?_)
      have e_v6 : ho = v6 := ((t_v6 trivial).trans qg2).symm
      clear t_v6
      subst e_v6
      refine r_icmp_ne (tgt := 44) hC dX6_same_37 rfl (fun h7 => ?_) (fun h7 => ?_)
      · refine r_iconst hC dX6_same_44 rfl ?_
        refine y_iret hK rfl dX6_same_45 ?_
        exact k _ _ (Gx.rf) (by omega)
      · refine r_iconst hC dX6_same_40 rfl ?_
        refine r_goto (tgt := 45) hC dX6_same_41 rfl ?_
        refine y_iret hK rfl dX6_same_45 ?_
        exact k _ _ (Gx.rf) (by omega)
    · refine r_aload_n hC dX6_same_19 rfl ?_
      refine r_iload_n hC dX6_same_20 rfl ?_
      refine z_inv1 hM dX6_same_21 vl_RX6_116 rfl rfl rfl (Nat.le_of_ble_eq_true rfl) (Nat.le_of_ble_eq_true rfl) ?_
      refine qm_heldOf (by omega) (fun v8 h_v8 t_v8 => ?_)
      have e_v8 : ho = v8 := ((t_v8 trivial).trans qg2).symm
      clear t_v8
      subst e_v8
      refine r_if_ne (tgt := 46) hC dX6_same_24 rfl (fun h9 => ?_) (fun h9 => ?_)
      · refine r_aload_n hC dX6_same_46 rfl ?_
        refine r_iload_n hC dX6_same_47 rfl ?_
        refine z_inv1 hM dX6_same_48 vl_RX6_194 rfl rfl rfl (Nat.le_of_ble_eq_true rfl) (Nat.le_of_ble_eq_true rfl) ?_
        refine qm_layAll (by omega) rfl (fun ρ10 g_ρ10 b_ρ10 t_ρ10 => ?_)
        have q_ρ10 : ρ10 30 0 8 = hl := by have hq := t_ρ10 trivial; have hr := qg1; omega
        refine r_aload_n hC dX6_same_51 rfl ?_
        refine r_aload_n hC dX6_same_52 rfl ?_
        refine r_iload_n hC dX6_same_53 rfl ?_
        refine r_iconst hC dX6_same_54 rfl ?_
        refine z_inv2 hM dX6_same_55 vl_RX6_80 rfl rfl rfl (Nat.le_of_ble_eq_true rfl) (Nat.le_of_ble_eq_true rfl) ?_
        refine qm_of (by omega) (by omega) (fun v12 h_v12 h5_v12 h0_v12 t_v12 => ?_)
        clear t_v12
        refine z_inv1 hM dX6_same_58 vl_RX6_161 rfl rfl rfl (Nat.le_of_ble_eq_true rfl) (Nat.le_of_ble_eq_true rfl) ?_
        refine qm_goThrough (n := hl) (by omega) (by have hq := q_ρ10; omega) ?_
        refine r_aload_n hC dX6_same_61 rfl ?_
        refine r_aload_n hC dX6_same_62 rfl ?_
        refine r_iload_n hC dX6_same_63 rfl ?_
        refine r_iconst hC dX6_same_64 rfl ?_
        refine z_inv2 hM dX6_same_65 vl_RX6_80 rfl rfl rfl (Nat.le_of_ble_eq_true rfl) (Nat.le_of_ble_eq_true rfl) ?_
        refine qm_of (by omega) (by omega) (fun v13 h_v13 h5_v13 h0_v13 t_v13 => ?_)
        clear t_v13
        refine z_inv1 hM dX6_same_68 vl_RX6_274 rfl rfl rfl (Nat.le_of_ble_eq_true rfl) (Nat.le_of_ble_eq_true rfl) ?_
        refine qm_keepNumbers ?_
        refine r_aload_n hC dX6_same_71 rfl ?_
        refine r_iload_n hC dX6_same_72 rfl ?_
        refine z_inv1 hM dX6_same_73 vl_RX6_194 rfl rfl rfl (Nat.le_of_ble_eq_true rfl) (Nat.le_of_ble_eq_true rfl) ?_
        refine qm_layAll (by omega) rfl (fun ρ14 g_ρ14 b_ρ14 t_ρ14 => ?_)
        have q_ρ14 : ρ14 30 0 8 = ho := by have hq := t_ρ14 trivial; have hr := ((g_ρ10 _ _ _ (by omega)).trans qg2); omega
        refine r_aload_n hC dX6_same_76 rfl ?_
        refine r_aload_n hC dX6_same_77 rfl ?_
        refine r_iload_n hC dX6_same_78 rfl ?_
        refine r_iconst hC dX6_same_79 rfl ?_
        refine z_inv2 hM dX6_same_80 vl_RX6_80 rfl rfl rfl (Nat.le_of_ble_eq_true rfl) (Nat.le_of_ble_eq_true rfl) ?_
        refine qm_of (by omega) (by omega) (fun v16 h_v16 h5_v16 h0_v16 t_v16 => ?_)
        clear t_v16
        refine z_inv1 hM dX6_same_83 vl_RX6_161 rfl rfl rfl (Nat.le_of_ble_eq_true rfl) (Nat.le_of_ble_eq_true rfl) ?_
        refine qm_goThrough (n := ho) (by omega) (by have hq := q_ρ14; omega) ?_
        refine r_aload_n hC dX6_same_86 rfl ?_
        refine r_aload_n hC dX6_same_87 rfl ?_
        refine r_iload_n hC dX6_same_88 rfl ?_
        refine r_iconst hC dX6_same_89 rfl ?_
        refine z_inv2 hM dX6_same_90 vl_RX6_80 rfl rfl rfl (Nat.le_of_ble_eq_true rfl) (Nat.le_of_ble_eq_true rfl) ?_
        refine qm_of (by omega) (by omega) (fun v17 h_v17 h5_v17 h0_v17 t_v17 => ?_)
        clear t_v17
        refine z_inv1 hM dX6_same_93 vl_RX6_277 rfl rfl rfl (Nat.le_of_ble_eq_true rfl) (Nat.le_of_ble_eq_true rfl) ?_
        refine qm_areKept (fun v18 h_v18 => ?_)
        refine r_if_eq (tgt := 103) hC dX6_same_96 rfl (fun h19 => ?_) (fun h19 => ?_)
        · refine r_iconst hC dX6_same_103 rfl ?_
          refine y_iret hK rfl dX6_same_104 ?_
          exact k _ _ (Gx.gx (Gx.gx (Gx.rf) g_ρ10 (fun _ _ _ h => h)) g_ρ14 (fun _ _ _ h => h)) (by omega)
        · refine r_iconst hC dX6_same_99 rfl ?_
          refine r_goto (tgt := 104) hC dX6_same_100 rfl ?_
          refine y_iret hK rfl dX6_same_104 ?_
          exact k _ _ (Gx.gx (Gx.gx (Gx.rf) g_ρ10 (fun _ _ _ h => h)) g_ρ14 (fun _ _ _ h => h)) (by omega)
      · refine r_aload_n hC dX6_same_27 rfl ?_
        refine r_iload_n hC dX6_same_28 rfl ?_
        refine z_inv1 hM dX6_same_29 vl_RX6_116 rfl rfl rfl (Nat.le_of_ble_eq_true rfl) (Nat.le_of_ble_eq_true rfl) ?_
        refine qm_heldOf (by omega) (fun v20 h_v20 t_v20 => ?_)
        have e_v20 : hl = v20 := ((t_v20 trivial).trans qg1).symm
        clear t_v20
        subst e_v20
        refine r_aload_n hC dX6_same_32 rfl ?_
        refine r_iload_n hC dX6_same_33 rfl ?_
        refine z_inv1 hM dX6_same_34 vl_RX6_116 rfl rfl rfl (Nat.le_of_ble_eq_true rfl) (Nat.le_of_ble_eq_true rfl) ?_
        refine qm_heldOf (by omega) (fun v21 h_v21 t_v21 => ?_)
        have e_v21 : ho = v21 := ((t_v21 trivial).trans qg2).symm
        clear t_v21
        subst e_v21
        refine r_icmp_ne (tgt := 44) hC dX6_same_37 rfl (fun h22 => ?_) (fun h22 => by omega)
        refine r_iconst hC dX6_same_44 rfl ?_
        refine y_iret hK rfl dX6_same_45 ?_
        exact k _ _ (Gx.rf) (by omega)
  · refine r_if_ne (tgt := 11) hC dX6_same_6 rfl (fun h23 => by omega) (fun h23 => ?_)
    refine r_iconst hC dX6_same_9 rfl ?_
    refine y_iret hK rfl dX6_same_10 ?_
    exact k _ _ (Gx.rf) (by omega)
theorem qm_same {eb : Bool} {d : Nat} {P : Option Vl → Mm → Prop} {σ : Mm} {l o : Int} (hL : HM σ)  (k : ∀ r : Int, -2147483648 ≤ r ∧ r ≤ 2147483647 → P (some (vI r)) σ) : WT (false, eb, false) (d + 4) 234 [vR 30 0, vI l, vI o] σ P := by
  refine WT_loose (false, eb, true) (fun h => h) (fun h => h) (fun c j q => ?_) (fun ρ hL_ hF hT hO => ?_)
  · rcases q with q | q | q | q
    · exact Or.inl q
    · cases q.1
    · exact Or.inr (Or.inr (Or.inl q))
    · cases q.1
  · refine qm_same_S  (qg0 := rfl) (qg1 := rfl) (qg2 := rfl) (hL.tr hT) (fun r ρ2 g hr => ⟨σ, k r hr, fun h => Or.inl h, fun h => Or.inl h, fun c i j q => ?_⟩)
    refine (g c i j ?_).trans (hT c i j q)
    rintro (rfl | ⟨rfl, rfl⟩)
    all_goals
      rcases q with q | q | q | q
      · exact q
      · exact q.2
      · rcases q.2 with z | z <;> exact z
      · cases q.1
theorem qm_law {eb : Bool} {d : Nat} {P : Option Vl → Mm → Prop} {σ : Mm} {l h w : Int}   (k : ∀ r : Int, -2147483648 ≤ r ∧ r ≤ 2147483647 → P (some (vI r)) σ) : WT (false, eb, false) (d + 7) 235 [vR 30 0, vI l, vI h, vI w] σ P := by
  refine WT_in fun K hK => ?_
  have hK : StpY (false, eb, false) cX6_law RX6 (some .int) (WT (false, eb, false) (d + 6)) P K := hK
  have hM := hK.1
  have hC := hK.1.1
  show K 0 [some (vR 30 0), some (vI l), some (vI h), some (vI w)] [] σ
  refine r_rngz hC (fun g0 => ?_)
  have r_l : -2147483648 ≤ l ∧ l ≤ 2147483647 := inR_le (g0 (vI l) (by simp))
  have r_h : -2147483648 ≤ h ∧ h ≤ 2147483647 := inR_le (g0 (vI h) (by simp))
  have r_w : -2147483648 ≤ w ∧ w ≤ 2147483647 := inR_le (g0 (vI w) (by simp))
  refine r_iload_n hC dX6_law_0 rfl ?_
  refine r_iconst hC dX6_law_1 rfl ?_
  refine r_iconst hC dX6_law_2 rfl ?_
  refine z_ins3 hM dX6_law_3 tl_RX6_76 rfl (Nat.le_of_ble_eq_true rfl) (Nat.le_of_ble_eq_true rfl) ?_
  refine qm_isIn (fun h2 => ?_) (fun h2 => ?_)
  · refine r_if_eq (tgt := 18) hC dX6_law_6 rfl (fun h3 => by omega) (fun h3 => ?_)
    refine r_aload_n hC dX6_law_9 rfl ?_
    refine r_iload_n hC dX6_law_10 rfl ?_
    refine r_iload_n hC dX6_law_11 rfl ?_
    refine z_inv2 hM dX6_law_12 vl_RX6_283 rfl rfl rfl (Nat.le_of_ble_eq_true rfl) (Nat.le_of_ble_eq_true rfl) ?_
    refine qm_total (fun v4 h_v4 => ?_)
    refine r_goto (tgt := 20) hC dX6_law_15 rfl ?_
    refine y_iret hK rfl dX6_law_20 ?_
    exact k _ (by omega)
  · refine r_if_eq (tgt := 18) hC dX6_law_6 rfl (fun h5 => ?_) (fun h5 => by omega)
    refine r_ldc hC dX6_law_18 co_RX6_160 rfl ?_
    refine y_iret hK rfl dX6_law_20 ?_
    exact k _ (by omega)
theorem qm_layParts {eb : Bool} {d : Nat} {P : Option Vl → Mm → Prop} {σ : Mm} {l w hl : Int} (b_l : 0 ≤ l ∧ l ≤ 7) (b_w : 0 ≤ w ∧ w ≤ 6) (b_hl : 0 ≤ hl ∧ hl ≤ 120) (qg0 : σ 31 0 ((22 * l) + 5) = hl)  (k : P none σ) : WT (false, eb, false) (d + 6) 236 [vR 30 0, vI l, vI w] σ P := by
  refine WT_in fun K hK => ?_
  have hK : StpY (false, eb, false) cX6_layParts RX6 (none) (WT (false, eb, false) (d + 5)) P K := hK
  have hM := hK.1
  have hC := hK.1.1
  show K 0 [some (vR 30 0), some (vI l), some (vI w), none, none] [] σ
  refine r_iconst hC dX6_layParts_0 rfl ?_
  refine r_istore_n hC dX6_layParts_1 rfl ?_
  have L2 : ∀ (n2 : Nat) (w1 : Int), 0 ≤ w1 ∧ w1 ≤ 120 → 120 - w1 < (n2 : Int) → K 2 [some (vR 30 0), some (vI l), some (vI w), some (vI w1), none] [] σ := by
    intro n2
    induction n2 with
    | zero => intro w1  f_w1  hm  ; omega
    | succ n2 ih2 =>
      intro w1  f_w1  hm2  
      refine r_iload_n hC dX6_layParts_2 rfl ?_
      refine r_aload_n hC dX6_layParts_3 rfl ?_
      refine r_iload_n hC dX6_layParts_4 rfl ?_
      refine z_inv1 hM dX6_layParts_5 vl_RX6_116 rfl rfl rfl (Nat.le_of_ble_eq_true rfl) (Nat.le_of_ble_eq_true rfl) ?_
      refine qm_heldOf (by omega) (fun v2 h_v2 t_v2 => ?_)
      have e_v2 : hl = v2 := ((t_v2 trivial).trans qg0).symm
      clear t_v2
      subst e_v2
      refine r_icmp_ge (tgt := 57) hC dX6_layParts_8 rfl (fun h3 => ?_) (fun h3 => ?_)
      · refine y_vret hK rfl dX6_layParts_57 ?_
        exact k
      · refine r_iload_n hC dX6_layParts_11 rfl ?_
        refine r_istore hC dX6_layParts_12 rfl ?_
        have L14 : ∀ (n14 : Nat) (w4 : Int), 0 ≤ w4 ∧ w4 ≤ 120 → 120 - w4 < (n14 : Int) → K 14 [some (vR 30 0), some (vI l), some (vI w), some (vI w1), some (vI w4)] [] σ := by
          intro n14
          induction n14 with
          | zero => intro w4  f_w4  hm  ; omega
          | succ n14 ih14 =>
            intro w4  f_w4  hm14  
            refine r_iload hC dX6_layParts_14 rfl ?_
            refine r_aload_n hC dX6_layParts_16 rfl ?_
            refine r_iload_n hC dX6_layParts_17 rfl ?_
            refine z_inv1 hM dX6_layParts_18 vl_RX6_116 rfl rfl rfl (Nat.le_of_ble_eq_true rfl) (Nat.le_of_ble_eq_true rfl) ?_
            refine qm_heldOf (by omega) (fun v5 h_v5 t_v5 => ?_)
            have e_v5 : hl = v5 := ((t_v5 trivial).trans qg0).symm
            clear t_v5
            subst e_v5
            refine r_icmp_ge (tgt := 51) hC dX6_layParts_21 rfl (fun h6 => ?_) (fun h6 => ?_)
            · refine r_iincE hC ((w1 + 1)) dX6_layParts_51 rfl rfl (by omega) (by unfold inR; omega) ?_
              refine r_goto (tgt := 2) hC dX6_layParts_54 rfl ?_
              refine r_forget hC (ls2 := [some (vR 30 0), some (vI l), some (vI w), some (vI (w1 + 1)), none]) (lsub_some (lsub_some (lsub_some (lsub_some (lsub_none lsub_nil))))) ?_
              exact ih2 ((w1 + 1))  (by omega)  (by omega)  
            · refine r_aload_n hC dX6_layParts_24 rfl ?_
              refine z_getR hM dX6_layParts_25 fl_RX6_67 rfl rfl (vld_of (n := 1) rfl (by omega) (by omega)) ?_
              refine r_bipush hC dX6_layParts_28 rfl ?_
              refine r_iload_n hC dX6_layParts_30 rfl ?_
              refine r_imulE hC ((120 * w1)) dX6_layParts_31 (by omega) (by unfold inR; omega) ?_
              refine r_iload hC dX6_layParts_32 rfl ?_
              refine r_iaddE hC (((120 * w1) + w4)) dX6_layParts_34 (by omega) (by unfold inR; omega) ?_
              refine r_aload_n hC dX6_layParts_35 rfl ?_
              refine r_iload_n hC dX6_layParts_36 rfl ?_
              refine r_iload_n hC dX6_layParts_37 rfl ?_
              refine r_iload hC dX6_layParts_38 rfl ?_
              refine r_iload_n hC dX6_layParts_40 rfl ?_
              refine z_inv4 hM dX6_layParts_41 vl_RX6_243 rfl rfl rfl (Nat.le_of_ble_eq_true rfl) (Nat.le_of_ble_eq_true rfl) ?_
              refine qm_comesFrom (by omega) (by omega) (by omega) (by omega) (fun v7 h_v7 => ?_)
              refine z_iastU hM dX6_layParts_44 rfl (by omega) (by omega) (by simp [Un, Tb, DL, DF, DR, DX]) (by simp [Okv]) ?_
              refine r_iincE hC ((w4 + 1)) dX6_layParts_45 rfl rfl (by omega) (by unfold inR; omega) ?_
              refine r_goto (tgt := 14) hC dX6_layParts_48 rfl ?_
              exact ih14 ((w4 + 1))  (by omega)  (by omega)  
        exact L14 122 (w1)  (by omega)  (by omega)  
  exact L2 122 (0)  (by omega)  (by omega)  
theorem qm_shortest_S {eb : Bool} {d : Nat} {P : Option Vl → Mm → Prop} {σ : Mm} {l w b z hl : Int} (qg0 : σ 31 0 ((22 * l) + 5) = hl) (hL : HM σ)  (k : ∀ r : Int, -1 ≤ r ∧ r ≤ 120 → P (some (vI r)) σ) : WT (false, eb, false) (d + 7) 237 [vR 30 0, vI l, vI w, vI b, vI z] σ P := by
  refine WT_in fun K hK => ?_
  have hK : StpY (false, eb, false) cX6_shortest RX6 (some .int) (WT (false, eb, false) (d + 6)) P K := hK
  have hM := hK.1
  have hC := hK.1.1
  show K 0 [some (vR 30 0), some (vI l), some (vI w), some (vI b), some (vI z), none, none] [] σ
  refine r_rngz hC (fun g0 => ?_)
  have r_l : -2147483648 ≤ l ∧ l ≤ 2147483647 := inR_le (g0 (vI l) (by simp))
  have r_w : -2147483648 ≤ w ∧ w ≤ 2147483647 := inR_le (g0 (vI w) (by simp))
  have r_b : -2147483648 ≤ b ∧ b ≤ 2147483647 := inR_le (g0 (vI b) (by simp))
  have r_z : -2147483648 ≤ z ∧ z ≤ 2147483647 := inR_le (g0 (vI z) (by simp))
  refine r_aload_n hC dX6_shortest_0 rfl ?_
  refine r_iload_n hC dX6_shortest_1 rfl ?_
  refine r_iload_n hC dX6_shortest_2 rfl ?_
  refine z_inv2 hM dX6_shortest_3 vl_RX6_207 rfl rfl rfl (Nat.le_of_ble_eq_true rfl) (Nat.le_of_ble_eq_true rfl) ?_
  refine qm_isNumber (fun h1 => ?_) ?_
  · have b0_h1 : 0 ≤ hl ∧ hl ≤ 120 := by have := HM.h31 hL (l := l) (by omega) (by omega); have := qg0; omega
    refine r_if_eq (tgt := 19) hC dX6_shortest_6 rfl (fun h2 => by omega) (fun h2 => ?_)
    refine r_iload hC dX6_shortest_9 rfl ?_
    refine r_iconst hC dX6_shortest_11 rfl ?_
    refine r_iconst hC dX6_shortest_12 rfl ?_
    refine z_ins3 hM dX6_shortest_13 tl_RX6_76 rfl (Nat.le_of_ble_eq_true rfl) (Nat.le_of_ble_eq_true rfl) ?_
    refine qm_isIn (fun h4 => ?_) (fun h4 => ?_)
    · refine r_if_ne (tgt := 21) hC dX6_shortest_16 rfl (fun h5 => ?_) (fun h5 => by omega)
      refine r_aload_n hC dX6_shortest_21 rfl ?_
      refine r_iload_n hC dX6_shortest_22 rfl ?_
      refine r_iload_n hC dX6_shortest_23 rfl ?_
      refine z_inv2 hM dX6_shortest_24 vl_RX6_286 rfl rfl rfl (Nat.le_of_ble_eq_true rfl) (Nat.le_of_ble_eq_true rfl) ?_
      refine qm_layParts (hl := hl) (by omega) (by omega) (by omega) (by have hq := qg0; omega) ?_
      refine r_iconst hC dX6_shortest_27 rfl ?_
      refine r_istore hC dX6_shortest_28 rfl ?_
      have L30 : ∀ (n30 : Nat) (w6 : Int), 1 ≤ w6 ∧ w6 ≤ 121 → 121 - w6 < (n30 : Int) → K 30 [some (vR 30 0), some (vI l), some (vI w), some (vI b), some (vI z), some (vI w6), none] [] σ := by
        intro n30
        induction n30 with
        | zero => intro w6  f_w6  hm  ; omega
        | succ n30 ih30 =>
          intro w6  f_w6  hm30  
          refine r_iload hC dX6_shortest_30 rfl ?_
          refine r_aload_n hC dX6_shortest_32 rfl ?_
          refine r_iload_n hC dX6_shortest_33 rfl ?_
          refine z_inv1 hM dX6_shortest_34 vl_RX6_116 rfl rfl rfl (Nat.le_of_ble_eq_true rfl) (Nat.le_of_ble_eq_true rfl) ?_
          refine qm_heldOf (by omega) (fun v7 h_v7 t_v7 => ?_)
          have e_v7 : hl = v7 := ((t_v7 trivial).trans qg0).symm
          clear t_v7
          subst e_v7
          refine r_icmp_gt (tgt := 106) hC dX6_shortest_37 rfl (fun h8 => ?_) (fun h8 => ?_)
          · refine r_iconst hC dX6_shortest_106 rfl ?_
            refine y_iret hK rfl dX6_shortest_107 ?_
            exact k _ (by omega)
          · refine r_iconst hC dX6_shortest_40 rfl ?_
            refine r_istore hC dX6_shortest_41 rfl ?_
            have L43 : ∀ (n43 : Nat) (w9 : Int), 0 ≤ w9 ∧ w9 ≤ 120 → 121 - w9 < (n43 : Int) → K 43 [some (vR 30 0), some (vI l), some (vI w), some (vI b), some (vI z), some (vI w6), some (vI w9)] [] σ := by
              intro n43
              induction n43 with
              | zero => intro w9  f_w9  hm  ; omega
              | succ n43 ih43 =>
                intro w9  f_w9  hm43  
                refine r_iload hC dX6_shortest_43 rfl ?_
                refine r_iload hC dX6_shortest_45 rfl ?_
                refine r_iaddE hC ((w9 + w6)) dX6_shortest_47 (by omega) (by unfold inR; omega) ?_
                refine r_aload_n hC dX6_shortest_48 rfl ?_
                refine r_iload_n hC dX6_shortest_49 rfl ?_
                refine z_inv1 hM dX6_shortest_50 vl_RX6_116 rfl rfl rfl (Nat.le_of_ble_eq_true rfl) (Nat.le_of_ble_eq_true rfl) ?_
                refine qm_heldOf (by omega) (fun v10 h_v10 t_v10 => ?_)
                have e_v10 : hl = v10 := ((t_v10 trivial).trans qg0).symm
                clear t_v10
                subst e_v10
                refine r_icmp_gt (tgt := 100) hC dX6_shortest_53 rfl (fun h11 => ?_) (fun h11 => ?_)
                · refine r_iincE hC ((w6 + 1)) dX6_shortest_100 rfl rfl (by omega) (by unfold inR; omega) ?_
                  refine r_goto (tgt := 30) hC dX6_shortest_103 rfl ?_
                  refine r_forget hC (ls2 := [some (vR 30 0), some (vI l), some (vI w), some (vI b), some (vI z), some (vI (w6 + 1)), none]) (lsub_some (lsub_some (lsub_some (lsub_some (lsub_some (lsub_some (lsub_none lsub_nil))))))) ?_
                  exact ih30 ((w6 + 1))  (by omega)  (by omega)  
                · refine r_aload_n hC dX6_shortest_56 rfl ?_
                  refine z_getR hM dX6_shortest_57 fl_RX6_67 rfl rfl (vld_of (n := 1) rfl (by omega) (by omega)) ?_
                  refine r_bipush hC dX6_shortest_60 rfl ?_
                  refine r_iload hC dX6_shortest_62 rfl ?_
                  refine r_imulE hC ((120 * w9)) dX6_shortest_64 (by omega) (by unfold inR; omega) ?_
                  refine r_iload hC dX6_shortest_65 rfl ?_
                  refine r_iaddE hC (((120 * w9) + w9)) dX6_shortest_67 (by omega) (by unfold inR; omega) ?_
                  refine r_iload hC dX6_shortest_68 rfl ?_
                  refine r_iaddE hC ((((120 * w9) + w9) + w6)) dX6_shortest_70 (by omega) (by unfold inR; omega) ?_
                  refine r_iconst hC dX6_shortest_71 rfl ?_
                  refine r_isubE hC (((((120 * w9) + w9) + w6) - 1)) dX6_shortest_72 (by omega) (by unfold inR; omega) ?_
                  refine z_iald hM dX6_shortest_73 rfl (by omega) (by omega) (fun v12 h_v12 o_v12 t_v12 => ?_)
                  clear t_v12
                  refine r_iload_n hC dX6_shortest_74 rfl ?_
                  refine z_ins2 hM dX6_shortest_75 tl_RX6_200 rfl (Nat.le_of_ble_eq_true rfl) (Nat.le_of_ble_eq_true rfl) ?_
                  refine qm_isReached (fun v13 h_v13 => ?_)
                  refine r_if_eq (tgt := 94) hC dX6_shortest_78 rfl (fun h14 => ?_) (fun h14 => ?_)
                  · refine r_iincE hC ((w9 + 1)) dX6_shortest_94 rfl rfl (by omega) (by unfold inR; omega) ?_
                    refine r_goto (tgt := 43) hC dX6_shortest_97 rfl ?_
                    exact ih43 ((w9 + 1))  (by omega)  (by omega)  
                  · refine r_iload hC dX6_shortest_81 rfl ?_
                    refine r_if_ne (tgt := 91) hC dX6_shortest_83 rfl (fun h15 => ?_) (fun h15 => ?_)
                    · refine r_iload hC dX6_shortest_91 rfl ?_
                      refine y_iret hK rfl dX6_shortest_93 ?_
                      exact k _ (by omega)
                    · refine r_iload hC dX6_shortest_86 rfl ?_
                      refine r_goto (tgt := 93) hC dX6_shortest_88 rfl ?_
                      refine y_iret hK rfl dX6_shortest_93 ?_
                      exact k _ (by omega)
            exact L43 123 (0)  (by omega)  (by omega)  
      exact L30 122 (1)  (by omega)  (by omega)  
    · refine r_if_ne (tgt := 21) hC dX6_shortest_16 rfl (fun h16 => by omega) (fun h16 => ?_)
      refine r_iconst hC dX6_shortest_19 rfl ?_
      refine y_iret hK rfl dX6_shortest_20 ?_
      exact k _ (by omega)
  · refine r_if_eq (tgt := 19) hC dX6_shortest_6 rfl (fun h17 => ?_) (fun h17 => by omega)
    refine r_iconst hC dX6_shortest_19 rfl ?_
    refine y_iret hK rfl dX6_shortest_20 ?_
    exact k _ (by omega)
theorem qm_windows_S {eb : Bool} {d : Nat} {P : Option Vl → Mm → Prop} {σ : Mm} {l w x y hl : Int} (qg0 : σ 31 0 ((22 * l) + 5) = hl) (hL : HM σ)  (k : ∀ r : Int, -2147483648 ≤ r ∧ r ≤ 2147483647 → P (some (vI r)) σ) : WT (false, eb, false) (d + 7) 238 [vR 30 0, vI l, vI w, vI x, vI y] σ P := by
  refine WT_in fun K hK => ?_
  have hK : StpY (false, eb, false) cX6_windows RX6 (some .int) (WT (false, eb, false) (d + 6)) P K := hK
  have hM := hK.1
  have hC := hK.1.1
  show K 0 [some (vR 30 0), some (vI l), some (vI w), some (vI x), some (vI y), none, none, none, none] [] σ
  refine r_rngz hC (fun g0 => ?_)
  have r_l : -2147483648 ≤ l ∧ l ≤ 2147483647 := inR_le (g0 (vI l) (by simp))
  have r_w : -2147483648 ≤ w ∧ w ≤ 2147483647 := inR_le (g0 (vI w) (by simp))
  have r_x : -2147483648 ≤ x ∧ x ≤ 2147483647 := inR_le (g0 (vI x) (by simp))
  have r_y : -2147483648 ≤ y ∧ y ≤ 2147483647 := inR_le (g0 (vI y) (by simp))
  refine r_aload_n hC dX6_windows_0 rfl ?_
  refine r_iload_n hC dX6_windows_1 rfl ?_
  refine r_iload_n hC dX6_windows_2 rfl ?_
  refine z_inv2 hM dX6_windows_3 vl_RX6_207 rfl rfl rfl (Nat.le_of_ble_eq_true rfl) (Nat.le_of_ble_eq_true rfl) ?_
  refine qm_isNumber (fun h1 => ?_) ?_
  · have b0_h1 : 0 ≤ hl ∧ hl ≤ 120 := by have := HM.h31 hL (l := l) (by omega) (by omega); have := qg0; omega
    refine r_if_ne (tgt := 11) hC dX6_windows_6 rfl (fun h2 => ?_) (fun h2 => by omega)
    refine r_aload_n hC dX6_windows_11 rfl ?_
    refine r_iload_n hC dX6_windows_12 rfl ?_
    refine r_iload_n hC dX6_windows_13 rfl ?_
    refine z_inv2 hM dX6_windows_14 vl_RX6_286 rfl rfl rfl (Nat.le_of_ble_eq_true rfl) (Nat.le_of_ble_eq_true rfl) ?_
    refine qm_layParts (hl := hl) (by omega) (by omega) (by omega) (by have hq := qg0; omega) ?_
    refine r_iconst hC dX6_windows_17 rfl ?_
    refine r_istore hC dX6_windows_18 rfl ?_
    refine r_iconst hC dX6_windows_20 rfl ?_
    refine r_istore hC dX6_windows_21 rfl ?_
    have L23 : ∀ (n23 : Nat) (w3 w4 : Int), -2147483648 ≤ w3 ∧ w3 ≤ 2147483647 → 0 ≤ w4 ∧ w4 ≤ 120 → 120 - w4 < (n23 : Int) → K 23 [some (vR 30 0), some (vI l), some (vI w), some (vI x), some (vI y), some (vI w3), some (vI w4), none, none] [] σ := by
      intro n23
      induction n23 with
      | zero => intro w3 w4  f_w3 f_w4  hm  ; omega
      | succ n23 ih23 =>
        intro w3 w4  f_w3 f_w4  hm23  
        refine r_iload hC dX6_windows_23 rfl ?_
        refine r_aload_n hC dX6_windows_25 rfl ?_
        refine r_iload_n hC dX6_windows_26 rfl ?_
        refine z_inv1 hM dX6_windows_27 vl_RX6_116 rfl rfl rfl (Nat.le_of_ble_eq_true rfl) (Nat.le_of_ble_eq_true rfl) ?_
        refine qm_heldOf (by omega) (fun v5 h_v5 t_v5 => ?_)
        have e_v5 : hl = v5 := ((t_v5 trivial).trans qg0).symm
        clear t_v5
        subst e_v5
        refine r_icmp_ge (tgt := 102) hC dX6_windows_30 rfl (fun h6 => ?_) (fun h6 => ?_)
        · refine r_iload hC dX6_windows_102 rfl ?_
          refine y_iret hK rfl dX6_windows_104 ?_
          exact k _ (by omega)
        · refine r_iload hC dX6_windows_33 rfl ?_
          refine r_istore hC dX6_windows_35 rfl ?_
          have L37 : ∀ (n37 : Nat) (w7 w8 : Int), 0 ≤ w7 ∧ w7 ≤ 120 → -2147483648 ≤ w8 ∧ w8 ≤ 2147483647 → 120 - w7 < (n37 : Int) → K 37 [some (vR 30 0), some (vI l), some (vI w), some (vI x), some (vI y), some (vI w8), some (vI w4), some (vI w7), none] [] σ := by
            intro n37
            induction n37 with
            | zero => intro w7 w8  f_w7 f_w8  hm  ; omega
            | succ n37 ih37 =>
              intro w7 w8  f_w7 f_w8  hm37  
              refine r_iload hC dX6_windows_37 rfl ?_
              refine r_aload_n hC dX6_windows_39 rfl ?_
              refine r_iload_n hC dX6_windows_40 rfl ?_
              refine z_inv1 hM dX6_windows_41 vl_RX6_116 rfl rfl rfl (Nat.le_of_ble_eq_true rfl) (Nat.le_of_ble_eq_true rfl) ?_
              refine qm_heldOf (by omega) (fun v9 h_v9 t_v9 => ?_)
              have e_v9 : hl = v9 := ((t_v9 trivial).trans qg0).symm
              clear t_v9
              subst e_v9
              refine r_icmp_ge (tgt := 96) hC dX6_windows_44 rfl (fun h10 => ?_) (fun h10 => ?_)
              · refine r_iincE hC ((w4 + 1)) dX6_windows_96 rfl rfl (by omega) (by unfold inR; omega) ?_
                refine r_goto (tgt := 23) hC dX6_windows_99 rfl ?_
                refine r_forget hC (ls2 := [some (vR 30 0), some (vI l), some (vI w), some (vI x), some (vI y), some (vI w8), some (vI (w4 + 1)), none, none]) (lsub_some (lsub_some (lsub_some (lsub_some (lsub_some (lsub_some (lsub_some (lsub_none (lsub_none lsub_nil))))))))) ?_
                exact ih23 (w8) ((w4 + 1))  (by omega) (by omega)  (by omega)  
              · refine r_aload_n hC dX6_windows_47 rfl ?_
                refine z_getR hM dX6_windows_48 fl_RX6_67 rfl rfl (vld_of (n := 1) rfl (by omega) (by omega)) ?_
                refine r_bipush hC dX6_windows_51 rfl ?_
                refine r_iload hC dX6_windows_53 rfl ?_
                refine r_imulE hC ((120 * w4)) dX6_windows_55 (by omega) (by unfold inR; omega) ?_
                refine r_iload hC dX6_windows_56 rfl ?_
                refine r_iaddE hC (((120 * w4) + w7)) dX6_windows_58 (by omega) (by unfold inR; omega) ?_
                refine z_iald hM dX6_windows_59 rfl (by omega) (by omega) (fun v11 h_v11 o_v11 t_v11 => ?_)
                clear t_v11
                refine r_istore hC dX6_windows_60 rfl ?_
                refine r_iload hC dX6_windows_62 rfl ?_
                refine r_iload hC dX6_windows_64 rfl ?_
                refine r_ldc hC dX6_windows_66 co_RX6_160 rfl ?_
                refine r_icmp_eq (tgt := 86) hC dX6_windows_68 rfl (fun h12 => ?_) (fun h12 => ?_)
                · refine r_iconst hC dX6_windows_86 rfl ?_
                  refine r_iaddE hC (w8) dX6_windows_87 (by omega) (by unfold inR; omega) ?_
                  refine r_istore hC dX6_windows_88 rfl ?_
                  refine r_iincE hC ((w7 + 1)) dX6_windows_90 rfl rfl (by omega) (by unfold inR; omega) ?_
                  refine r_goto (tgt := 37) hC dX6_windows_93 rfl ?_
                  refine r_forget hC (ls2 := [some (vR 30 0), some (vI l), some (vI w), some (vI x), some (vI y), some (vI w8), some (vI w4), some (vI (w7 + 1)), none]) (lsub_some (lsub_some (lsub_some (lsub_some (lsub_some (lsub_some (lsub_some (lsub_some (lsub_none lsub_nil))))))))) ?_
                  exact ih37 ((w7 + 1)) (w8)  (by omega) (by omega)  (by omega)  
                · refine r_iload hC dX6_windows_71 rfl ?_
                  refine r_iload_n hC dX6_windows_73 rfl ?_
                  refine r_iload hC dX6_windows_74 rfl ?_
                  refine z_ins3 hM dX6_windows_76 tl_RX6_76 rfl (Nat.le_of_ble_eq_true rfl) (Nat.le_of_ble_eq_true rfl) ?_
                  refine qm_isIn (fun h14 => ?_) (fun h14 => ?_)
                  · refine r_if_eq (tgt := 86) hC dX6_windows_79 rfl (fun h15 => by omega) (fun h15 => ?_)
                    refine r_iconst hC dX6_windows_82 rfl ?_
                    refine r_goto (tgt := 87) hC dX6_windows_83 rfl ?_
                    refine r_iaddG hC dX6_windows_87 (fun v16 h_v16 => ?_)
                    refine r_istore hC dX6_windows_88 rfl ?_
                    refine r_iincE hC ((w7 + 1)) dX6_windows_90 rfl rfl (by omega) (by unfold inR; omega) ?_
                    refine r_goto (tgt := 37) hC dX6_windows_93 rfl ?_
                    refine r_forget hC (ls2 := [some (vR 30 0), some (vI l), some (vI w), some (vI x), some (vI y), some (vI v16), some (vI w4), some (vI (w7 + 1)), none]) (lsub_some (lsub_some (lsub_some (lsub_some (lsub_some (lsub_some (lsub_some (lsub_some (lsub_none lsub_nil))))))))) ?_
                    exact ih37 ((w7 + 1)) (v16)  (by omega) (by omega)  (by omega)  
                  · refine r_if_eq (tgt := 86) hC dX6_windows_79 rfl (fun h17 => ?_) (fun h17 => by omega)
                    refine r_iconst hC dX6_windows_86 rfl ?_
                    refine r_iaddE hC (w8) dX6_windows_87 (by omega) (by unfold inR; omega) ?_
                    refine r_istore hC dX6_windows_88 rfl ?_
                    refine r_iincE hC ((w7 + 1)) dX6_windows_90 rfl rfl (by omega) (by unfold inR; omega) ?_
                    refine r_goto (tgt := 37) hC dX6_windows_93 rfl ?_
                    refine r_forget hC (ls2 := [some (vR 30 0), some (vI l), some (vI w), some (vI x), some (vI y), some (vI w8), some (vI w4), some (vI (w7 + 1)), none]) (lsub_some (lsub_some (lsub_some (lsub_some (lsub_some (lsub_some (lsub_some (lsub_some (lsub_none lsub_nil))))))))) ?_
                    exact ih37 ((w7 + 1)) (w8)  (by omega) (by omega)  (by omega)  
          exact L37 122 (w4) (w3)  (by omega) (by omega)  (by omega)  
    exact L23 122 (0) (0)  (by omega) (by omega)  (by omega)  
  · refine r_if_ne (tgt := 11) hC dX6_windows_6 rfl (fun h18 => by omega) (fun h18 => ?_)
    refine r_iconst hC dX6_windows_9 rfl ?_
    refine y_iret hK rfl dX6_windows_10 ?_
    exact k _ (by omega)
theorem qm_layRow {eb : Bool} {d : Nat} {P : Option Vl → Mm → Prop} {σ : Mm} {l r f hl : Int} (b_l : 0 ≤ l ∧ l ≤ 7) (b_r : 1 ≤ r ∧ r ≤ 4) (b_f : 0 ≤ f ∧ f ≤ 119) (b_hl : 0 ≤ hl ∧ hl ≤ 120) (qg0 : σ 31 0 ((22 * l) + 5) = hl)  (k : P none σ) : WT (false, eb, false) (d + 3) 239 [vR 30 0, vI l, vI r, vI f] σ P := by
  refine WT_in fun K hK => ?_
  have hK : StpY (false, eb, false) cX6_layRow RX6 (none) (WT (false, eb, false) (d + 2)) P K := hK
  have hM := hK.1
  have hC := hK.1.1
  show K 0 [some (vR 30 0), some (vI l), some (vI r), some (vI f), none, none, none, none] [] σ
  refine r_bipush hC dX6_layRow_0 rfl ?_
  refine r_iload_n hC dX6_layRow_2 rfl ?_
  refine r_imulE hC ((121 * r)) dX6_layRow_3 (by omega) (by unfold inR; omega) ?_
  refine r_iload_n hC dX6_layRow_4 rfl ?_
  refine r_iaddE hC (((121 * r) + f)) dX6_layRow_5 (by omega) (by unfold inR; omega) ?_
  refine r_istore hC dX6_layRow_6 rfl ?_
  refine r_aload_n hC dX6_layRow_8 rfl ?_
  refine z_getR hM dX6_layRow_9 fl_RX6_70 rfl rfl (vld_of (n := 1) rfl (by omega) (by omega)) ?_
  refine r_iload hC dX6_layRow_12 rfl ?_
  refine r_ldc hC dX6_layRow_14 co_RX6_160 rfl ?_
  refine z_iastU hM dX6_layRow_16 rfl (by omega) (by omega) (by simp [Un, Tb, DL, DF, DR, DX]) (by simp [Okv]) ?_
  refine r_aload_n hC dX6_layRow_17 rfl ?_
  refine z_getR hM dX6_layRow_18 fl_RX6_73 rfl rfl (vld_of (n := 1) rfl (by omega) (by omega)) ?_
  refine r_iload hC dX6_layRow_21 rfl ?_
  refine r_aload_n hC dX6_layRow_23 rfl ?_
  refine r_iload_n hC dX6_layRow_24 rfl ?_
  refine z_inv1 hM dX6_layRow_25 vl_RX6_116 rfl rfl rfl (Nat.le_of_ble_eq_true rfl) (Nat.le_of_ble_eq_true rfl) ?_
  refine qm_heldOf (by omega) (fun v1 h_v1 t_v1 => ?_)
  have e_v1 : hl = v1 := ((t_v1 trivial).trans qg0).symm
  clear t_v1
  subst e_v1
  refine z_iastU hM dX6_layRow_28 rfl (by omega) (by omega) (by simp [Un, Tb, DL, DF, DR, DX]) (by simp [Okv]; try omega) ?_
  refine r_iload_n hC dX6_layRow_29 rfl ?_
  refine r_istore hC dX6_layRow_30 rfl ?_
  have L32 : ∀ (n32 : Nat) (w2 : Int), 0 ≤ w2 ∧ w2 ≤ 120 → 120 - w2 < (n32 : Int) → K 32 [some (vR 30 0), some (vI l), some (vI r), some (vI f), some (vI ((121 * r) + f)), some (vI w2), none, none] [] σ := by
    intro n32
    induction n32 with
    | zero => intro w2  f_w2  hm  ; omega
    | succ n32 ih32 =>
      intro w2  f_w2  hm32  
      refine r_iload hC dX6_layRow_32 rfl ?_
      refine r_aload_n hC dX6_layRow_34 rfl ?_
      refine r_iload_n hC dX6_layRow_35 rfl ?_
      refine z_inv1 hM dX6_layRow_36 vl_RX6_116 rfl rfl rfl (Nat.le_of_ble_eq_true rfl) (Nat.le_of_ble_eq_true rfl) ?_
      refine qm_heldOf (by omega) (fun v3 h_v3 t_v3 => ?_)
      have e_v3 : hl = v3 := ((t_v3 trivial).trans qg0).symm
      clear t_v3
      subst e_v3
      refine r_icmp_ge (tgt := 173) hC dX6_layRow_39 rfl (fun h4 => ?_) (fun h4 => ?_)
      · refine y_vret hK rfl dX6_layRow_173 ?_
        exact k
      · refine r_aload_n hC dX6_layRow_42 rfl ?_
        refine z_getR hM dX6_layRow_43 fl_RX6_67 rfl rfl (vld_of (n := 1) rfl (by omega) (by omega)) ?_
        refine r_bipush hC dX6_layRow_46 rfl ?_
        refine r_iload_n hC dX6_layRow_48 rfl ?_
        refine r_imulE hC ((120 * f)) dX6_layRow_49 (by omega) (by unfold inR; omega) ?_
        refine r_iload hC dX6_layRow_50 rfl ?_
        refine r_iaddE hC (((120 * f) + w2)) dX6_layRow_52 (by omega) (by unfold inR; omega) ?_
        refine z_iald hM dX6_layRow_53 rfl (by omega) (by omega) (fun v5 h_v5 o_v5 t_v5 => ?_)
        clear t_v5
        refine r_istore hC dX6_layRow_54 rfl ?_
        refine r_iload_n hC dX6_layRow_56 rfl ?_
        refine r_iconst hC dX6_layRow_57 rfl ?_
        refine r_icmp_ne (tgt := 82) hC dX6_layRow_58 rfl (fun h6 => ?_) (fun h6 => ?_)
        · refine r_aload_n hC dX6_layRow_82 rfl ?_
          refine z_getR hM dX6_layRow_83 fl_RX6_70 rfl rfl (vld_of (n := 1) rfl (by omega) (by omega)) ?_
          refine r_bipush hC dX6_layRow_86 rfl ?_
          refine r_iload_n hC dX6_layRow_88 rfl ?_
          refine r_iconst hC dX6_layRow_89 rfl ?_
          refine r_isubE hC ((r - 1)) dX6_layRow_90 (by omega) (by unfold inR; omega) ?_
          refine r_imulE hC ((121 * (r - 1))) dX6_layRow_91 (by omega) (by unfold inR; omega) ?_
          refine r_iload hC dX6_layRow_92 rfl ?_
          refine r_iaddE hC (((121 * (r - 1)) + w2)) dX6_layRow_94 (by omega) (by unfold inR; omega) ?_
          refine r_iconst hC dX6_layRow_95 rfl ?_
          refine r_iaddE hC ((((121 * (r - 1)) + w2) + 1)) dX6_layRow_96 (by omega) (by unfold inR; omega) ?_
          refine z_iald hM dX6_layRow_97 rfl (by omega) (by omega) (fun v7 h_v7 o_v7 t_v7 => ?_)
          clear t_v7
          refine r_istore hC dX6_layRow_98 rfl ?_
          refine r_iload hC dX6_layRow_100 rfl ?_
          refine r_ldc hC dX6_layRow_102 co_RX6_160 rfl ?_
          refine r_icmp_eq (tgt := 167) hC dX6_layRow_104 rfl (fun h8 => ?_) (fun h8 => ?_)
          · refine r_iincE hC ((w2 + 1)) dX6_layRow_167 rfl rfl (by omega) (by unfold inR; omega) ?_
            refine r_goto (tgt := 32) hC dX6_layRow_170 rfl ?_
            refine r_forget hC (ls2 := [some (vR 30 0), some (vI l), some (vI r), some (vI f), some (vI ((121 * r) + f)), some (vI (w2 + 1)), none, none]) (lsub_some (lsub_some (lsub_some (lsub_some (lsub_some (lsub_some (lsub_none (lsub_none lsub_nil)))))))) ?_
            exact ih32 ((w2 + 1))  (by omega)  (by omega)  
          · refine r_iload hC dX6_layRow_107 rfl ?_
            refine r_ldc hC dX6_layRow_109 co_RX6_160 rfl ?_
            refine r_icmp_eq (tgt := 167) hC dX6_layRow_111 rfl (fun h9 => ?_) (fun h9 => ?_)
            · refine r_iincE hC ((w2 + 1)) dX6_layRow_167 rfl rfl (by omega) (by unfold inR; omega) ?_
              refine r_goto (tgt := 32) hC dX6_layRow_170 rfl ?_
              refine r_forget hC (ls2 := [some (vR 30 0), some (vI l), some (vI r), some (vI f), some (vI ((121 * r) + f)), some (vI (w2 + 1)), none, none]) (lsub_some (lsub_some (lsub_some (lsub_some (lsub_some (lsub_some (lsub_none (lsub_none lsub_nil)))))))) ?_
              exact ih32 ((w2 + 1))  (by omega)  (by omega)  
            · refine r_aload_n hC dX6_layRow_114 rfl ?_
              refine z_getR hM dX6_layRow_115 fl_RX6_70 rfl rfl (vld_of (n := 1) rfl (by omega) (by omega)) ?_
              refine r_iload hC dX6_layRow_118 rfl ?_
              refine z_iald hM dX6_layRow_120 rfl (by omega) (by omega) (fun v10 h_v10 o_v10 t_v10 => ?_)
              clear t_v10
              refine r_ldc hC dX6_layRow_121 co_RX6_160 rfl ?_
              refine r_icmp_eq (tgt := 144) hC dX6_layRow_123 rfl (fun h11 => ?_) (fun h11 => ?_)
              · refine r_aload_n hC dX6_layRow_144 rfl ?_
                refine z_getR hM dX6_layRow_145 fl_RX6_70 rfl rfl (vld_of (n := 1) rfl (by omega) (by omega)) ?_
                refine r_iload hC dX6_layRow_148 rfl ?_
                refine r_iload hC dX6_layRow_150 rfl ?_
                refine r_iload hC dX6_layRow_152 rfl ?_
                refine r_iaddG hC dX6_layRow_154 (fun v12 h_v12 => ?_)
                refine z_iastU hM dX6_layRow_155 rfl (by omega) (by omega) (by simp [Un, Tb, DL, DF, DR, DX]) (by simp [Okv]) ?_
                refine r_aload_n hC dX6_layRow_156 rfl ?_
                refine z_getR hM dX6_layRow_157 fl_RX6_73 rfl rfl (vld_of (n := 1) rfl (by omega) (by omega)) ?_
                refine r_iload hC dX6_layRow_160 rfl ?_
                refine r_iload hC dX6_layRow_162 rfl ?_
                refine r_iconst hC dX6_layRow_164 rfl ?_
                refine r_iaddE hC ((w2 + 1)) dX6_layRow_165 (by omega) (by unfold inR; omega) ?_
                refine z_iastU hM dX6_layRow_166 rfl (by omega) (by omega) (by simp [Un, Tb, DL, DF, DR, DX]) (by simp [Okv]; try omega) ?_
                refine r_iincE hC ((w2 + 1)) dX6_layRow_167 rfl rfl (by omega) (by unfold inR; omega) ?_
                refine r_goto (tgt := 32) hC dX6_layRow_170 rfl ?_
                refine r_forget hC (ls2 := [some (vR 30 0), some (vI l), some (vI r), some (vI f), some (vI ((121 * r) + f)), some (vI (w2 + 1)), none, none]) (lsub_some (lsub_some (lsub_some (lsub_some (lsub_some (lsub_some (lsub_none (lsub_none lsub_nil)))))))) ?_
                exact ih32 ((w2 + 1))  (by omega)  (by omega)  
              · refine r_iload hC dX6_layRow_126 rfl ?_
                refine r_iload hC dX6_layRow_128 rfl ?_
                refine r_iaddG hC dX6_layRow_130 (fun v13 h_v13 => ?_)
                refine r_aload_n hC dX6_layRow_131 rfl ?_
                refine z_getR hM dX6_layRow_132 fl_RX6_70 rfl rfl (vld_of (n := 1) rfl (by omega) (by omega)) ?_
                refine r_iload hC dX6_layRow_135 rfl ?_
                refine z_iald hM dX6_layRow_137 rfl (by omega) (by omega) (fun v14 h_v14 o_v14 t_v14 => ?_)
                clear t_v14
                refine r_icmp_gt (tgt := 144) hC dX6_layRow_138 rfl (fun h15 => ?_) (fun h15 => ?_)
                · refine r_aload_n hC dX6_layRow_144 rfl ?_
                  refine z_getR hM dX6_layRow_145 fl_RX6_70 rfl rfl (vld_of (n := 1) rfl (by omega) (by omega)) ?_
                  refine r_iload hC dX6_layRow_148 rfl ?_
                  refine r_iload hC dX6_layRow_150 rfl ?_
                  refine r_iload hC dX6_layRow_152 rfl ?_
                  refine r_iaddG hC dX6_layRow_154 (fun v16 h_v16 => ?_)
                  refine z_iastU hM dX6_layRow_155 rfl (by omega) (by omega) (by simp [Un, Tb, DL, DF, DR, DX]) (by simp [Okv]) ?_
                  refine r_aload_n hC dX6_layRow_156 rfl ?_
                  refine z_getR hM dX6_layRow_157 fl_RX6_73 rfl rfl (vld_of (n := 1) rfl (by omega) (by omega)) ?_
                  refine r_iload hC dX6_layRow_160 rfl ?_
                  refine r_iload hC dX6_layRow_162 rfl ?_
                  refine r_iconst hC dX6_layRow_164 rfl ?_
                  refine r_iaddE hC ((w2 + 1)) dX6_layRow_165 (by omega) (by unfold inR; omega) ?_
                  refine z_iastU hM dX6_layRow_166 rfl (by omega) (by omega) (by simp [Un, Tb, DL, DF, DR, DX]) (by simp [Okv]; try omega) ?_
                  refine r_iincE hC ((w2 + 1)) dX6_layRow_167 rfl rfl (by omega) (by unfold inR; omega) ?_
                  refine r_goto (tgt := 32) hC dX6_layRow_170 rfl ?_
                  refine r_forget hC (ls2 := [some (vR 30 0), some (vI l), some (vI r), some (vI f), some (vI ((121 * r) + f)), some (vI (w2 + 1)), none, none]) (lsub_some (lsub_some (lsub_some (lsub_some (lsub_some (lsub_some (lsub_none (lsub_none lsub_nil)))))))) ?_
                  exact ih32 ((w2 + 1))  (by omega)  (by omega)  
                · refine r_goto (tgt := 167) hC dX6_layRow_141 rfl ?_
                  refine r_iincE hC ((w2 + 1)) dX6_layRow_167 rfl rfl (by omega) (by unfold inR; omega) ?_
                  refine r_goto (tgt := 32) hC dX6_layRow_170 rfl ?_
                  refine r_forget hC (ls2 := [some (vR 30 0), some (vI l), some (vI r), some (vI f), some (vI ((121 * r) + f)), some (vI (w2 + 1)), none, none]) (lsub_some (lsub_some (lsub_some (lsub_some (lsub_some (lsub_some (lsub_none (lsub_none lsub_nil)))))))) ?_
                  exact ih32 ((w2 + 1))  (by omega)  (by omega)  
        · refine r_iload hC dX6_layRow_61 rfl ?_
          refine r_aload_n hC dX6_layRow_63 rfl ?_
          refine r_iload_n hC dX6_layRow_64 rfl ?_
          refine z_inv1 hM dX6_layRow_65 vl_RX6_116 rfl rfl rfl (Nat.le_of_ble_eq_true rfl) (Nat.le_of_ble_eq_true rfl) ?_
          refine qm_heldOf (by omega) (fun v17 h_v17 t_v17 => ?_)
          have e_v17 : hl = v17 := ((t_v17 trivial).trans qg0).symm
          clear t_v17
          subst e_v17
          refine r_iconst hC dX6_layRow_68 rfl ?_
          refine r_isubE hC ((hl - 1)) dX6_layRow_69 (by omega) (by unfold inR; omega) ?_
          refine r_icmp_ne (tgt := 77) hC dX6_layRow_70 rfl (fun h18 => ?_) (fun h18 => ?_)
          · refine r_ldc hC dX6_layRow_77 co_RX6_160 rfl ?_
            refine r_goto (tgt := 98) hC dX6_layRow_79 rfl ?_
            refine r_istore hC dX6_layRow_98 rfl ?_
            refine r_iload hC dX6_layRow_100 rfl ?_
            refine r_ldc hC dX6_layRow_102 co_RX6_160 rfl ?_
            refine r_icmp_eq (tgt := 167) hC dX6_layRow_104 rfl (fun h19 => ?_) (fun h19 => ?_)
            · refine r_iincE hC ((w2 + 1)) dX6_layRow_167 rfl rfl (by omega) (by unfold inR; omega) ?_
              refine r_goto (tgt := 32) hC dX6_layRow_170 rfl ?_
              refine r_forget hC (ls2 := [some (vR 30 0), some (vI l), some (vI r), some (vI f), some (vI ((121 * r) + f)), some (vI (w2 + 1)), none, none]) (lsub_some (lsub_some (lsub_some (lsub_some (lsub_some (lsub_some (lsub_none (lsub_none lsub_nil)))))))) ?_
              exact ih32 ((w2 + 1))  (by omega)  (by omega)  
            · refine r_iload hC dX6_layRow_107 rfl ?_
              refine r_ldc hC dX6_layRow_109 co_RX6_160 rfl ?_
              refine r_icmp_eq (tgt := 167) hC dX6_layRow_111 rfl (fun h20 => ?_) (fun h20 => by omega)
              refine r_iincE hC ((w2 + 1)) dX6_layRow_167 rfl rfl (by omega) (by unfold inR; omega) ?_
              refine r_goto (tgt := 32) hC dX6_layRow_170 rfl ?_
              refine r_forget hC (ls2 := [some (vR 30 0), some (vI l), some (vI r), some (vI f), some (vI ((121 * r) + f)), some (vI (w2 + 1)), none, none]) (lsub_some (lsub_some (lsub_some (lsub_some (lsub_some (lsub_some (lsub_none (lsub_none lsub_nil)))))))) ?_
              exact ih32 ((w2 + 1))  (by omega)  (by omega)  
          · refine r_iconst hC dX6_layRow_73 rfl ?_
            refine r_goto (tgt := 98) hC dX6_layRow_74 rfl ?_
            refine r_istore hC dX6_layRow_98 rfl ?_
            refine r_iload hC dX6_layRow_100 rfl ?_
            refine r_ldc hC dX6_layRow_102 co_RX6_160 rfl ?_
            refine r_icmp_eq (tgt := 167) hC dX6_layRow_104 rfl (fun h21 => ?_) (fun h21 => ?_)
            · refine r_iincE hC ((w2 + 1)) dX6_layRow_167 rfl rfl (by omega) (by unfold inR; omega) ?_
              refine r_goto (tgt := 32) hC dX6_layRow_170 rfl ?_
              refine r_forget hC (ls2 := [some (vR 30 0), some (vI l), some (vI r), some (vI f), some (vI ((121 * r) + f)), some (vI (w2 + 1)), none, none]) (lsub_some (lsub_some (lsub_some (lsub_some (lsub_some (lsub_some (lsub_none (lsub_none lsub_nil)))))))) ?_
              exact ih32 ((w2 + 1))  (by omega)  (by omega)  
            · refine r_iload hC dX6_layRow_107 rfl ?_
              refine r_ldc hC dX6_layRow_109 co_RX6_160 rfl ?_
              refine r_icmp_eq (tgt := 167) hC dX6_layRow_111 rfl (fun h22 => by omega) (fun h22 => ?_)
              refine r_aload_n hC dX6_layRow_114 rfl ?_
              refine z_getR hM dX6_layRow_115 fl_RX6_70 rfl rfl (vld_of (n := 1) rfl (by omega) (by omega)) ?_
              refine r_iload hC dX6_layRow_118 rfl ?_
              refine z_iald hM dX6_layRow_120 rfl (by omega) (by omega) (fun v23 h_v23 o_v23 t_v23 => ?_)
              clear t_v23
              refine r_ldc hC dX6_layRow_121 co_RX6_160 rfl ?_
              refine r_icmp_eq (tgt := 144) hC dX6_layRow_123 rfl (fun h24 => ?_) (fun h24 => ?_)
              · refine r_aload_n hC dX6_layRow_144 rfl ?_
                refine z_getR hM dX6_layRow_145 fl_RX6_70 rfl rfl (vld_of (n := 1) rfl (by omega) (by omega)) ?_
                refine r_iload hC dX6_layRow_148 rfl ?_
                refine r_iload hC dX6_layRow_150 rfl ?_
                refine r_iload hC dX6_layRow_152 rfl ?_
                refine r_iaddE hC (v5) dX6_layRow_154 (by omega) (by unfold inR; omega) ?_
                refine z_iastU hM dX6_layRow_155 rfl (by omega) (by omega) (by simp [Un, Tb, DL, DF, DR, DX]) (by simp [Okv]) ?_
                refine r_aload_n hC dX6_layRow_156 rfl ?_
                refine z_getR hM dX6_layRow_157 fl_RX6_73 rfl rfl (vld_of (n := 1) rfl (by omega) (by omega)) ?_
                refine r_iload hC dX6_layRow_160 rfl ?_
                refine r_iload hC dX6_layRow_162 rfl ?_
                refine r_iconst hC dX6_layRow_164 rfl ?_
                refine r_iaddE hC ((w2 + 1)) dX6_layRow_165 (by omega) (by unfold inR; omega) ?_
                refine z_iastU hM dX6_layRow_166 rfl (by omega) (by omega) (by simp [Un, Tb, DL, DF, DR, DX]) (by simp [Okv]; try omega) ?_
                refine r_iincE hC ((w2 + 1)) dX6_layRow_167 rfl rfl (by omega) (by unfold inR; omega) ?_
                refine r_goto (tgt := 32) hC dX6_layRow_170 rfl ?_
                refine r_forget hC (ls2 := [some (vR 30 0), some (vI l), some (vI r), some (vI f), some (vI ((121 * r) + f)), some (vI (w2 + 1)), none, none]) (lsub_some (lsub_some (lsub_some (lsub_some (lsub_some (lsub_some (lsub_none (lsub_none lsub_nil)))))))) ?_
                exact ih32 ((w2 + 1))  (by omega)  (by omega)  
              · refine r_iload hC dX6_layRow_126 rfl ?_
                refine r_iload hC dX6_layRow_128 rfl ?_
                refine r_iaddE hC (v5) dX6_layRow_130 (by omega) (by unfold inR; omega) ?_
                refine r_aload_n hC dX6_layRow_131 rfl ?_
                refine z_getR hM dX6_layRow_132 fl_RX6_70 rfl rfl (vld_of (n := 1) rfl (by omega) (by omega)) ?_
                refine r_iload hC dX6_layRow_135 rfl ?_
                refine z_iald hM dX6_layRow_137 rfl (by omega) (by omega) (fun v25 h_v25 o_v25 t_v25 => ?_)
                clear t_v25
                refine r_icmp_gt (tgt := 144) hC dX6_layRow_138 rfl (fun h26 => ?_) (fun h26 => ?_)
                · refine r_aload_n hC dX6_layRow_144 rfl ?_
                  refine z_getR hM dX6_layRow_145 fl_RX6_70 rfl rfl (vld_of (n := 1) rfl (by omega) (by omega)) ?_
                  refine r_iload hC dX6_layRow_148 rfl ?_
                  refine r_iload hC dX6_layRow_150 rfl ?_
                  refine r_iload hC dX6_layRow_152 rfl ?_
                  refine r_iaddE hC (v5) dX6_layRow_154 (by omega) (by unfold inR; omega) ?_
                  refine z_iastU hM dX6_layRow_155 rfl (by omega) (by omega) (by simp [Un, Tb, DL, DF, DR, DX]) (by simp [Okv]) ?_
                  refine r_aload_n hC dX6_layRow_156 rfl ?_
                  refine z_getR hM dX6_layRow_157 fl_RX6_73 rfl rfl (vld_of (n := 1) rfl (by omega) (by omega)) ?_
                  refine r_iload hC dX6_layRow_160 rfl ?_
                  refine r_iload hC dX6_layRow_162 rfl ?_
                  refine r_iconst hC dX6_layRow_164 rfl ?_
                  refine r_iaddE hC ((w2 + 1)) dX6_layRow_165 (by omega) (by unfold inR; omega) ?_
                  refine z_iastU hM dX6_layRow_166 rfl (by omega) (by omega) (by simp [Un, Tb, DL, DF, DR, DX]) (by simp [Okv]; try omega) ?_
                  refine r_iincE hC ((w2 + 1)) dX6_layRow_167 rfl rfl (by omega) (by unfold inR; omega) ?_
                  refine r_goto (tgt := 32) hC dX6_layRow_170 rfl ?_
                  refine r_forget hC (ls2 := [some (vR 30 0), some (vI l), some (vI r), some (vI f), some (vI ((121 * r) + f)), some (vI (w2 + 1)), none, none]) (lsub_some (lsub_some (lsub_some (lsub_some (lsub_some (lsub_some (lsub_none (lsub_none lsub_nil)))))))) ?_
                  exact ih32 ((w2 + 1))  (by omega)  (by omega)  
                · refine r_goto (tgt := 167) hC dX6_layRow_141 rfl ?_
                  refine r_iincE hC ((w2 + 1)) dX6_layRow_167 rfl rfl (by omega) (by unfold inR; omega) ?_
                  refine r_goto (tgt := 32) hC dX6_layRow_170 rfl ?_
                  refine r_forget hC (ls2 := [some (vR 30 0), some (vI l), some (vI r), some (vI f), some (vI ((121 * r) + f)), some (vI (w2 + 1)), none, none]) (lsub_some (lsub_some (lsub_some (lsub_some (lsub_some (lsub_some (lsub_none (lsub_none lsub_nil)))))))) ?_
                  exact ih32 ((w2 + 1))  (by omega)  (by omega)  
  exact L32 122 (f)  (by omega)  (by omega)  
theorem qm_parted_S {eb : Bool} {d : Nat} {P : Option Vl → Mm → Prop} {σ : Mm} {l r w x hl : Int} (qg0 : σ 31 0 ((22 * l) + 5) = hl) (hL : HM σ)  (k : ∀ r : Int, -2147483648 ≤ r ∧ r ≤ 2147483647 → P (some (vI r)) σ) : WT (false, eb, false) (d + 7) 240 [vR 30 0, vI l, vI r, vI w, vI x] σ P := by
  refine WT_in fun K hK => ?_
  have hK : StpY (false, eb, false) cX6_parted RX6 (some .int) (WT (false, eb, false) (d + 6)) P K := hK
  have hM := hK.1
  have hC := hK.1.1
  show K 0 [some (vR 30 0), some (vI l), some (vI r), some (vI w), some (vI x), none, none] [] σ
  refine r_rngz hC (fun g0 => ?_)
  have r_l : -2147483648 ≤ l ∧ l ≤ 2147483647 := inR_le (g0 (vI l) (by simp))
  have r_r : -2147483648 ≤ r ∧ r ≤ 2147483647 := inR_le (g0 (vI r) (by simp))
  have r_w : -2147483648 ≤ w ∧ w ≤ 2147483647 := inR_le (g0 (vI w) (by simp))
  have r_x : -2147483648 ≤ x ∧ x ≤ 2147483647 := inR_le (g0 (vI x) (by simp))
  refine r_aload_n hC dX6_parted_0 rfl ?_
  refine r_iload_n hC dX6_parted_1 rfl ?_
  refine r_iload_n hC dX6_parted_2 rfl ?_
  refine z_inv2 hM dX6_parted_3 vl_RX6_207 rfl rfl rfl (Nat.le_of_ble_eq_true rfl) (Nat.le_of_ble_eq_true rfl) ?_
  refine qm_isNumber (fun h1 => ?_) ?_
  · have b0_h1 : 0 ≤ hl ∧ hl ≤ 120 := by have := HM.h31 hL (l := l) (by omega) (by omega); have := qg0; omega
    refine r_if_eq (tgt := 28) hC dX6_parted_6 rfl (fun h2 => by omega) (fun h2 => ?_)
    refine r_iload_n hC dX6_parted_9 rfl ?_
    refine r_iconst hC dX6_parted_10 rfl ?_
    refine r_iconst hC dX6_parted_11 rfl ?_
    refine z_ins3 hM dX6_parted_12 tl_RX6_76 rfl (Nat.le_of_ble_eq_true rfl) (Nat.le_of_ble_eq_true rfl) ?_
    refine qm_isIn (fun h4 => ?_) (fun h4 => ?_)
    · refine r_if_eq (tgt := 28) hC dX6_parted_15 rfl (fun h5 => by omega) (fun h5 => ?_)
      refine r_iload hC dX6_parted_18 rfl ?_
      refine r_iconst hC dX6_parted_20 rfl ?_
      refine r_iload_n hC dX6_parted_21 rfl ?_
      refine z_ins3 hM dX6_parted_22 tl_RX6_76 rfl (Nat.le_of_ble_eq_true rfl) (Nat.le_of_ble_eq_true rfl) ?_
      refine qm_isIn (fun h7 => ?_) (fun h7 => ?_)
      · refine r_if_ne (tgt := 31) hC dX6_parted_25 rfl (fun h8 => ?_) (fun h8 => by omega)
        refine r_aload_n hC dX6_parted_31 rfl ?_
        refine r_iload_n hC dX6_parted_32 rfl ?_
        refine r_iload_n hC dX6_parted_33 rfl ?_
        refine z_inv2 hM dX6_parted_34 vl_RX6_286 rfl rfl rfl (Nat.le_of_ble_eq_true rfl) (Nat.le_of_ble_eq_true rfl) ?_
        refine qm_layParts (hl := hl) (by omega) (by omega) (by omega) (by have hq := qg0; omega) ?_
        refine r_iconst hC dX6_parted_37 rfl ?_
        refine r_istore hC dX6_parted_38 rfl ?_
        have L40 : ∀ (n40 : Nat) (w9 : Int), 1 ≤ w9 ∧ w9 ≤ 5 → 5 - w9 < (n40 : Int) → K 40 [some (vR 30 0), some (vI l), some (vI r), some (vI w), some (vI x), some (vI w9), none] [] σ := by
          intro n40
          induction n40 with
          | zero => intro w9  f_w9  hm  ; omega
          | succ n40 ih40 =>
            intro w9  f_w9  hm40  
            refine r_iload hC dX6_parted_40 rfl ?_
            refine r_iload_n hC dX6_parted_42 rfl ?_
            refine r_icmp_gt (tgt := 99) hC dX6_parted_43 rfl (fun h10 => ?_) (fun h10 => ?_)
            · refine r_aload_n hC dX6_parted_99 rfl ?_
              refine z_getR hM dX6_parted_100 fl_RX6_70 rfl rfl (vld_of (n := 1) rfl (by omega) (by omega)) ?_
              refine r_bipush hC dX6_parted_103 rfl ?_
              refine r_iload_n hC dX6_parted_105 rfl ?_
              refine r_imulE hC ((121 * r)) dX6_parted_106 (by omega) (by unfold inR; omega) ?_
              refine z_iald hM dX6_parted_107 rfl (by omega) (by omega) (fun v11 h_v11 o_v11 t_v11 => ?_)
              clear t_v11
              refine r_ldc hC dX6_parted_108 co_RX6_160 rfl ?_
              refine r_icmp_ne (tgt := 116) hC dX6_parted_110 rfl (fun h12 => ?_) (fun h12 => ?_)
              · refine r_iload hC dX6_parted_116 rfl ?_
                refine r_if_ne (tgt := 131) hC dX6_parted_118 rfl (fun h13 => ?_) (fun h13 => ?_)
                · refine r_iconst hC dX6_parted_131 rfl ?_
                  refine r_istore hC dX6_parted_132 rfl ?_
                  refine r_iconst hC dX6_parted_134 rfl ?_
                  refine r_istore hC dX6_parted_135 rfl ?_
                  have L137 : ∀ (n137 : Nat) (w14 w15 : Int), 0 ≤ w14 ∧ w14 ≤ 120 → 1 ≤ w15 ∧ w15 ≤ 4 → 4 - w15 < (n137 : Int) → K 137 [some (vR 30 0), some (vI l), some (vI r), some (vI w), some (vI x), some (vI w14), some (vI w15)] [] σ := by
                    intro n137
                    induction n137 with
                    | zero => intro w14 w15  f_w14 f_w15  hm  ; omega
                    | succ n137 ih137 =>
                      intro w14 w15  f_w14 f_w15  hm137  
                      refine r_iload hC dX6_parted_137 rfl ?_
                      refine r_iload hC dX6_parted_139 rfl ?_
                      refine r_icmp_ge (tgt := 169) hC dX6_parted_141 rfl (fun h16 => ?_) (fun h16 => ?_)
                      · refine r_iload hC dX6_parted_169 rfl ?_
                        refine y_iret hK rfl dX6_parted_171 ?_
                        exact k _ (by omega)
                      · refine r_aload_n hC dX6_parted_144 rfl ?_
                        refine z_getR hM dX6_parted_145 fl_RX6_73 rfl rfl (vld_of (n := 1) rfl (by omega) (by omega)) ?_
                        refine r_bipush hC dX6_parted_148 rfl ?_
                        refine r_iload_n hC dX6_parted_150 rfl ?_
                        refine r_iload hC dX6_parted_151 rfl ?_
                        refine r_isubE hC ((r - w15)) dX6_parted_153 (by omega) (by unfold inR; omega) ?_
                        refine r_iconst hC dX6_parted_154 rfl ?_
                        refine r_iaddE hC (((r - w15) + 1)) dX6_parted_155 (by omega) (by unfold inR; omega) ?_
                        refine r_imulE hC ((121 * ((r - w15) + 1))) dX6_parted_156 (by omega) (by unfold inR; omega) ?_
                        refine r_iload hC dX6_parted_157 rfl ?_
                        refine r_iaddE hC (((121 * ((r - w15) + 1)) + w14)) dX6_parted_159 (by omega) (by unfold inR; omega) ?_
                        refine z_iald hM dX6_parted_160 rfl (by omega) (by omega) (fun v17 h_v17 o_v17 t_v17 => ?_)
                        clear t_v17
                        have q_v17 : 0 ≤ v17 ∧ v17 ≤ 120 := o_v17
                        refine r_istore hC dX6_parted_161 rfl ?_
                        refine r_iincE hC ((w15 + 1)) dX6_parted_163 rfl rfl (by omega) (by unfold inR; omega) ?_
                        refine r_goto (tgt := 137) hC dX6_parted_166 rfl ?_
                        exact ih137 (v17) ((w15 + 1))  (by omega) (by omega)  (by omega)  
                  exact L137 5 (0) (1)  (by omega) (by omega)  (by omega)  
                · refine r_aload_n hC dX6_parted_121 rfl ?_
                  refine z_getR hM dX6_parted_122 fl_RX6_70 rfl rfl (vld_of (n := 1) rfl (by omega) (by omega)) ?_
                  refine r_bipush hC dX6_parted_125 rfl ?_
                  refine r_iload_n hC dX6_parted_127 rfl ?_
                  refine r_imulE hC ((121 * r)) dX6_parted_128 (by omega) (by unfold inR; omega) ?_
                  refine z_iald hM dX6_parted_129 rfl (by omega) (by omega) (fun v18 h_v18 o_v18 t_v18 => ?_)
                  clear t_v18
                  refine y_iret hK rfl dX6_parted_130 ?_
                  exact k _ (by omega)
              · refine r_ldc hC dX6_parted_113 co_RX6_160 rfl ?_
                refine y_iret hK rfl dX6_parted_115 ?_
                exact k _ (by omega)
            · refine r_aload_n hC dX6_parted_46 rfl ?_
              refine z_getR hM dX6_parted_47 fl_RX6_70 rfl rfl (vld_of (n := 1) rfl (by omega) (by omega)) ?_
              refine r_bipush hC dX6_parted_50 rfl ?_
              refine r_iload hC dX6_parted_52 rfl ?_
              refine r_imulE hC ((121 * w9)) dX6_parted_54 (by omega) (by unfold inR; omega) ?_
              refine r_aload_n hC dX6_parted_55 rfl ?_
              refine r_iload_n hC dX6_parted_56 rfl ?_
              refine z_inv1 hM dX6_parted_57 vl_RX6_116 rfl rfl rfl (Nat.le_of_ble_eq_true rfl) (Nat.le_of_ble_eq_true rfl) ?_
              refine qm_heldOf (by omega) (fun v19 h_v19 t_v19 => ?_)
              have e_v19 : hl = v19 := ((t_v19 trivial).trans qg0).symm
              clear t_v19
              subst e_v19
              refine r_iaddE hC (((121 * w9) + hl)) dX6_parted_60 (by omega) (by unfold inR; omega) ?_
              refine r_ldc hC dX6_parted_61 co_RX6_160 rfl ?_
              refine z_iastU hM dX6_parted_63 rfl (by omega) (by omega) (by simp [Un, Tb, DL, DF, DR, DX]) (by simp [Okv]) ?_
              refine r_aload_n hC dX6_parted_64 rfl ?_
              refine r_iload_n hC dX6_parted_65 rfl ?_
              refine z_inv1 hM dX6_parted_66 vl_RX6_116 rfl rfl rfl (Nat.le_of_ble_eq_true rfl) (Nat.le_of_ble_eq_true rfl) ?_
              refine qm_heldOf (by omega) (fun v20 h_v20 t_v20 => ?_)
              have e_v20 : hl = v20 := ((t_v20 trivial).trans qg0).symm
              clear t_v20
              subst e_v20
              refine r_iconst hC dX6_parted_69 rfl ?_
              refine r_isubE hC ((hl - 1)) dX6_parted_70 (by omega) (by unfold inR; omega) ?_
              refine r_istore hC dX6_parted_71 rfl ?_
              have L73 : ∀ (n73 : Nat) (w21 : Int), -1 ≤ w21 ∧ w21 ≤ 119 → w21 + 1 < (n73 : Int) → K 73 [some (vR 30 0), some (vI l), some (vI r), some (vI w), some (vI x), some (vI w9), some (vI w21)] [] σ := by
                intro n73
                induction n73 with
                | zero => intro w21  f_w21  hm  ; omega
                | succ n73 ih73 =>
                  intro w21  f_w21  hm73  
                  refine r_iload hC dX6_parted_73 rfl ?_
                  refine r_if_lt (tgt := 93) hC dX6_parted_75 rfl (fun h22 => ?_) (fun h22 => ?_)
                  · refine r_iincE hC ((w9 + 1)) dX6_parted_93 rfl rfl (by omega) (by unfold inR; omega) ?_
                    refine r_goto (tgt := 40) hC dX6_parted_96 rfl ?_
                    refine r_forget hC (ls2 := [some (vR 30 0), some (vI l), some (vI r), some (vI w), some (vI x), some (vI (w9 + 1)), none]) (lsub_some (lsub_some (lsub_some (lsub_some (lsub_some (lsub_some (lsub_none lsub_nil))))))) ?_
                    exact ih40 ((w9 + 1))  (by omega)  (by omega)  
                  · refine r_aload_n hC dX6_parted_78 rfl ?_
                    refine r_iload_n hC dX6_parted_79 rfl ?_
                    refine r_iload hC dX6_parted_80 rfl ?_
                    refine r_iload hC dX6_parted_82 rfl ?_
                    refine z_inv3 hM dX6_parted_84 vl_RX6_289 rfl rfl rfl (Nat.le_of_ble_eq_true rfl) (Nat.le_of_ble_eq_true rfl) ?_
                    refine qm_layRow (hl := hl) (by omega) (by omega) (by omega) (by omega) (by have hq := qg0; omega) ?_
                    refine r_iincE hC ((w21 - 1)) dX6_parted_87 rfl rfl (by omega) (by unfold inR; omega) ?_
                    refine r_goto (tgt := 73) hC dX6_parted_90 rfl ?_
                    exact ih73 ((w21 - 1))  (by omega)  (by omega)  
              exact L73 122 ((hl - 1))  (by omega)  (by omega)  
        exact L40 6 (1)  (by omega)  (by omega)  
      · refine r_if_ne (tgt := 31) hC dX6_parted_25 rfl (fun h23 => by omega) (fun h23 => ?_)
        refine r_ldc hC dX6_parted_28 co_RX6_160 rfl ?_
        refine y_iret hK rfl dX6_parted_30 ?_
        exact k _ (by omega)
    · refine r_if_eq (tgt := 28) hC dX6_parted_15 rfl (fun h24 => ?_) (fun h24 => by omega)
      refine r_ldc hC dX6_parted_28 co_RX6_160 rfl ?_
      refine y_iret hK rfl dX6_parted_30 ?_
      exact k _ (by omega)
  · refine r_if_eq (tgt := 28) hC dX6_parted_6 rfl (fun h25 => ?_) (fun h25 => by omega)
    refine r_ldc hC dX6_parted_28 co_RX6_160 rfl ?_
    refine y_iret hK rfl dX6_parted_30 ?_
    exact k _ (by omega)
theorem qm_inPane {eb : Bool} {d : Nat} {P : Option Vl → Mm → Prop} {σ : Mm} {l i x : Int} (b_l : 0 ≤ l ∧ l ≤ 7) (b_i : 0 ≤ i ∧ i ≤ 120) (b_x : 1 ≤ x ∧ x ≤ 100000)  (k : ∀ r : Int, 1 ≤ r ∧ r + i ≤ 121 → P (some (vI r)) σ) : WT (false, eb, false) (d + 3) 244 [vR 30 0, vI l, vI i, vI x] σ P := by
  refine WT_in fun K hK => ?_
  have hK : StpY (false, eb, false) cX6_inPane RX6 (some .int) (WT (false, eb, false) (d + 2)) P K := hK
  have hM := hK.1
  have hC := hK.1.1
  show K 0 [some (vR 30 0), some (vI l), some (vI i), some (vI x), none] [] σ
  refine r_iconst hC dX6_inPane_0 rfl ?_
  refine r_istore hC dX6_inPane_1 rfl ?_
  have L3 : ∀ (n3 : Nat) (w1 : Int), 1 ≤ w1 ∧ w1 ≤ 121 → ((w1) + i ≤ 121) → 121 - w1 < (n3 : Int) → K 3 [some (vR 30 0), some (vI l), some (vI i), some (vI x), some (vI w1)] [] σ := by
    intro n3
    induction n3 with
    | zero => intro w1  f_w1 i0_3 hm  ; omega
    | succ n3 ih3 =>
      intro w1  f_w1 i0_3 hm3  
      refine r_iload_n hC dX6_inPane_3 rfl ?_
      refine r_iload hC dX6_inPane_4 rfl ?_
      refine r_iaddE hC ((i + w1)) dX6_inPane_6 (by omega) (by unfold inR; omega) ?_
      refine r_aload_n hC dX6_inPane_7 rfl ?_
      refine r_iload_n hC dX6_inPane_8 rfl ?_
      refine z_inv1 hM dX6_inPane_9 vl_RX6_116 rfl rfl rfl (Nat.le_of_ble_eq_true rfl) (Nat.le_of_ble_eq_true rfl) ?_
      refine qm_heldOf (by omega) (fun v2 h_v2 t_v2 => ?_)
      clear t_v2
      refine r_icmp_ge (tgt := 53) hC dX6_inPane_12 rfl (fun h3 => ?_) (fun h3 => ?_)
      · refine r_iload hC dX6_inPane_53 rfl ?_
        refine y_iret hK rfl dX6_inPane_55 ?_
        exact k _ (by omega)
      · refine r_aload_n hC dX6_inPane_15 rfl ?_
        refine z_getR hM dX6_inPane_16 fl_RX6_13 rfl rfl (vld_of (n := 1) rfl (by omega) (by omega)) ?_
        refine r_bipush hC dX6_inPane_19 rfl ?_
        refine r_iload_n hC dX6_inPane_21 rfl ?_
        refine r_imulE hC ((121 * l)) dX6_inPane_22 (by omega) (by unfold inR; omega) ?_
        refine r_iload_n hC dX6_inPane_23 rfl ?_
        refine r_iaddE hC (((121 * l) + i)) dX6_inPane_24 (by omega) (by unfold inR; omega) ?_
        refine r_iload hC dX6_inPane_25 rfl ?_
        refine r_iaddE hC ((((121 * l) + i) + w1)) dX6_inPane_27 (by omega) (by unfold inR; omega) ?_
        refine z_iald hM dX6_inPane_28 rfl (by omega) (by omega) (fun v4 h_v4 o_v4 t_v4 => ?_)
        clear t_v4
        refine r_iload_n hC dX6_inPane_29 rfl ?_
        refine r_idivG hC dX6_inPane_30 (by omega) (by omega) (fun v5 h_v5 => ?_)
        refine r_aload_n hC dX6_inPane_31 rfl ?_
        refine z_getR hM dX6_inPane_32 fl_RX6_13 rfl rfl (vld_of (n := 1) rfl (by omega) (by omega)) ?_
        refine r_bipush hC dX6_inPane_35 rfl ?_
        refine r_iload_n hC dX6_inPane_37 rfl ?_
        refine r_imulE hC ((121 * l)) dX6_inPane_38 (by omega) (by unfold inR; omega) ?_
        refine r_iload_n hC dX6_inPane_39 rfl ?_
        refine r_iaddE hC (((121 * l) + i)) dX6_inPane_40 (by omega) (by unfold inR; omega) ?_
        refine z_iald hM dX6_inPane_41 rfl (by omega) (by omega) (fun v6 h_v6 o_v6 t_v6 => ?_)
        clear t_v6
        refine r_iload_n hC dX6_inPane_42 rfl ?_
        refine r_idivG hC dX6_inPane_43 (by omega) (by omega) (fun v7 h_v7 => ?_)
        refine r_icmp_ne (tgt := 53) hC dX6_inPane_44 rfl (fun h8 => ?_) (fun h8 => ?_)
        · refine r_iload hC dX6_inPane_53 rfl ?_
          refine y_iret hK rfl dX6_inPane_55 ?_
          exact k _ (by omega)
        · refine r_iincE hC ((w1 + 1)) dX6_inPane_47 rfl rfl (by omega) (by unfold inR; omega) ?_
          refine r_goto (tgt := 3) hC dX6_inPane_50 rfl ?_
          exact ih3 ((w1 + 1))  (by omega) (by omega) (by omega)  
  exact L3 123 (1)  (by omega) (by omega) (by omega)  
theorem qm_inSession {eb : Bool} {d : Nat} {P : Option Vl → Mm → Prop} {σ : Mm} {l i x : Int} (b_l : 0 ≤ l ∧ l ≤ 7) (b_i : 0 ≤ i ∧ i ≤ 120)  (k : ∀ r : Int, 1 ≤ r ∧ r + i ≤ 121 → P (some (vI r)) σ) : WT (false, eb, false) (d + 3) 248 [vR 30 0, vI l, vI i, vI x] σ P := by
  refine WT_in fun K hK => ?_
  have hK : StpY (false, eb, false) cX6_inSession RX6 (some .int) (WT (false, eb, false) (d + 2)) P K := hK
  have hM := hK.1
  have hC := hK.1.1
  show K 0 [some (vR 30 0), some (vI l), some (vI i), some (vI x), none] [] σ
  refine r_rngz hC (fun g0 => ?_)
  have r_x : -2147483648 ≤ x ∧ x ≤ 2147483647 := inR_le (g0 (vI x) (by simp))
  refine r_iconst hC dX6_inSession_0 rfl ?_
  refine r_istore hC dX6_inSession_1 rfl ?_
  have L3 : ∀ (n3 : Nat) (w1 : Int), 1 ≤ w1 ∧ w1 ≤ 121 → ((w1) + i ≤ 121) → 121 - w1 < (n3 : Int) → K 3 [some (vR 30 0), some (vI l), some (vI i), some (vI x), some (vI w1)] [] σ := by
    intro n3
    induction n3 with
    | zero => intro w1  f_w1 i0_3 hm  ; omega
    | succ n3 ih3 =>
      intro w1  f_w1 i0_3 hm3  
      refine r_iload_n hC dX6_inSession_3 rfl ?_
      refine r_iload hC dX6_inSession_4 rfl ?_
      refine r_iaddE hC ((i + w1)) dX6_inSession_6 (by omega) (by unfold inR; omega) ?_
      refine r_aload_n hC dX6_inSession_7 rfl ?_
      refine r_iload_n hC dX6_inSession_8 rfl ?_
      refine z_inv1 hM dX6_inSession_9 vl_RX6_116 rfl rfl rfl (Nat.le_of_ble_eq_true rfl) (Nat.le_of_ble_eq_true rfl) ?_
      refine qm_heldOf (by omega) (fun v2 h_v2 t_v2 => ?_)
      clear t_v2
      refine r_icmp_ge (tgt := 56) hC dX6_inSession_12 rfl (fun h3 => ?_) (fun h3 => ?_)
      · refine r_iload hC dX6_inSession_56 rfl ?_
        refine y_iret hK rfl dX6_inSession_58 ?_
        exact k _ (by omega)
      · refine r_aload_n hC dX6_inSession_15 rfl ?_
        refine z_getR hM dX6_inSession_16 fl_RX6_13 rfl rfl (vld_of (n := 1) rfl (by omega) (by omega)) ?_
        refine r_bipush hC dX6_inSession_19 rfl ?_
        refine r_iload_n hC dX6_inSession_21 rfl ?_
        refine r_imulE hC ((121 * l)) dX6_inSession_22 (by omega) (by unfold inR; omega) ?_
        refine r_iload_n hC dX6_inSession_23 rfl ?_
        refine r_iaddE hC (((121 * l) + i)) dX6_inSession_24 (by omega) (by unfold inR; omega) ?_
        refine r_iload hC dX6_inSession_25 rfl ?_
        refine r_iaddE hC ((((121 * l) + i) + w1)) dX6_inSession_27 (by omega) (by unfold inR; omega) ?_
        refine z_iald hM dX6_inSession_28 rfl (by omega) (by omega) (fun v4 h_v4 o_v4 t_v4 => ?_)
        clear t_v4
        refine r_aload_n hC dX6_inSession_29 rfl ?_
        refine z_getR hM dX6_inSession_30 fl_RX6_13 rfl rfl (vld_of (n := 1) rfl (by omega) (by omega)) ?_
        refine r_bipush hC dX6_inSession_33 rfl ?_
        refine r_iload_n hC dX6_inSession_35 rfl ?_
        refine r_imulE hC ((121 * l)) dX6_inSession_36 (by omega) (by unfold inR; omega) ?_
        refine r_iload_n hC dX6_inSession_37 rfl ?_
        refine r_iaddE hC (((121 * l) + i)) dX6_inSession_38 (by omega) (by unfold inR; omega) ?_
        refine r_iload hC dX6_inSession_39 rfl ?_
        refine r_iaddE hC ((((121 * l) + i) + w1)) dX6_inSession_41 (by omega) (by unfold inR; omega) ?_
        refine r_iconst hC dX6_inSession_42 rfl ?_
        refine r_isubE hC (((((121 * l) + i) + w1) - 1)) dX6_inSession_43 (by omega) (by unfold inR; omega) ?_
        refine z_iald hM dX6_inSession_44 rfl (by omega) (by omega) (fun v5 h_v5 o_v5 t_v5 => ?_)
        clear t_v5
        refine r_isubG hC dX6_inSession_45 (fun v6 h_v6 => ?_)
        refine r_iload_n hC dX6_inSession_46 rfl ?_
        refine r_icmp_gt (tgt := 56) hC dX6_inSession_47 rfl (fun h7 => ?_) (fun h7 => ?_)
        · refine r_iload hC dX6_inSession_56 rfl ?_
          refine y_iret hK rfl dX6_inSession_58 ?_
          exact k _ (by omega)
        · refine r_iincE hC ((w1 + 1)) dX6_inSession_50 rfl rfl (by omega) (by unfold inR; omega) ?_
          refine r_goto (tgt := 3) hC dX6_inSession_53 rfl ?_
          exact ih3 ((w1 + 1))  (by omega) (by omega) (by omega)  
  exact L3 123 (1)  (by omega) (by omega) (by omega)  
theorem qm_isWidth {e : Ev} {d : Nat} {P : Option Vl → Mm → Prop} {σ : Mm} {a : Int}   (k1 : 1 ≤ a ∧ a ≤ 100000 → P (some (vI 1)) σ) (k0 : P (some (vI 0)) σ) : WT e (d + 2) 243 [vR 30 0, vI a] σ P := by
  refine WT_in fun K hK => ?_
  have hK : StpY e cX6_isWidth RX6 (some .boolean) (WT e (d + 1)) P K := hK
  have hM := hK.1
  have hC := hK.1.1
  show K 0 [some (vR 30 0), some (vI a)] [] σ
  refine r_rngz hC (fun g0 => ?_)
  have r_a : -2147483648 ≤ a ∧ a ≤ 2147483647 := inR_le (g0 (vI a) (by simp))
  refine r_iload_n hC dX6_isWidth_0 rfl ?_
  refine r_iconst hC dX6_isWidth_1 rfl ?_
  refine r_ldc hC dX6_isWidth_2 co_RX6_239 rfl ?_
  refine z_ins3 hM dX6_isWidth_4 tl_RX6_76 rfl (Nat.le_of_ble_eq_true rfl) (Nat.le_of_ble_eq_true rfl) ?_
  refine qm_isIn (fun h2 => ?_) (fun h2 => ?_)
  · refine y_zret hK rfl dX6_isWidth_7 (by omega) ?_
    exact k1 (by omega)
  · refine y_zret hK rfl dX6_isWidth_7 (by omega) ?_
    exact k0
theorem qm_isGap {e : Ev} {d : Nat} {P : Option Vl → Mm → Prop} {σ : Mm} {a : Int}   (k1 : 0 ≤ a ∧ a ≤ 100000 → P (some (vI 1)) σ) (k0 : P (some (vI 0)) σ) : WT e (d + 2) 247 [vR 30 0, vI a] σ P := by
  refine WT_in fun K hK => ?_
  have hK : StpY e cX6_isGap RX6 (some .boolean) (WT e (d + 1)) P K := hK
  have hM := hK.1
  have hC := hK.1.1
  show K 0 [some (vR 30 0), some (vI a)] [] σ
  refine r_rngz hC (fun g0 => ?_)
  have r_a : -2147483648 ≤ a ∧ a ≤ 2147483647 := inR_le (g0 (vI a) (by simp))
  refine r_iload_n hC dX6_isGap_0 rfl ?_
  refine r_iconst hC dX6_isGap_1 rfl ?_
  refine r_ldc hC dX6_isGap_2 co_RX6_239 rfl ?_
  refine z_ins3 hM dX6_isGap_4 tl_RX6_76 rfl (Nat.le_of_ble_eq_true rfl) (Nat.le_of_ble_eq_true rfl) ?_
  refine qm_isIn (fun h2 => ?_) (fun h2 => ?_)
  · refine y_zret hK rfl dX6_isGap_7 (by omega) ?_
    exact k1 (by omega)
  · refine y_zret hK rfl dX6_isGap_7 (by omega) ?_
    exact k0
theorem qm_panes {eb : Bool} {d : Nat} {P : Option Vl → Mm → Prop} {σ : Mm} {l x : Int}   (k : ∀ r : Int, -2147483648 ≤ r ∧ r ≤ 2147483647 → P (some (vI r)) σ) : WT (false, eb, false) (d + 4) 245 [vR 30 0, vI l, vI x] σ P := by
  refine WT_in fun K hK => ?_
  have hK : StpY (false, eb, false) cX6_panes RX6 (some .int) (WT (false, eb, false) (d + 3)) P K := hK
  have hM := hK.1
  have hC := hK.1.1
  show K 0 [some (vR 30 0), some (vI l), some (vI x), none, none] [] σ
  refine r_rngz hC (fun g0 => ?_)
  have r_l : -2147483648 ≤ l ∧ l ≤ 2147483647 := inR_le (g0 (vI l) (by simp))
  have r_x : -2147483648 ≤ x ∧ x ≤ 2147483647 := inR_le (g0 (vI x) (by simp))
  refine r_aload_n hC dX6_panes_0 rfl ?_
  refine r_iload_n hC dX6_panes_1 rfl ?_
  refine z_inv1 hM dX6_panes_2 vl_RX6_124 rfl rfl rfl (Nat.le_of_ble_eq_true rfl) (Nat.le_of_ble_eq_true rfl) ?_
  refine qm_isLane (fun h1 => ?_) ?_
  · refine r_if_eq (tgt := 16) hC dX6_panes_5 rfl (fun h2 => by omega) (fun h2 => ?_)
    refine r_aload_n hC dX6_panes_8 rfl ?_
    refine r_iload_n hC dX6_panes_9 rfl ?_
    refine z_inv1 hM dX6_panes_10 vl_RX6_295 rfl rfl rfl (Nat.le_of_ble_eq_true rfl) (Nat.le_of_ble_eq_true rfl) ?_
    refine qm_isWidth (fun h3 => ?_) ?_
    · refine r_if_ne (tgt := 18) hC dX6_panes_13 rfl (fun h4 => ?_) (fun h4 => by omega)
      refine r_iconst hC dX6_panes_18 rfl ?_
      refine r_istore_n hC dX6_panes_19 rfl ?_
      refine r_iconst hC dX6_panes_20 rfl ?_
      refine r_istore hC dX6_panes_21 rfl ?_
      have L23 : ∀ (n23 : Nat) (w5 w6 : Int), -2147483648 ≤ w5 ∧ w5 ≤ 2147483647 → 0 ≤ w6 ∧ w6 ≤ 121 → 121 - w6 < (n23 : Int) → K 23 [some (vR 30 0), some (vI l), some (vI x), some (vI w5), some (vI w6)] [] σ := by
        intro n23
        induction n23 with
        | zero => intro w5 w6  f_w5 f_w6  hm  ; omega
        | succ n23 ih23 =>
          intro w5 w6  f_w5 f_w6  hm23  
          refine r_iload hC dX6_panes_23 rfl ?_
          refine r_aload_n hC dX6_panes_25 rfl ?_
          refine r_iload_n hC dX6_panes_26 rfl ?_
          refine z_inv1 hM dX6_panes_27 vl_RX6_116 rfl rfl rfl (Nat.le_of_ble_eq_true rfl) (Nat.le_of_ble_eq_true rfl) ?_
          refine qm_heldOf (by omega) (fun v7 h_v7 t_v7 => ?_)
          clear t_v7
          refine r_icmp_ge (tgt := 52) hC dX6_panes_30 rfl (fun h8 => ?_) (fun h8 => ?_)
          · refine r_iload_n hC dX6_panes_52 rfl ?_
            refine y_iret hK rfl dX6_panes_53 ?_
            exact k _ (by omega)
          · refine r_iincG hC dX6_panes_33 rfl rfl (fun v9 h_v9 => ?_)
            refine r_iload hC dX6_panes_36 rfl ?_
            refine r_aload_n hC dX6_panes_38 rfl ?_
            refine r_iload_n hC dX6_panes_39 rfl ?_
            refine r_iload hC dX6_panes_40 rfl ?_
            refine r_iload_n hC dX6_panes_42 rfl ?_
            refine z_inv3 hM dX6_panes_43 vl_RX6_298 rfl rfl rfl (Nat.le_of_ble_eq_true rfl) (Nat.le_of_ble_eq_true rfl) ?_
            refine qm_inPane (by omega) (by omega) (by omega) (fun v10 h_v10 => ?_)
            refine r_iaddE hC ((w6 + v10)) dX6_panes_46 (by omega) (by unfold inR; omega) ?_
            refine r_istore hC dX6_panes_47 rfl ?_
            refine r_goto (tgt := 23) hC dX6_panes_49 rfl ?_
            exact ih23 (v9) ((w6 + v10))  (by omega) (by omega)  (by omega)  
      exact L23 123 (0) (0)  (by omega) (by omega)  (by omega)  
    · refine r_if_ne (tgt := 18) hC dX6_panes_13 rfl (fun h11 => by omega) (fun h11 => ?_)
      refine r_iconst hC dX6_panes_16 rfl ?_
      refine y_iret hK rfl dX6_panes_17 ?_
      exact k _ (by omega)
  · refine r_if_eq (tgt := 16) hC dX6_panes_5 rfl (fun h12 => ?_) (fun h12 => by omega)
    refine r_iconst hC dX6_panes_16 rfl ?_
    refine y_iret hK rfl dX6_panes_17 ?_
    exact k _ (by omega)
theorem qm_fullest {eb : Bool} {d : Nat} {P : Option Vl → Mm → Prop} {σ : Mm} {l x : Int}   (k : ∀ r : Int, -2147483648 ≤ r ∧ r ≤ 2147483647 → P (some (vI r)) σ) : WT (false, eb, false) (d + 4) 246 [vR 30 0, vI l, vI x] σ P := by
  refine WT_in fun K hK => ?_
  have hK : StpY (false, eb, false) cX6_fullest RX6 (some .int) (WT (false, eb, false) (d + 3)) P K := hK
  have hM := hK.1
  have hC := hK.1.1
  show K 0 [some (vR 30 0), some (vI l), some (vI x), none, none, none] [] σ
  refine r_rngz hC (fun g0 => ?_)
  have r_l : -2147483648 ≤ l ∧ l ≤ 2147483647 := inR_le (g0 (vI l) (by simp))
  have r_x : -2147483648 ≤ x ∧ x ≤ 2147483647 := inR_le (g0 (vI x) (by simp))
  refine r_aload_n hC dX6_fullest_0 rfl ?_
  refine r_iload_n hC dX6_fullest_1 rfl ?_
  refine z_inv1 hM dX6_fullest_2 vl_RX6_124 rfl rfl rfl (Nat.le_of_ble_eq_true rfl) (Nat.le_of_ble_eq_true rfl) ?_
  refine qm_isLane (fun h1 => ?_) ?_
  · refine r_if_eq (tgt := 16) hC dX6_fullest_5 rfl (fun h2 => by omega) (fun h2 => ?_)
    refine r_aload_n hC dX6_fullest_8 rfl ?_
    refine r_iload_n hC dX6_fullest_9 rfl ?_
    refine z_inv1 hM dX6_fullest_10 vl_RX6_295 rfl rfl rfl (Nat.le_of_ble_eq_true rfl) (Nat.le_of_ble_eq_true rfl) ?_
    refine qm_isWidth (fun h3 => ?_) ?_
    · refine r_if_ne (tgt := 18) hC dX6_fullest_13 rfl (fun h4 => ?_) (fun h4 => by omega)
      refine r_iconst hC dX6_fullest_18 rfl ?_
      refine r_istore_n hC dX6_fullest_19 rfl ?_
      refine r_iconst hC dX6_fullest_20 rfl ?_
      refine r_istore hC dX6_fullest_21 rfl ?_
      refine r_iconst hC dX6_fullest_23 rfl ?_
      refine r_istore hC dX6_fullest_24 rfl ?_
      have L26 : ∀ (n26 : Nat) (w5 w6 w7 : Int), -2147483648 ≤ w5 ∧ w5 ≤ 2147483647 → 0 ≤ w6 ∧ w6 ≤ 121 → 0 ≤ w7 ∧ w7 ≤ 121 → 121 - w7 < (n26 : Int) → K 26 [some (vR 30 0), some (vI l), some (vI x), some (vI w5), some (vI w6), some (vI w7)] [] σ := by
        intro n26
        induction n26 with
        | zero => intro w5 w6 w7  f_w5 f_w6 f_w7  hm  ; omega
        | succ n26 ih26 =>
          intro w5 w6 w7  f_w5 f_w6 f_w7  hm26  
          refine r_iload hC dX6_fullest_26 rfl ?_
          refine r_aload_n hC dX6_fullest_28 rfl ?_
          refine r_iload_n hC dX6_fullest_29 rfl ?_
          refine z_inv1 hM dX6_fullest_30 vl_RX6_116 rfl rfl rfl (Nat.le_of_ble_eq_true rfl) (Nat.le_of_ble_eq_true rfl) ?_
          refine qm_heldOf (by omega) (fun v8 h_v8 t_v8 => ?_)
          clear t_v8
          refine r_icmp_ge (tgt := 93) hC dX6_fullest_33 rfl (fun h9 => ?_) (fun h9 => ?_)
          · refine r_iload_n hC dX6_fullest_93 rfl ?_
            refine y_iret hK rfl dX6_fullest_94 ?_
            exact k _ (by omega)
          · refine r_aload_n hC dX6_fullest_36 rfl ?_
            refine r_iload_n hC dX6_fullest_37 rfl ?_
            refine r_iload hC dX6_fullest_38 rfl ?_
            refine r_iload_n hC dX6_fullest_40 rfl ?_
            refine z_inv3 hM dX6_fullest_41 vl_RX6_298 rfl rfl rfl (Nat.le_of_ble_eq_true rfl) (Nat.le_of_ble_eq_true rfl) ?_
            refine qm_inPane (by omega) (by omega) (by omega) (fun v10 h_v10 => ?_)
            refine r_iload hC dX6_fullest_44 rfl ?_
            have J77_13 : ∀ (w12 w13 : Int), -2147483648 ≤ w12 ∧ w12 ≤ 2147483647 → 1 ≤ w13 ∧ w13 ≤ 121 → K 77 [some (vR 30 0), some (vI l), some (vI x), some (vI w12), some (vI w13), some (vI w7)] [] σ := by
              intro w12 w13  f_w12 f_w13 
              refine r_iload hC dX6_fullest_77 rfl ?_
              refine r_aload_n hC dX6_fullest_79 rfl ?_
              refine r_iload_n hC dX6_fullest_80 rfl ?_
              refine r_iload hC dX6_fullest_81 rfl ?_
              refine r_iload_n hC dX6_fullest_83 rfl ?_
              refine z_inv3 hM dX6_fullest_84 vl_RX6_298 rfl rfl rfl (Nat.le_of_ble_eq_true rfl) (Nat.le_of_ble_eq_true rfl) ?_
              refine qm_inPane (by omega) (by omega) (by omega) (fun v15 h_v15 => ?_)
              refine r_iaddE hC ((w7 + v15)) dX6_fullest_87 (by omega) (by unfold inR; omega) ?_
              refine r_istore hC dX6_fullest_88 rfl ?_
              refine r_goto (tgt := 26) hC dX6_fullest_90 rfl ?_
              exact ih26 (w12) (w13) ((w7 + v15))  (by omega) (by omega) (by omega)  (by omega)  
            refine r_icmp_gt (tgt := 52) hC dX6_fullest_46 rfl (fun h11 => ?_) (fun h11 => ?_)
            · refine r_aload_n hC dX6_fullest_52 rfl ?_
              refine r_iload_n hC dX6_fullest_53 rfl ?_
              refine r_iload hC dX6_fullest_54 rfl ?_
              refine r_iload_n hC dX6_fullest_56 rfl ?_
              refine z_inv3 hM dX6_fullest_57 vl_RX6_298 rfl rfl rfl (Nat.le_of_ble_eq_true rfl) (Nat.le_of_ble_eq_true rfl) ?_
              refine qm_inPane (by omega) (by omega) (by omega) (fun v16 h_v16 => ?_)
              refine r_istore hC dX6_fullest_60 rfl ?_
              refine r_aload_n hC dX6_fullest_62 rfl ?_
              refine z_getR hM dX6_fullest_63 fl_RX6_13 rfl rfl (vld_of (n := 1) rfl (by omega) (by omega)) ?_
              refine r_bipush hC dX6_fullest_66 rfl ?_
              refine r_iload_n hC dX6_fullest_68 rfl ?_
              refine r_imulE hC ((121 * l)) dX6_fullest_69 (by omega) (by unfold inR; omega) ?_
              refine r_iload hC dX6_fullest_70 rfl ?_
              refine r_iaddE hC (((121 * l) + w7)) dX6_fullest_72 (by omega) (by unfold inR; omega) ?_
              refine z_iald hM dX6_fullest_73 rfl (by omega) (by omega) (fun v17 h_v17 o_v17 t_v17 => ?_)
              clear t_v17
              refine r_iload_n hC dX6_fullest_74 rfl ?_
              refine r_idivG hC dX6_fullest_75 (by omega) (by omega) (fun v18 h_v18 => ?_)
              refine r_istore_n hC dX6_fullest_76 rfl ?_
              exact J77_13 (v18) (v16)  (by omega) (by omega) 
            · refine r_goto (tgt := 77) hC dX6_fullest_49 rfl ?_
              exact J77_13 (w5) (w6)  (by omega) (by omega) 
      exact L26 123 ((-1)) (0) (0)  (by omega) (by omega) (by omega)  (by omega)  
    · refine r_if_ne (tgt := 18) hC dX6_fullest_13 rfl (fun h19 => by omega) (fun h19 => ?_)
      refine r_iconst hC dX6_fullest_16 rfl ?_
      refine y_iret hK rfl dX6_fullest_17 ?_
      exact k _ (by omega)
  · refine r_if_eq (tgt := 16) hC dX6_fullest_5 rfl (fun h20 => ?_) (fun h20 => by omega)
    refine r_iconst hC dX6_fullest_16 rfl ?_
    refine y_iret hK rfl dX6_fullest_17 ?_
    exact k _ (by omega)
theorem qm_sessions {eb : Bool} {d : Nat} {P : Option Vl → Mm → Prop} {σ : Mm} {l x : Int}   (k : ∀ r : Int, -2147483648 ≤ r ∧ r ≤ 2147483647 → P (some (vI r)) σ) : WT (false, eb, false) (d + 4) 249 [vR 30 0, vI l, vI x] σ P := by
  refine WT_in fun K hK => ?_
  have hK : StpY (false, eb, false) cX6_sessions RX6 (some .int) (WT (false, eb, false) (d + 3)) P K := hK
  have hM := hK.1
  have hC := hK.1.1
  show K 0 [some (vR 30 0), some (vI l), some (vI x), none, none] [] σ
  refine r_rngz hC (fun g0 => ?_)
  have r_l : -2147483648 ≤ l ∧ l ≤ 2147483647 := inR_le (g0 (vI l) (by simp))
  have r_x : -2147483648 ≤ x ∧ x ≤ 2147483647 := inR_le (g0 (vI x) (by simp))
  refine r_aload_n hC dX6_sessions_0 rfl ?_
  refine r_iload_n hC dX6_sessions_1 rfl ?_
  refine z_inv1 hM dX6_sessions_2 vl_RX6_124 rfl rfl rfl (Nat.le_of_ble_eq_true rfl) (Nat.le_of_ble_eq_true rfl) ?_
  refine qm_isLane (fun h1 => ?_) ?_
  · refine r_if_eq (tgt := 16) hC dX6_sessions_5 rfl (fun h2 => by omega) (fun h2 => ?_)
    refine r_aload_n hC dX6_sessions_8 rfl ?_
    refine r_iload_n hC dX6_sessions_9 rfl ?_
    refine z_inv1 hM dX6_sessions_10 vl_RX6_301 rfl rfl rfl (Nat.le_of_ble_eq_true rfl) (Nat.le_of_ble_eq_true rfl) ?_
    refine qm_isGap (fun h3 => ?_) ?_
    · refine r_if_ne (tgt := 18) hC dX6_sessions_13 rfl (fun h4 => ?_) (fun h4 => by omega)
      refine r_iconst hC dX6_sessions_18 rfl ?_
      refine r_istore_n hC dX6_sessions_19 rfl ?_
      refine r_iconst hC dX6_sessions_20 rfl ?_
      refine r_istore hC dX6_sessions_21 rfl ?_
      have L23 : ∀ (n23 : Nat) (w5 w6 : Int), -2147483648 ≤ w5 ∧ w5 ≤ 2147483647 → 0 ≤ w6 ∧ w6 ≤ 121 → 121 - w6 < (n23 : Int) → K 23 [some (vR 30 0), some (vI l), some (vI x), some (vI w5), some (vI w6)] [] σ := by
        intro n23
        induction n23 with
        | zero => intro w5 w6  f_w5 f_w6  hm  ; omega
        | succ n23 ih23 =>
          intro w5 w6  f_w5 f_w6  hm23  
          refine r_iload hC dX6_sessions_23 rfl ?_
          refine r_aload_n hC dX6_sessions_25 rfl ?_
          refine r_iload_n hC dX6_sessions_26 rfl ?_
          refine z_inv1 hM dX6_sessions_27 vl_RX6_116 rfl rfl rfl (Nat.le_of_ble_eq_true rfl) (Nat.le_of_ble_eq_true rfl) ?_
          refine qm_heldOf (by omega) (fun v7 h_v7 t_v7 => ?_)
          clear t_v7
          refine r_icmp_ge (tgt := 52) hC dX6_sessions_30 rfl (fun h8 => ?_) (fun h8 => ?_)
          · refine r_iload_n hC dX6_sessions_52 rfl ?_
            refine y_iret hK rfl dX6_sessions_53 ?_
            exact k _ (by omega)
          · refine r_iincG hC dX6_sessions_33 rfl rfl (fun v9 h_v9 => ?_)
            refine r_iload hC dX6_sessions_36 rfl ?_
            refine r_aload_n hC dX6_sessions_38 rfl ?_
            refine r_iload_n hC dX6_sessions_39 rfl ?_
            refine r_iload hC dX6_sessions_40 rfl ?_
            refine r_iload_n hC dX6_sessions_42 rfl ?_
            refine z_inv3 hM dX6_sessions_43 vl_RX6_304 rfl rfl rfl (Nat.le_of_ble_eq_true rfl) (Nat.le_of_ble_eq_true rfl) ?_
            refine qm_inSession (by omega) (by omega) (fun v10 h_v10 => ?_)
            refine r_iaddE hC ((w6 + v10)) dX6_sessions_46 (by omega) (by unfold inR; omega) ?_
            refine r_istore hC dX6_sessions_47 rfl ?_
            refine r_goto (tgt := 23) hC dX6_sessions_49 rfl ?_
            exact ih23 (v9) ((w6 + v10))  (by omega) (by omega)  (by omega)  
      exact L23 123 (0) (0)  (by omega) (by omega)  (by omega)  
    · refine r_if_ne (tgt := 18) hC dX6_sessions_13 rfl (fun h11 => by omega) (fun h11 => ?_)
      refine r_iconst hC dX6_sessions_16 rfl ?_
      refine y_iret hK rfl dX6_sessions_17 ?_
      exact k _ (by omega)
  · refine r_if_eq (tgt := 16) hC dX6_sessions_5 rfl (fun h12 => ?_) (fun h12 => by omega)
    refine r_iconst hC dX6_sessions_16 rfl ?_
    refine y_iret hK rfl dX6_sessions_17 ?_
    exact k _ (by omega)
theorem qm_longest {eb : Bool} {d : Nat} {P : Option Vl → Mm → Prop} {σ : Mm} {l x : Int}   (k : ∀ r : Int, -2147483648 ≤ r ∧ r ≤ 2147483647 → P (some (vI r)) σ) : WT (false, eb, false) (d + 4) 251 [vR 30 0, vI l, vI x] σ P := by
  refine WT_in fun K hK => ?_
  have hK : StpY (false, eb, false) cX6_longest RX6 (some .int) (WT (false, eb, false) (d + 3)) P K := hK
  have hM := hK.1
  have hC := hK.1.1
  show K 0 [some (vR 30 0), some (vI l), some (vI x), none, none, none, none] [] σ
  refine r_rngz hC (fun g0 => ?_)
  have r_l : -2147483648 ≤ l ∧ l ≤ 2147483647 := inR_le (g0 (vI l) (by simp))
  have r_x : -2147483648 ≤ x ∧ x ≤ 2147483647 := inR_le (g0 (vI x) (by simp))
  refine r_aload_n hC dX6_longest_0 rfl ?_
  refine r_iload_n hC dX6_longest_1 rfl ?_
  refine z_inv1 hM dX6_longest_2 vl_RX6_124 rfl rfl rfl (Nat.le_of_ble_eq_true rfl) (Nat.le_of_ble_eq_true rfl) ?_
  refine qm_isLane (fun h1 => ?_) ?_
  · refine r_if_eq (tgt := 16) hC dX6_longest_5 rfl (fun h2 => by omega) (fun h2 => ?_)
    refine r_aload_n hC dX6_longest_8 rfl ?_
    refine r_iload_n hC dX6_longest_9 rfl ?_
    refine z_inv1 hM dX6_longest_10 vl_RX6_301 rfl rfl rfl (Nat.le_of_ble_eq_true rfl) (Nat.le_of_ble_eq_true rfl) ?_
    refine qm_isGap (fun h3 => ?_) ?_
    · refine r_if_ne (tgt := 18) hC dX6_longest_13 rfl (fun h4 => ?_) (fun h4 => by omega)
      refine r_iconst hC dX6_longest_18 rfl ?_
      refine r_istore_n hC dX6_longest_19 rfl ?_
      refine r_iconst hC dX6_longest_20 rfl ?_
      refine r_istore hC dX6_longest_21 rfl ?_
      refine r_iconst hC dX6_longest_23 rfl ?_
      refine r_istore hC dX6_longest_24 rfl ?_
      show K _ [_, _, _, _, _, _, _] _ _
      refine r_iconst hC dX6_longest_26 rfl ?_
      refine r_istore hC dX6_longest_27 rfl ?_
      have L29 : ∀ (n29 : Nat) (w5 w6 w7 w8 : Int), -2147483648 ≤ w5 ∧ w5 ≤ 2147483647 → 0 ≤ w6 ∧ w6 ≤ 121 → -2147483648 ≤ w7 ∧ w7 ≤ 2147483647 → 0 ≤ w8 ∧ w8 ≤ 121 → 121 - w8 < (n29 : Int) → K 29 [some (vR 30 0), some (vI l), some (vI x), some (vI w5), some (vI w6), some (vI w7), some (vI w8)] [] σ := by
        intro n29
        induction n29 with
        | zero => intro w5 w6 w7 w8  f_w5 f_w6 f_w7 f_w8  hm  ; omega
        | succ n29 ih29 =>
          intro w5 w6 w7 w8  f_w5 f_w6 f_w7 f_w8  hm29  
          refine r_iload hC dX6_longest_29 rfl ?_
          refine r_aload_n hC dX6_longest_31 rfl ?_
          refine r_iload_n hC dX6_longest_32 rfl ?_
          refine z_inv1 hM dX6_longest_33 vl_RX6_116 rfl rfl rfl (Nat.le_of_ble_eq_true rfl) (Nat.le_of_ble_eq_true rfl) ?_
          refine qm_heldOf (by omega) (fun v9 h_v9 t_v9 => ?_)
          clear t_v9
          refine r_icmp_ge (tgt := 84) hC dX6_longest_36 rfl (fun h10 => ?_) (fun h10 => ?_)
          · refine r_iload_n hC dX6_longest_84 rfl ?_
            refine y_iret hK rfl dX6_longest_85 ?_
            exact k _ (by omega)
          · refine r_aload_n hC dX6_longest_39 rfl ?_
            refine r_iload_n hC dX6_longest_40 rfl ?_
            refine r_iload hC dX6_longest_41 rfl ?_
            refine r_iload_n hC dX6_longest_43 rfl ?_
            refine z_inv3 hM dX6_longest_44 vl_RX6_304 rfl rfl rfl (Nat.le_of_ble_eq_true rfl) (Nat.le_of_ble_eq_true rfl) ?_
            refine qm_inSession (by omega) (by omega) (fun v11 h_v11 => ?_)
            refine r_iload hC dX6_longest_47 rfl ?_
            refine r_icmp_le (tgt := 65) hC dX6_longest_49 rfl (fun h12 => ?_) (fun h12 => ?_)
            · refine r_iincG hC dX6_longest_65 rfl rfl (fun v13 h_v13 => ?_)
              refine r_iload hC dX6_longest_68 rfl ?_
              refine r_aload_n hC dX6_longest_70 rfl ?_
              refine r_iload_n hC dX6_longest_71 rfl ?_
              refine r_iload hC dX6_longest_72 rfl ?_
              refine r_iload_n hC dX6_longest_74 rfl ?_
              refine z_inv3 hM dX6_longest_75 vl_RX6_304 rfl rfl rfl (Nat.le_of_ble_eq_true rfl) (Nat.le_of_ble_eq_true rfl) ?_
              refine qm_inSession (by omega) (by omega) (fun v14 h_v14 => ?_)
              refine r_iaddE hC ((w8 + v14)) dX6_longest_78 (by omega) (by unfold inR; omega) ?_
              refine r_istore hC dX6_longest_79 rfl ?_
              refine r_goto (tgt := 29) hC dX6_longest_81 rfl ?_
              exact ih29 (w5) (w6) (v13) ((w8 + v14))  (by omega) (by omega) (by omega) (by omega)  (by omega)  
            · refine r_aload_n hC dX6_longest_52 rfl ?_
              refine r_iload_n hC dX6_longest_53 rfl ?_
              refine r_iload hC dX6_longest_54 rfl ?_
              refine r_iload_n hC dX6_longest_56 rfl ?_
              refine z_inv3 hM dX6_longest_57 vl_RX6_304 rfl rfl rfl (Nat.le_of_ble_eq_true rfl) (Nat.le_of_ble_eq_true rfl) ?_
              refine qm_inSession (by omega) (by omega) (fun v15 h_v15 => ?_)
              refine r_istore hC dX6_longest_60 rfl ?_
              refine r_iload hC dX6_longest_62 rfl ?_
              refine r_istore_n hC dX6_longest_64 rfl ?_
              refine r_iincG hC dX6_longest_65 rfl rfl (fun v16 h_v16 => ?_)
              show K _ [_, _, _, _, _, _, _] _ _
              refine r_iload hC dX6_longest_68 rfl ?_
              refine r_aload_n hC dX6_longest_70 rfl ?_
              refine r_iload_n hC dX6_longest_71 rfl ?_
              refine r_iload hC dX6_longest_72 rfl ?_
              refine r_iload_n hC dX6_longest_74 rfl ?_
              refine z_inv3 hM dX6_longest_75 vl_RX6_304 rfl rfl rfl (Nat.le_of_ble_eq_true rfl) (Nat.le_of_ble_eq_true rfl) ?_
              refine qm_inSession (by omega) (by omega) (fun v17 h_v17 => ?_)
              refine r_iaddE hC ((w8 + v17)) dX6_longest_78 (by omega) (by unfold inR; omega) ?_
              refine r_istore hC dX6_longest_79 rfl ?_
              refine r_goto (tgt := 29) hC dX6_longest_81 rfl ?_
              exact ih29 (w7) (v15) (v16) ((w8 + v17))  (by omega) (by omega) (by omega) (by omega)  (by omega)  
      exact L29 123 ((-1)) (0) (0) (0)  (by omega) (by omega) (by omega) (by omega)  (by omega)  
    · refine r_if_ne (tgt := 18) hC dX6_longest_13 rfl (fun h18 => by omega) (fun h18 => ?_)
      refine r_iconst hC dX6_longest_16 rfl ?_
      refine y_iret hK rfl dX6_longest_17 ?_
      exact k _ (by omega)
  · refine r_if_eq (tgt := 16) hC dX6_longest_5 rfl (fun h19 => ?_) (fun h19 => by omega)
    refine r_iconst hC dX6_longest_16 rfl ?_
    refine y_iret hK rfl dX6_longest_17 ?_
    exact k _ (by omega)
theorem qm_session {eb : Bool} {d : Nat} {P : Option Vl → Mm → Prop} {σ : Mm} {l x y w : Int}   (k : ∀ r : Int, -2147483648 ≤ r ∧ r ≤ 2147483647 → P (some (vI r)) σ) : WT (false, eb, false) (d + 6) 250 [vR 30 0, vI l, vI x, vI y, vI w] σ P := by
  refine WT_in fun K hK => ?_
  have hK : StpY (false, eb, false) cX6_session RX6 (some .int) (WT (false, eb, false) (d + 5)) P K := hK
  have hM := hK.1
  have hC := hK.1.1
  show K 0 [some (vR 30 0), some (vI l), some (vI x), some (vI y), some (vI w), none, none] [] σ
  refine r_rngz hC (fun g0 => ?_)
  have r_l : -2147483648 ≤ l ∧ l ≤ 2147483647 := inR_le (g0 (vI l) (by simp))
  have r_x : -2147483648 ≤ x ∧ x ≤ 2147483647 := inR_le (g0 (vI x) (by simp))
  have r_y : -2147483648 ≤ y ∧ y ≤ 2147483647 := inR_le (g0 (vI y) (by simp))
  have r_w : -2147483648 ≤ w ∧ w ≤ 2147483647 := inR_le (g0 (vI w) (by simp))
  refine r_aload_n hC dX6_session_0 rfl ?_
  refine r_iload_n hC dX6_session_1 rfl ?_
  refine r_iload hC dX6_session_2 rfl ?_
  refine z_inv2 hM dX6_session_4 vl_RX6_207 rfl rfl rfl (Nat.le_of_ble_eq_true rfl) (Nat.le_of_ble_eq_true rfl) ?_
  refine qm_isNumber (fun h1 => ?_) ?_
  · refine r_if_eq (tgt := 22) hC dX6_session_7 rfl (fun h2 => by omega) (fun h2 => ?_)
    refine r_aload_n hC dX6_session_10 rfl ?_
    refine r_iload_n hC dX6_session_11 rfl ?_
    refine z_inv1 hM dX6_session_12 vl_RX6_301 rfl rfl rfl (Nat.le_of_ble_eq_true rfl) (Nat.le_of_ble_eq_true rfl) ?_
    refine qm_isGap (fun h3 => ?_) ?_
    · refine r_if_eq (tgt := 22) hC dX6_session_15 rfl (fun h4 => by omega) (fun h4 => ?_)
      refine r_iload_n hC dX6_session_18 rfl ?_
      refine r_if_ge (tgt := 25) hC dX6_session_19 rfl (fun h5 => ?_) (fun h5 => ?_)
      · refine r_iconst hC dX6_session_25 rfl ?_
        refine r_istore hC dX6_session_26 rfl ?_
        refine r_iconst hC dX6_session_28 rfl ?_
        refine r_istore hC dX6_session_29 rfl ?_
        have L31 : ∀ (n31 : Nat) (w6 w7 : Int), 0 ≤ w6 ∧ w6 ≤ 121 → 0 ≤ w7 ∧ w7 ≤ 2147483647 → 121 - w6 < (n31 : Int) → K 31 [some (vR 30 0), some (vI l), some (vI x), some (vI y), some (vI w), some (vI w6), some (vI w7)] [] σ := by
          intro n31
          induction n31 with
          | zero => intro w6 w7  f_w6 f_w7  hm  ; omega
          | succ n31 ih31 =>
            intro w6 w7  f_w6 f_w7  hm31  
            refine r_iload hC dX6_session_31 rfl ?_
            refine r_iload_n hC dX6_session_33 rfl ?_
            refine r_icmp_ge (tgt := 66) hC dX6_session_34 rfl (fun h8 => ?_) (fun h8 => ?_)
            · refine r_iload hC dX6_session_66 rfl ?_
              refine r_aload_n hC dX6_session_68 rfl ?_
              refine r_iload_n hC dX6_session_69 rfl ?_
              refine z_inv1 hM dX6_session_70 vl_RX6_116 rfl rfl rfl (Nat.le_of_ble_eq_true rfl) (Nat.le_of_ble_eq_true rfl) ?_
              refine qm_heldOf (by omega) (fun v9 h_v9 t_v9 => ?_)
              clear t_v9
              refine r_icmp_ge (tgt := 101) hC dX6_session_73 rfl (fun h10 => ?_) (fun h10 => ?_)
              · refine r_ldc hC dX6_session_101 co_RX6_160 rfl ?_
                refine y_iret hK rfl dX6_session_103 ?_
                exact k _ (by omega)
              · refine r_aload_n hC dX6_session_76 rfl ?_
                refine r_iload_n hC dX6_session_77 rfl ?_
                refine r_iload hC dX6_session_78 rfl ?_
                refine r_iload hC dX6_session_80 rfl ?_
                refine r_aload_n hC dX6_session_82 rfl ?_
                refine r_iload_n hC dX6_session_83 rfl ?_
                refine r_iload hC dX6_session_84 rfl ?_
                refine r_iload_n hC dX6_session_86 rfl ?_
                refine z_inv3 hM dX6_session_87 vl_RX6_304 rfl rfl rfl (Nat.le_of_ble_eq_true rfl) (Nat.le_of_ble_eq_true rfl) ?_
                refine qm_inSession (by omega) (by omega) (fun v11 h_v11 => ?_)
                refine r_iaddE hC ((w6 + v11)) dX6_session_90 (by omega) (by unfold inR; omega) ?_
                refine r_iconst hC dX6_session_91 rfl ?_
                refine r_isubE hC (((w6 + v11) - 1)) dX6_session_92 (by omega) (by unfold inR; omega) ?_
                refine r_iload hC dX6_session_93 rfl ?_
                refine z_inv4 hM dX6_session_95 vl_RX6_243 rfl rfl rfl (Nat.le_of_ble_eq_true rfl) (Nat.le_of_ble_eq_true rfl) ?_
                refine qm_comesFrom (by omega) (by omega) (by omega) (by omega) (fun v12 h_v12 => ?_)
                refine r_goto (tgt := 103) hC dX6_session_98 rfl ?_
                refine y_iret hK rfl dX6_session_103 ?_
                exact k _ (by omega)
            · refine r_iload hC dX6_session_37 rfl ?_
              refine r_aload_n hC dX6_session_39 rfl ?_
              refine r_iload_n hC dX6_session_40 rfl ?_
              refine z_inv1 hM dX6_session_41 vl_RX6_116 rfl rfl rfl (Nat.le_of_ble_eq_true rfl) (Nat.le_of_ble_eq_true rfl) ?_
              refine qm_heldOf (by omega) (fun v13 h_v13 t_v13 => ?_)
              clear t_v13
              refine r_icmp_ge (tgt := 66) hC dX6_session_44 rfl (fun h14 => ?_) (fun h14 => ?_)
              · refine r_iload hC dX6_session_66 rfl ?_
                refine r_aload_n hC dX6_session_68 rfl ?_
                refine r_iload_n hC dX6_session_69 rfl ?_
                refine z_inv1 hM dX6_session_70 vl_RX6_116 rfl rfl rfl (Nat.le_of_ble_eq_true rfl) (Nat.le_of_ble_eq_true rfl) ?_
                refine qm_heldOf (by omega) (fun v15 h_v15 t_v15 => ?_)
                clear t_v15
                refine r_icmp_ge (tgt := 101) hC dX6_session_73 rfl (fun h16 => ?_) (fun h16 => ?_)
                · refine r_ldc hC dX6_session_101 co_RX6_160 rfl ?_
                  refine y_iret hK rfl dX6_session_103 ?_
                  exact k _ (by omega)
                · refine r_aload_n hC dX6_session_76 rfl ?_
                  refine r_iload_n hC dX6_session_77 rfl ?_
                  refine r_iload hC dX6_session_78 rfl ?_
                  refine r_iload hC dX6_session_80 rfl ?_
                  refine r_aload_n hC dX6_session_82 rfl ?_
                  refine r_iload_n hC dX6_session_83 rfl ?_
                  refine r_iload hC dX6_session_84 rfl ?_
                  refine r_iload_n hC dX6_session_86 rfl ?_
                  refine z_inv3 hM dX6_session_87 vl_RX6_304 rfl rfl rfl (Nat.le_of_ble_eq_true rfl) (Nat.le_of_ble_eq_true rfl) ?_
                  refine qm_inSession (by omega) (by omega) (fun v17 h_v17 => ?_)
                  refine r_iaddE hC ((w6 + v17)) dX6_session_90 (by omega) (by unfold inR; omega) ?_
                  refine r_iconst hC dX6_session_91 rfl ?_
                  refine r_isubE hC (((w6 + v17) - 1)) dX6_session_92 (by omega) (by unfold inR; omega) ?_
                  refine r_iload hC dX6_session_93 rfl ?_
                  refine z_inv4 hM dX6_session_95 vl_RX6_243 rfl rfl rfl (Nat.le_of_ble_eq_true rfl) (Nat.le_of_ble_eq_true rfl) ?_
                  refine qm_comesFrom (by omega) (by omega) (by omega) (by omega) (fun v18 h_v18 => ?_)
                  refine r_goto (tgt := 103) hC dX6_session_98 rfl ?_
                  refine y_iret hK rfl dX6_session_103 ?_
                  exact k _ (by omega)
              · refine r_iload hC dX6_session_47 rfl ?_
                refine r_aload_n hC dX6_session_49 rfl ?_
                refine r_iload_n hC dX6_session_50 rfl ?_
                refine r_iload hC dX6_session_51 rfl ?_
                refine r_iload_n hC dX6_session_53 rfl ?_
                refine z_inv3 hM dX6_session_54 vl_RX6_304 rfl rfl rfl (Nat.le_of_ble_eq_true rfl) (Nat.le_of_ble_eq_true rfl) ?_
                refine qm_inSession (by omega) (by omega) (fun v19 h_v19 => ?_)
                refine r_iaddE hC ((w6 + v19)) dX6_session_57 (by omega) (by unfold inR; omega) ?_
                refine r_istore hC dX6_session_58 rfl ?_
                refine r_iincE hC ((w7 + 1)) dX6_session_60 rfl rfl (by omega) (by unfold inR; omega) ?_
                refine r_goto (tgt := 31) hC dX6_session_63 rfl ?_
                exact ih31 ((w6 + v19)) ((w7 + 1))  (by omega) (by omega)  (by omega)  
        exact L31 123 (0) (0)  (by omega) (by omega)  (by omega)  
      · refine r_ldc hC dX6_session_22 co_RX6_160 rfl ?_
        refine y_iret hK rfl dX6_session_24 ?_
        exact k _ (by omega)
    · refine r_if_eq (tgt := 22) hC dX6_session_15 rfl (fun h20 => ?_) (fun h20 => by omega)
      refine r_ldc hC dX6_session_22 co_RX6_160 rfl ?_
      refine y_iret hK rfl dX6_session_24 ?_
      exact k _ (by omega)
  · refine r_if_eq (tgt := 22) hC dX6_session_7 rfl (fun h21 => ?_) (fun h21 => by omega)
    refine r_ldc hC dX6_session_22 co_RX6_160 rfl ?_
    refine y_iret hK rfl dX6_session_24 ?_
    exact k _ (by omega)
theorem qm_state {eb : Bool} {d : Nat} {P : Option Vl → Mm → Prop} {σ : Mm} {l w : Int}   (k : ∀ r : Int, -2147483648 ≤ r ∧ r ≤ 2147483647 → P (some (vI r)) σ) : WT (false, eb, false) (d + 3) 180 [vR 30 0, vI l, vI w] σ P := by
  refine WT_in fun K hK => ?_
  have hK : StpY (false, eb, false) cX6_state RX6 (some .int) (WT (false, eb, false) (d + 2)) P K := hK
  have hM := hK.1
  have hC := hK.1.1
  show K 0 [some (vR 30 0), some (vI l), some (vI w)] [] σ
  refine r_rngz hC (fun g0 => ?_)
  have r_l : -2147483648 ≤ l ∧ l ≤ 2147483647 := inR_le (g0 (vI l) (by simp))
  have r_w : -2147483648 ≤ w ∧ w ≤ 2147483647 := inR_le (g0 (vI w) (by simp))
  refine r_aload_n hC dX6_state_0 rfl ?_
  refine r_iload_n hC dX6_state_1 rfl ?_
  refine z_inv1 hM dX6_state_2 vl_RX6_124 rfl rfl rfl (Nat.le_of_ble_eq_true rfl) (Nat.le_of_ble_eq_true rfl) ?_
  refine qm_isLane (fun h1 => ?_) ?_
  · refine r_if_ne (tgt := 10) hC dX6_state_5 rfl (fun h2 => ?_) (fun h2 => by omega)
    refine r_iload_n hC dX6_state_10 rfl ?_
    rcases (by omega : (w < 0 ∨ 6 < w) ∨ w = 0 ∨ w = 1 ∨ w = 2 ∨ w = 3 ∨ w = 4 ∨ w = 5 ∨ w = 6) with h3 | h3 | h3 | h3 | h3 | h3 | h3 | h3
    · refine r_tableOut (tgt := 108) hC dX6_state_11 h3 rfl ?_
      refine r_iconst hC dX6_state_108 rfl ?_
      refine y_iret hK rfl dX6_state_109 ?_
      exact k _ (by omega)
    · refine r_tableIn (tgt := 52) (off := 41) hC dX6_state_11 (by omega) (by omega) (by rw [h3]; rfl) rfl ?_
      refine r_aload_n hC dX6_state_52 rfl ?_
      refine r_iload_n hC dX6_state_53 rfl ?_
      refine r_bipush hC dX6_state_54 rfl ?_
      refine z_inv2 hM dX6_state_56 vl_RX6_80 rfl rfl rfl (Nat.le_of_ble_eq_true rfl) (Nat.le_of_ble_eq_true rfl) ?_
      refine qm_of (by omega) (by omega) (fun v4 h_v4 h5_v4 h0_v4 t_v4 => ?_)
      clear t_v4
      refine y_iret hK rfl dX6_state_59 ?_
      exact k _ (by omega)
    · refine r_tableIn (tgt := 60) (off := 49) hC dX6_state_11 (by omega) (by omega) (by rw [h3]; rfl) rfl ?_
      refine r_aload_n hC dX6_state_60 rfl ?_
      refine r_iload_n hC dX6_state_61 rfl ?_
      refine r_bipush hC dX6_state_62 rfl ?_
      refine z_inv2 hM dX6_state_64 vl_RX6_80 rfl rfl rfl (Nat.le_of_ble_eq_true rfl) (Nat.le_of_ble_eq_true rfl) ?_
      refine qm_of (by omega) (by omega) (fun v5 h_v5 h5_v5 h0_v5 t_v5 => ?_)
      clear t_v5
      refine y_iret hK rfl dX6_state_67 ?_
      exact k _ (by omega)
    · refine r_tableIn (tgt := 68) (off := 57) hC dX6_state_11 (by omega) (by omega) (by rw [h3]; rfl) rfl ?_
      refine r_aload_n hC dX6_state_68 rfl ?_
      refine r_iload_n hC dX6_state_69 rfl ?_
      refine r_bipush hC dX6_state_70 rfl ?_
      refine z_inv2 hM dX6_state_72 vl_RX6_80 rfl rfl rfl (Nat.le_of_ble_eq_true rfl) (Nat.le_of_ble_eq_true rfl) ?_
      refine qm_of (by omega) (by omega) (fun v6 h_v6 h5_v6 h0_v6 t_v6 => ?_)
      clear t_v6
      refine y_iret hK rfl dX6_state_75 ?_
      exact k _ (by omega)
    · refine r_tableIn (tgt := 76) (off := 65) hC dX6_state_11 (by omega) (by omega) (by rw [h3]; rfl) rfl ?_
      refine r_aload_n hC dX6_state_76 rfl ?_
      refine r_iload_n hC dX6_state_77 rfl ?_
      refine r_bipush hC dX6_state_78 rfl ?_
      refine z_inv2 hM dX6_state_80 vl_RX6_80 rfl rfl rfl (Nat.le_of_ble_eq_true rfl) (Nat.le_of_ble_eq_true rfl) ?_
      refine qm_of (by omega) (by omega) (fun v7 h_v7 h5_v7 h0_v7 t_v7 => ?_)
      clear t_v7
      refine y_iret hK rfl dX6_state_83 ?_
      exact k _ (by omega)
    · refine r_tableIn (tgt := 84) (off := 73) hC dX6_state_11 (by omega) (by omega) (by rw [h3]; rfl) rfl ?_
      refine r_aload_n hC dX6_state_84 rfl ?_
      refine r_iload_n hC dX6_state_85 rfl ?_
      refine r_bipush hC dX6_state_86 rfl ?_
      refine z_inv2 hM dX6_state_88 vl_RX6_80 rfl rfl rfl (Nat.le_of_ble_eq_true rfl) (Nat.le_of_ble_eq_true rfl) ?_
      refine qm_of (by omega) (by omega) (fun v8 h_v8 h5_v8 h0_v8 t_v8 => ?_)
      clear t_v8
      refine y_iret hK rfl dX6_state_91 ?_
      exact k _ (by omega)
    · refine r_tableIn (tgt := 92) (off := 81) hC dX6_state_11 (by omega) (by omega) (by rw [h3]; rfl) rfl ?_
      refine r_aload_n hC dX6_state_92 rfl ?_
      refine r_iload_n hC dX6_state_93 rfl ?_
      refine r_bipush hC dX6_state_94 rfl ?_
      refine z_inv2 hM dX6_state_96 vl_RX6_80 rfl rfl rfl (Nat.le_of_ble_eq_true rfl) (Nat.le_of_ble_eq_true rfl) ?_
      refine qm_of (by omega) (by omega) (fun v9 h_v9 h5_v9 h0_v9 t_v9 => ?_)
      clear t_v9
      refine y_iret hK rfl dX6_state_99 ?_
      exact k _ (by omega)
    · refine r_tableIn (tgt := 100) (off := 89) hC dX6_state_11 (by omega) (by omega) (by rw [h3]; rfl) rfl ?_
      refine r_aload_n hC dX6_state_100 rfl ?_
      refine r_iload_n hC dX6_state_101 rfl ?_
      refine r_bipush hC dX6_state_102 rfl ?_
      refine z_inv2 hM dX6_state_104 vl_RX6_80 rfl rfl rfl (Nat.le_of_ble_eq_true rfl) (Nat.le_of_ble_eq_true rfl) ?_
      refine qm_of (by omega) (by omega) (fun v10 h_v10 h5_v10 h0_v10 t_v10 => ?_)
      clear t_v10
      refine y_iret hK rfl dX6_state_107 ?_
      exact k _ (by omega)
  · refine r_if_ne (tgt := 10) hC dX6_state_5 rfl (fun h11 => by omega) (fun h11 => ?_)
    refine r_iconst hC dX6_state_8 rfl ?_
    refine y_iret hK rfl dX6_state_9 ?_
    exact k _ (by omega)
theorem qm_soon {eb : Bool} {d : Nat} {P : Option Vl → Mm → Prop} {σ : Mm} {l w : Int}   (k : ∀ r : Int, -2147483648 ≤ r ∧ r ≤ 2147483647 → P (some (vI r)) σ) : WT (false, eb, false) (d + 3) 181 [vR 30 0, vI l, vI w] σ P := by
  refine WT_in fun K hK => ?_
  have hK : StpY (false, eb, false) cX6_soon RX6 (some .int) (WT (false, eb, false) (d + 2)) P K := hK
  have hM := hK.1
  have hC := hK.1.1
  show K 0 [some (vR 30 0), some (vI l), some (vI w)] [] σ
  refine r_rngz hC (fun g0 => ?_)
  have r_l : -2147483648 ≤ l ∧ l ≤ 2147483647 := inR_le (g0 (vI l) (by simp))
  have r_w : -2147483648 ≤ w ∧ w ≤ 2147483647 := inR_le (g0 (vI w) (by simp))
  refine r_aload_n hC dX6_soon_0 rfl ?_
  refine r_iload_n hC dX6_soon_1 rfl ?_
  refine z_inv1 hM dX6_soon_2 vl_RX6_124 rfl rfl rfl (Nat.le_of_ble_eq_true rfl) (Nat.le_of_ble_eq_true rfl) ?_
  refine qm_isLane (fun h1 => ?_) ?_
  · refine r_if_eq (tgt := 28) hC dX6_soon_5 rfl (fun h2 => by omega) (fun h2 => ?_)
    refine r_iload_n hC dX6_soon_8 rfl ?_
    refine r_iconst hC dX6_soon_9 rfl ?_
    refine r_iconst hC dX6_soon_10 rfl ?_
    refine z_ins3 hM dX6_soon_11 tl_RX6_76 rfl (Nat.le_of_ble_eq_true rfl) (Nat.le_of_ble_eq_true rfl) ?_
    refine qm_isIn (fun h4 => ?_) (fun h4 => ?_)
    · refine r_if_eq (tgt := 28) hC dX6_soon_14 rfl (fun h5 => by omega) (fun h5 => ?_)
      refine r_iload_n hC dX6_soon_17 rfl ?_
      refine r_aload_n hC dX6_soon_18 rfl ?_
      refine r_iload_n hC dX6_soon_19 rfl ?_
      refine r_bipush hC dX6_soon_20 rfl ?_
      refine z_inv2 hM dX6_soon_22 vl_RX6_80 rfl rfl rfl (Nat.le_of_ble_eq_true rfl) (Nat.le_of_ble_eq_true rfl) ?_
      refine qm_of (by omega) (by omega) (fun v6 h_v6 h5_v6 h0_v6 t_v6 => ?_)
      clear t_v6
      refine r_icmp_eq (tgt := 30) hC dX6_soon_25 rfl (fun h7 => ?_) (fun h7 => ?_)
      · refine r_iload_n hC dX6_soon_30 rfl ?_
        have J67_9 : ∀ (w9 : Int), -2147483648 ≤ w9 ∧ w9 ≤ 2147483647 → K 67 [some (vR 30 0), some (vI l), some (vI w)] [vI w9] σ := by
          intro w9  f_w9 
          refine y_iret hK rfl dX6_soon_67 ?_
          exact k _ (by omega)
        refine r_if_ne (tgt := 54) hC dX6_soon_31 rfl (fun h8 => ?_) (fun h8 => ?_)
        · refine r_aload_n hC dX6_soon_54 rfl ?_
          refine r_iload_n hC dX6_soon_55 rfl ?_
          refine r_bipush hC dX6_soon_56 rfl ?_
          refine z_inv2 hM dX6_soon_58 vl_RX6_80 rfl rfl rfl (Nat.le_of_ble_eq_true rfl) (Nat.le_of_ble_eq_true rfl) ?_
          refine qm_of (by omega) (by omega) (fun v11 h_v11 h5_v11 h0_v11 t_v11 => ?_)
          clear t_v11
          refine r_iconst hC dX6_soon_61 rfl ?_
          refine r_iaddG hC dX6_soon_62 (fun v12 h_v12 => ?_)
          refine r_iconst hC dX6_soon_63 rfl ?_
          refine r_isubG hC dX6_soon_64 (fun v13 h_v13 => ?_)
          refine r_iconst hC dX6_soon_65 rfl ?_
          refine r_idivG hC dX6_soon_66 (by omega) (by omega) (fun v14 h_v14 => ?_)
          exact J67_9 (v14)  (by omega) 
        · refine r_aload_n hC dX6_soon_34 rfl ?_
          refine r_iload_n hC dX6_soon_35 rfl ?_
          refine r_bipush hC dX6_soon_36 rfl ?_
          refine z_inv2 hM dX6_soon_38 vl_RX6_80 rfl rfl rfl (Nat.le_of_ble_eq_true rfl) (Nat.le_of_ble_eq_true rfl) ?_
          refine qm_of (by omega) (by omega) (fun v15 h_v15 h5_v15 h0_v15 t_v15 => ?_)
          clear t_v15
          refine r_aload_n hC dX6_soon_41 rfl ?_
          refine r_iload_n hC dX6_soon_42 rfl ?_
          refine r_bipush hC dX6_soon_43 rfl ?_
          refine z_inv2 hM dX6_soon_45 vl_RX6_80 rfl rfl rfl (Nat.le_of_ble_eq_true rfl) (Nat.le_of_ble_eq_true rfl) ?_
          refine qm_of (by omega) (by omega) (fun v16 h_v16 h5_v16 h0_v16 t_v16 => ?_)
          clear t_v16
          refine r_isubG hC dX6_soon_48 (fun v17 h_v17 => ?_)
          refine r_iconst hC dX6_soon_49 rfl ?_
          refine r_iaddG hC dX6_soon_50 (fun v18 h_v18 => ?_)
          refine r_goto (tgt := 67) hC dX6_soon_51 rfl ?_
          exact J67_9 (v18)  (by omega) 
      · refine r_iconst hC dX6_soon_28 rfl ?_
        refine y_iret hK rfl dX6_soon_29 ?_
        exact k _ (by omega)
    · refine r_if_eq (tgt := 28) hC dX6_soon_14 rfl (fun h19 => ?_) (fun h19 => by omega)
      refine r_iconst hC dX6_soon_28 rfl ?_
      refine y_iret hK rfl dX6_soon_29 ?_
      exact k _ (by omega)
  · refine r_if_eq (tgt := 28) hC dX6_soon_5 rfl (fun h20 => ?_) (fun h20 => by omega)
    refine r_iconst hC dX6_soon_28 rfl ?_
    refine y_iret hK rfl dX6_soon_29 ?_
    exact k _ (by omega)
theorem qm_lane {eb : Bool} {d : Nat} {P : Option Vl → Mm → Prop} {σ : Mm} {l w : Int}   (k : ∀ r : Int, -2147483648 ≤ r ∧ r ≤ 2147483647 → P (some (vI r)) σ) : WT (false, eb, false) (d + 3) 252 [vR 30 0, vI l, vI w] σ P := by
  refine WT_in fun K hK => ?_
  have hK : StpY (false, eb, false) cX6_lane RX6 (some .int) (WT (false, eb, false) (d + 2)) P K := hK
  have hM := hK.1
  have hC := hK.1.1
  show K 0 [some (vR 30 0), some (vI l), some (vI w)] [] σ
  refine r_rngz hC (fun g0 => ?_)
  have r_l : -2147483648 ≤ l ∧ l ≤ 2147483647 := inR_le (g0 (vI l) (by simp))
  have r_w : -2147483648 ≤ w ∧ w ≤ 2147483647 := inR_le (g0 (vI w) (by simp))
  refine r_aload_n hC dX6_lane_0 rfl ?_
  refine r_iload_n hC dX6_lane_1 rfl ?_
  refine z_inv1 hM dX6_lane_2 vl_RX6_124 rfl rfl rfl (Nat.le_of_ble_eq_true rfl) (Nat.le_of_ble_eq_true rfl) ?_
  refine qm_isLane (fun h1 => ?_) ?_
  · refine r_if_ne (tgt := 10) hC dX6_lane_5 rfl (fun h2 => ?_) (fun h2 => by omega)
    refine r_iload_n hC dX6_lane_10 rfl ?_
    rcases (by omega : (w < 0 ∨ 10 < w) ∨ w = 0 ∨ w = 1 ∨ w = 2 ∨ w = 3 ∨ w = 4 ∨ w = 5 ∨ w = 6 ∨ w = 7 ∨ w = 8 ∨ w = 9 ∨ w = 10) with h3 | h3 | h3 | h3 | h3 | h3 | h3 | h3 | h3 | h3 | h3 | h3
    · refine r_tableOut (tgt := 150) hC dX6_lane_11 h3 rfl ?_
      refine r_iconst hC dX6_lane_150 rfl ?_
      refine y_iret hK rfl dX6_lane_151 ?_
      exact k _ (by omega)
    · refine r_tableIn (tgt := 68) (off := 57) hC dX6_lane_11 (by omega) (by omega) (by rw [h3]; rfl) rfl ?_
      refine r_aload_n hC dX6_lane_68 rfl ?_
      refine r_iload_n hC dX6_lane_69 rfl ?_
      refine r_iconst hC dX6_lane_70 rfl ?_
      refine z_inv2 hM dX6_lane_71 vl_RX6_80 rfl rfl rfl (Nat.le_of_ble_eq_true rfl) (Nat.le_of_ble_eq_true rfl) ?_
      refine qm_of (by omega) (by omega) (fun v4 h_v4 h5_v4 h0_v4 t_v4 => ?_)
      clear t_v4
      refine y_iret hK rfl dX6_lane_74 ?_
      exact k _ (by omega)
    · refine r_tableIn (tgt := 75) (off := 64) hC dX6_lane_11 (by omega) (by omega) (by rw [h3]; rfl) rfl ?_
      refine r_aload_n hC dX6_lane_75 rfl ?_
      refine r_iload_n hC dX6_lane_76 rfl ?_
      refine r_iconst hC dX6_lane_77 rfl ?_
      refine z_inv2 hM dX6_lane_78 vl_RX6_80 rfl rfl rfl (Nat.le_of_ble_eq_true rfl) (Nat.le_of_ble_eq_true rfl) ?_
      refine qm_of (by omega) (by omega) (fun v5 h_v5 h5_v5 h0_v5 t_v5 => ?_)
      clear t_v5
      refine y_iret hK rfl dX6_lane_81 ?_
      exact k _ (by omega)
    · refine r_tableIn (tgt := 82) (off := 71) hC dX6_lane_11 (by omega) (by omega) (by rw [h3]; rfl) rfl ?_
      refine r_aload_n hC dX6_lane_82 rfl ?_
      refine r_iload_n hC dX6_lane_83 rfl ?_
      refine r_iconst hC dX6_lane_84 rfl ?_
      refine z_inv2 hM dX6_lane_85 vl_RX6_80 rfl rfl rfl (Nat.le_of_ble_eq_true rfl) (Nat.le_of_ble_eq_true rfl) ?_
      refine qm_of (by omega) (by omega) (fun v6 h_v6 h5_v6 h0_v6 t_v6 => ?_)
      clear t_v6
      refine y_iret hK rfl dX6_lane_88 ?_
      exact k _ (by omega)
    · refine r_tableIn (tgt := 89) (off := 78) hC dX6_lane_11 (by omega) (by omega) (by rw [h3]; rfl) rfl ?_
      refine r_aload_n hC dX6_lane_89 rfl ?_
      refine r_iload_n hC dX6_lane_90 rfl ?_
      refine r_iconst hC dX6_lane_91 rfl ?_
      refine z_inv2 hM dX6_lane_92 vl_RX6_80 rfl rfl rfl (Nat.le_of_ble_eq_true rfl) (Nat.le_of_ble_eq_true rfl) ?_
      refine qm_of (by omega) (by omega) (fun v7 h_v7 h5_v7 h0_v7 t_v7 => ?_)
      clear t_v7
      refine y_iret hK rfl dX6_lane_95 ?_
      exact k _ (by omega)
    · refine r_tableIn (tgt := 96) (off := 85) hC dX6_lane_11 (by omega) (by omega) (by rw [h3]; rfl) rfl ?_
      refine r_aload_n hC dX6_lane_96 rfl ?_
      refine r_iload_n hC dX6_lane_97 rfl ?_
      refine z_inv1 hM dX6_lane_98 vl_RX6_116 rfl rfl rfl (Nat.le_of_ble_eq_true rfl) (Nat.le_of_ble_eq_true rfl) ?_
      refine qm_heldOf (by omega) (fun v8 h_v8 t_v8 => ?_)
      clear t_v8
      refine y_iret hK rfl dX6_lane_101 ?_
      exact k _ (by omega)
    · refine r_tableIn (tgt := 102) (off := 91) hC dX6_lane_11 (by omega) (by omega) (by rw [h3]; rfl) rfl ?_
      refine r_aload_n hC dX6_lane_102 rfl ?_
      refine r_iload_n hC dX6_lane_103 rfl ?_
      refine r_bipush hC dX6_lane_104 rfl ?_
      refine z_inv2 hM dX6_lane_106 vl_RX6_80 rfl rfl rfl (Nat.le_of_ble_eq_true rfl) (Nat.le_of_ble_eq_true rfl) ?_
      refine qm_of (by omega) (by omega) (fun v9 h_v9 h5_v9 h0_v9 t_v9 => ?_)
      clear t_v9
      refine y_iret hK rfl dX6_lane_109 ?_
      exact k _ (by omega)
    · refine r_tableIn (tgt := 110) (off := 99) hC dX6_lane_11 (by omega) (by omega) (by rw [h3]; rfl) rfl ?_
      refine r_aload_n hC dX6_lane_110 rfl ?_
      refine r_iload_n hC dX6_lane_111 rfl ?_
      refine r_bipush hC dX6_lane_112 rfl ?_
      refine z_inv2 hM dX6_lane_114 vl_RX6_80 rfl rfl rfl (Nat.le_of_ble_eq_true rfl) (Nat.le_of_ble_eq_true rfl) ?_
      refine qm_of (by omega) (by omega) (fun v10 h_v10 h5_v10 h0_v10 t_v10 => ?_)
      clear t_v10
      refine y_iret hK rfl dX6_lane_117 ?_
      exact k _ (by omega)
    · refine r_tableIn (tgt := 118) (off := 107) hC dX6_lane_11 (by omega) (by omega) (by rw [h3]; rfl) rfl ?_
      refine r_aload_n hC dX6_lane_118 rfl ?_
      refine r_iload_n hC dX6_lane_119 rfl ?_
      refine r_bipush hC dX6_lane_120 rfl ?_
      refine z_inv2 hM dX6_lane_122 vl_RX6_80 rfl rfl rfl (Nat.le_of_ble_eq_true rfl) (Nat.le_of_ble_eq_true rfl) ?_
      refine qm_of (by omega) (by omega) (fun v11 h_v11 h5_v11 h0_v11 t_v11 => ?_)
      clear t_v11
      refine y_iret hK rfl dX6_lane_125 ?_
      exact k _ (by omega)
    · refine r_tableIn (tgt := 126) (off := 115) hC dX6_lane_11 (by omega) (by omega) (by rw [h3]; rfl) rfl ?_
      refine r_aload_n hC dX6_lane_126 rfl ?_
      refine r_iload_n hC dX6_lane_127 rfl ?_
      refine r_bipush hC dX6_lane_128 rfl ?_
      refine z_inv2 hM dX6_lane_130 vl_RX6_80 rfl rfl rfl (Nat.le_of_ble_eq_true rfl) (Nat.le_of_ble_eq_true rfl) ?_
      refine qm_of (by omega) (by omega) (fun v12 h_v12 h5_v12 h0_v12 t_v12 => ?_)
      clear t_v12
      refine y_iret hK rfl dX6_lane_133 ?_
      exact k _ (by omega)
    · refine r_tableIn (tgt := 134) (off := 123) hC dX6_lane_11 (by omega) (by omega) (by rw [h3]; rfl) rfl ?_
      refine r_aload_n hC dX6_lane_134 rfl ?_
      refine r_iload_n hC dX6_lane_135 rfl ?_
      refine r_bipush hC dX6_lane_136 rfl ?_
      refine z_inv2 hM dX6_lane_138 vl_RX6_80 rfl rfl rfl (Nat.le_of_ble_eq_true rfl) (Nat.le_of_ble_eq_true rfl) ?_
      refine qm_of (by omega) (by omega) (fun v13 h_v13 h5_v13 h0_v13 t_v13 => ?_)
      clear t_v13
      refine y_iret hK rfl dX6_lane_141 ?_
      exact k _ (by omega)
    · refine r_tableIn (tgt := 142) (off := 131) hC dX6_lane_11 (by omega) (by omega) (by rw [h3]; rfl) rfl ?_
      refine r_aload_n hC dX6_lane_142 rfl ?_
      refine r_iload_n hC dX6_lane_143 rfl ?_
      refine r_bipush hC dX6_lane_144 rfl ?_
      refine z_inv2 hM dX6_lane_146 vl_RX6_80 rfl rfl rfl (Nat.le_of_ble_eq_true rfl) (Nat.le_of_ble_eq_true rfl) ?_
      refine qm_of (by omega) (by omega) (fun v14 h_v14 h5_v14 h0_v14 t_v14 => ?_)
      clear t_v14
      refine y_iret hK rfl dX6_lane_149 ?_
      exact k _ (by omega)
  · refine r_if_ne (tgt := 10) hC dX6_lane_5 rfl (fun h15 => by omega) (fun h15 => ?_)
    refine r_iconst hC dX6_lane_8 rfl ?_
    refine y_iret hK rfl dX6_lane_9 ?_
    exact k _ (by omega)
theorem qm_event {eb : Bool} {d : Nat} {P : Option Vl → Mm → Prop} {σ : Mm} {l x w : Int}   (k : ∀ r : Int, -2147483648 ≤ r ∧ r ≤ 2147483647 → P (some (vI r)) σ) : WT (false, eb, false) (d + 4) 212 [vR 30 0, vI l, vI x, vI w] σ P := by
  refine WT_in fun K hK => ?_
  have hK : StpY (false, eb, false) cX6_event RX6 (some .int) (WT (false, eb, false) (d + 3)) P K := hK
  have hM := hK.1
  have hC := hK.1.1
  show K 0 [some (vR 30 0), some (vI l), some (vI x), some (vI w)] [] σ
  refine r_rngz hC (fun g0 => ?_)
  have r_l : -2147483648 ≤ l ∧ l ≤ 2147483647 := inR_le (g0 (vI l) (by simp))
  have r_x : -2147483648 ≤ x ∧ x ≤ 2147483647 := inR_le (g0 (vI x) (by simp))
  have r_w : -2147483648 ≤ w ∧ w ≤ 2147483647 := inR_le (g0 (vI w) (by simp))
  refine r_aload_n hC dX6_event_0 rfl ?_
  refine r_iload_n hC dX6_event_1 rfl ?_
  refine r_iload_n hC dX6_event_2 rfl ?_
  refine z_inv2 hM dX6_event_3 vl_RX6_262 rfl rfl rfl (Nat.le_of_ble_eq_true rfl) (Nat.le_of_ble_eq_true rfl) ?_
  refine qm_isEvent (fun h1 x_h1 => ?_) ?_
  · refine r_if_ne (tgt := 12) hC dX6_event_6 rfl (fun h2 => ?_) (fun h2 => by omega)
    refine r_iload_n hC dX6_event_12 rfl ?_
    rcases (by omega : (w < 0 ∨ 2 < w) ∨ w = 0 ∨ w = 1 ∨ w = 2) with h3 | h3 | h3 | h3
    · refine r_tableOut (tgt := 76) hC dX6_event_13 h3 rfl ?_
      refine r_ldc hC dX6_event_76 co_RX6_160 rfl ?_
      refine y_iret hK rfl dX6_event_78 ?_
      exact k _ (by omega)
    · refine r_tableIn (tgt := 40) (off := 27) hC dX6_event_13 (by omega) (by omega) (by rw [h3]; rfl) rfl ?_
      refine r_aload_n hC dX6_event_40 rfl ?_
      refine z_getR hM dX6_event_41 fl_RX6_13 rfl rfl (vld_of (n := 1) rfl (by omega) (by omega)) ?_
      refine r_bipush hC dX6_event_44 rfl ?_
      refine r_iload_n hC dX6_event_46 rfl ?_
      refine r_imulE hC ((121 * l)) dX6_event_47 (by omega) (by unfold inR; omega) ?_
      refine r_iload_n hC dX6_event_48 rfl ?_
      refine r_iaddE hC (((121 * l) + x)) dX6_event_49 (by omega) (by unfold inR; omega) ?_
      refine z_iald hM dX6_event_50 rfl (by omega) (by omega) (fun v4 h_v4 o_v4 t_v4 => ?_)
      clear t_v4
      refine y_iret hK rfl dX6_event_51 ?_
      exact k _ (by omega)
    · refine r_tableIn (tgt := 52) (off := 39) hC dX6_event_13 (by omega) (by omega) (by rw [h3]; rfl) rfl ?_
      refine r_aload_n hC dX6_event_52 rfl ?_
      refine z_getR hM dX6_event_53 fl_RX6_16 rfl rfl (vld_of (n := 1) rfl (by omega) (by omega)) ?_
      refine r_bipush hC dX6_event_56 rfl ?_
      refine r_iload_n hC dX6_event_58 rfl ?_
      refine r_imulE hC ((121 * l)) dX6_event_59 (by omega) (by unfold inR; omega) ?_
      refine r_iload_n hC dX6_event_60 rfl ?_
      refine r_iaddE hC (((121 * l) + x)) dX6_event_61 (by omega) (by unfold inR; omega) ?_
      refine z_iald hM dX6_event_62 rfl (by omega) (by omega) (fun v5 h_v5 o_v5 t_v5 => ?_)
      clear t_v5
      refine y_iret hK rfl dX6_event_63 ?_
      exact k _ (by omega)
    · refine r_tableIn (tgt := 64) (off := 51) hC dX6_event_13 (by omega) (by omega) (by rw [h3]; rfl) rfl ?_
      refine r_aload_n hC dX6_event_64 rfl ?_
      refine z_getR hM dX6_event_65 fl_RX6_19 rfl rfl (vld_of (n := 1) rfl (by omega) (by omega)) ?_
      refine r_bipush hC dX6_event_68 rfl ?_
      refine r_iload_n hC dX6_event_70 rfl ?_
      refine r_imulE hC ((121 * l)) dX6_event_71 (by omega) (by unfold inR; omega) ?_
      refine r_iload_n hC dX6_event_72 rfl ?_
      refine r_iaddE hC (((121 * l) + x)) dX6_event_73 (by omega) (by unfold inR; omega) ?_
      refine z_iald hM dX6_event_74 rfl (by omega) (by omega) (fun v6 h_v6 o_v6 t_v6 => ?_)
      clear t_v6
      refine y_iret hK rfl dX6_event_75 ?_
      exact k _ (by omega)
  · refine r_if_ne (tgt := 12) hC dX6_event_6 rfl (fun h7 => by omega) (fun h7 => ?_)
    refine r_ldc hC dX6_event_9 co_RX6_160 rfl ?_
    refine y_iret hK rfl dX6_event_11 ?_
    exact k _ (by omega)
theorem qm_rings {eb : Bool} {d : Nat} {P : Option Vl → Mm → Prop} {σ : Mm} {v : Int}   (k : ∀ r : Int, -2147483648 ≤ r ∧ r ≤ 2147483647 → P (some (vI r)) σ) : WT (false, eb, false) (d + 3) 187 [vR 30 0, vI v] σ P := by
  refine WT_in fun K hK => ?_
  have hK : StpY (false, eb, false) cX6_rings RX6 (some .int) (WT (false, eb, false) (d + 2)) P K := hK
  have hM := hK.1
  have hC := hK.1.1
  show K 0 [some (vR 30 0), some (vI v)] [] σ
  refine r_rngz hC (fun g0 => ?_)
  have r_v : -2147483648 ≤ v ∧ v ≤ 2147483647 := inR_le (g0 (vI v) (by simp))
  refine r_aload_n hC dX6_rings_0 rfl ?_
  refine r_iload_n hC dX6_rings_1 rfl ?_
  refine z_inv1 hM dX6_rings_2 vl_RX6_210 rfl rfl rfl (Nat.le_of_ble_eq_true rfl) (Nat.le_of_ble_eq_true rfl) ?_
  refine qm_isTold (fun h1 => ?_) ?_
  · refine r_if_eq (tgt := 17) hC dX6_rings_5 rfl (fun h2 => by omega) (fun h2 => ?_)
    refine r_aload_n hC dX6_rings_8 rfl ?_
    refine z_getR hM dX6_rings_9 fl_RX6_46 rfl rfl (vld_of (n := 1) rfl (by omega) (by omega)) ?_
    refine r_iload_n hC dX6_rings_12 rfl ?_
    refine z_iald hM dX6_rings_13 rfl (by omega) (by omega) (fun v3 h_v3 o_v3 t_v3 => ?_)
    clear t_v3
    refine r_goto (tgt := 18) hC dX6_rings_14 rfl ?_
    refine y_iret hK rfl dX6_rings_18 ?_
    exact k _ (by omega)
  · refine r_if_eq (tgt := 17) hC dX6_rings_5 rfl (fun h4 => ?_) (fun h4 => by omega)
    refine r_iconst hC dX6_rings_17 rfl ?_
    refine y_iret hK rfl dX6_rings_18 ?_
    exact k _ (by omega)
theorem qm_rang {eb : Bool} {d : Nat} {P : Option Vl → Mm → Prop} {σ : Mm} {v : Int}   (k : ∀ r : Int, -2147483648 ≤ r ∧ r ≤ 2147483647 → P (some (vI r)) σ) : WT (false, eb, false) (d + 3) 188 [vR 30 0, vI v] σ P := by
  refine WT_in fun K hK => ?_
  have hK : StpY (false, eb, false) cX6_rang RX6 (some .int) (WT (false, eb, false) (d + 2)) P K := hK
  have hM := hK.1
  have hC := hK.1.1
  show K 0 [some (vR 30 0), some (vI v)] [] σ
  refine r_rngz hC (fun g0 => ?_)
  have r_v : -2147483648 ≤ v ∧ v ≤ 2147483647 := inR_le (g0 (vI v) (by simp))
  refine r_aload_n hC dX6_rang_0 rfl ?_
  refine r_iload_n hC dX6_rang_1 rfl ?_
  refine z_inv1 hM dX6_rang_2 vl_RX6_210 rfl rfl rfl (Nat.le_of_ble_eq_true rfl) (Nat.le_of_ble_eq_true rfl) ?_
  refine qm_isTold (fun h1 => ?_) ?_
  · refine r_if_eq (tgt := 17) hC dX6_rang_5 rfl (fun h2 => by omega) (fun h2 => ?_)
    refine r_aload_n hC dX6_rang_8 rfl ?_
    refine z_getR hM dX6_rang_9 fl_RX6_49 rfl rfl (vld_of (n := 1) rfl (by omega) (by omega)) ?_
    refine r_iload_n hC dX6_rang_12 rfl ?_
    refine z_iald hM dX6_rang_13 rfl (by omega) (by omega) (fun v3 h_v3 o_v3 t_v3 => ?_)
    clear t_v3
    refine r_goto (tgt := 18) hC dX6_rang_14 rfl ?_
    refine y_iret hK rfl dX6_rang_18 ?_
    exact k _ (by omega)
  · refine r_if_eq (tgt := 17) hC dX6_rang_5 rfl (fun h4 => ?_) (fun h4 => by omega)
    refine r_iconst hC dX6_rang_17 rfl ?_
    refine y_iret hK rfl dX6_rang_18 ?_
    exact k _ (by omega)
theorem qm_linked {eb : Bool} {d : Nat} {P : Option Vl → Mm → Prop} {σ : Mm} {l w : Int}   (k : ∀ r : Int, -2147483648 ≤ r ∧ r ≤ 2147483647 → P (some (vI r)) σ) : WT (false, eb, false) (d + 3) 201 [vR 30 0, vI l, vI w] σ P := by
  refine WT_in fun K hK => ?_
  have hK : StpY (false, eb, false) cX6_linked RX6 (some .int) (WT (false, eb, false) (d + 2)) P K := hK
  have hM := hK.1
  have hC := hK.1.1
  show K 0 [some (vR 30 0), some (vI l), some (vI w)] [] σ
  refine r_rngz hC (fun g0 => ?_)
  have r_l : -2147483648 ≤ l ∧ l ≤ 2147483647 := inR_le (g0 (vI l) (by simp))
  have r_w : -2147483648 ≤ w ∧ w ≤ 2147483647 := inR_le (g0 (vI w) (by simp))
  refine r_aload_n hC dX6_linked_0 rfl ?_
  refine r_iload_n hC dX6_linked_1 rfl ?_
  refine z_inv1 hM dX6_linked_2 vl_RX6_124 rfl rfl rfl (Nat.le_of_ble_eq_true rfl) (Nat.le_of_ble_eq_true rfl) ?_
  refine qm_isLane (fun h1 => ?_) ?_
  · refine r_if_eq (tgt := 17) hC dX6_linked_5 rfl (fun h2 => by omega) (fun h2 => ?_)
    refine r_aload_n hC dX6_linked_8 rfl ?_
    refine z_getR hM dX6_linked_9 fl_RX6_52 rfl rfl (vld_of (n := 1) rfl (by omega) (by omega)) ?_
    refine r_iload_n hC dX6_linked_12 rfl ?_
    refine z_iald hM dX6_linked_13 rfl (by omega) (by omega) (fun v3 h_v3 o_v3 t_v3 => ?_)
    clear t_v3
    have q_v3 : -1 ≤ v3 ∧ v3 ≤ 3 := o_v3
    refine r_if_ge (tgt := 19) hC dX6_linked_14 rfl (fun h4 => ?_) (fun h4 => ?_)
    · refine r_iload_n hC dX6_linked_19 rfl ?_
      rcases (by omega : (w < 0 ∨ 3 < w) ∨ w = 0 ∨ w = 1 ∨ w = 2 ∨ w = 3) with h5 | h5 | h5 | h5 | h5
      · refine r_tableOut (tgt := 80) hC dX6_linked_20 h5 rfl ?_
        refine r_iconst hC dX6_linked_80 rfl ?_
        refine y_iret hK rfl dX6_linked_81 ?_
        exact k _ (by omega)
      · refine r_tableIn (tgt := 52) (off := 32) hC dX6_linked_20 (by omega) (by omega) (by rw [h5]; rfl) rfl ?_
        refine r_aload_n hC dX6_linked_52 rfl ?_
        refine z_getR hM dX6_linked_53 fl_RX6_52 rfl rfl (vld_of (n := 1) rfl (by omega) (by omega)) ?_
        refine r_iload_n hC dX6_linked_56 rfl ?_
        refine z_iald hM dX6_linked_57 rfl (by omega) (by omega) (fun v6 h_v6 o_v6 t_v6 => ?_)
        clear t_v6
        have q_v6 : -1 ≤ v6 ∧ v6 ≤ 3 := o_v6
        refine y_iret hK rfl dX6_linked_58 ?_
        exact k _ (by omega)
      · refine r_tableIn (tgt := 59) (off := 39) hC dX6_linked_20 (by omega) (by omega) (by rw [h5]; rfl) rfl ?_
        refine r_aload_n hC dX6_linked_59 rfl ?_
        refine z_getR hM dX6_linked_60 fl_RX6_55 rfl rfl (vld_of (n := 1) rfl (by omega) (by omega)) ?_
        refine r_iload_n hC dX6_linked_63 rfl ?_
        refine z_iald hM dX6_linked_64 rfl (by omega) (by omega) (fun v7 h_v7 o_v7 t_v7 => ?_)
        clear t_v7
        refine y_iret hK rfl dX6_linked_65 ?_
        exact k _ (by omega)
      · refine r_tableIn (tgt := 66) (off := 46) hC dX6_linked_20 (by omega) (by omega) (by rw [h5]; rfl) rfl ?_
        refine r_aload_n hC dX6_linked_66 rfl ?_
        refine z_getR hM dX6_linked_67 fl_RX6_58 rfl rfl (vld_of (n := 1) rfl (by omega) (by omega)) ?_
        refine r_iload_n hC dX6_linked_70 rfl ?_
        refine z_iald hM dX6_linked_71 rfl (by omega) (by omega) (fun v8 h_v8 o_v8 t_v8 => ?_)
        clear t_v8
        have q_v8 : 0 ≤ v8 ∧ v8 ≤ 6 := o_v8
        refine y_iret hK rfl dX6_linked_72 ?_
        exact k _ (by omega)
      · refine r_tableIn (tgt := 73) (off := 53) hC dX6_linked_20 (by omega) (by omega) (by rw [h5]; rfl) rfl ?_
        refine r_aload_n hC dX6_linked_73 rfl ?_
        refine z_getR hM dX6_linked_74 fl_RX6_61 rfl rfl (vld_of (n := 1) rfl (by omega) (by omega)) ?_
        refine r_iload_n hC dX6_linked_77 rfl ?_
        refine z_iald hM dX6_linked_78 rfl (by omega) (by omega) (fun v9 h_v9 o_v9 t_v9 => ?_)
        clear t_v9
        refine y_iret hK rfl dX6_linked_79 ?_
        exact k _ (by omega)
    · refine r_iconst hC dX6_linked_17 rfl ?_
      refine y_iret hK rfl dX6_linked_18 ?_
      exact k _ (by omega)
  · refine r_if_eq (tgt := 17) hC dX6_linked_5 rfl (fun h10 => ?_) (fun h10 => by omega)
    refine r_iconst hC dX6_linked_17 rfl ?_
    refine y_iret hK rfl dX6_linked_18 ?_
    exact k _ (by omega)
theorem qm_openLanes {eb : Bool} {d : Nat} {P : Option Vl → Mm → Prop} {σ : Mm}   (k : ∀ r : Int, -2147483648 ≤ r ∧ r ≤ 2147483647 → P (some (vI r)) σ) : WT (false, eb, false) (d + 2) 175 [vR 30 0] σ P := by
  refine WT_in fun K hK => ?_
  have hK : StpY (false, eb, false) cX6_openLanes RX6 (some .int) (WT (false, eb, false) (d + 1)) P K := hK
  have hM := hK.1
  have hC := hK.1.1
  show K 0 [some (vR 30 0), none, none] [] σ
  refine r_iconst hC dX6_openLanes_0 rfl ?_
  refine r_istore_n hC dX6_openLanes_1 rfl ?_
  refine r_iconst hC dX6_openLanes_2 rfl ?_
  refine r_istore_n hC dX6_openLanes_3 rfl ?_
  have L4 : ∀ (n4 : Nat) (w1 w2 : Int), -2147483648 ≤ w1 ∧ w1 ≤ 2147483647 → 0 ≤ w2 ∧ w2 ≤ 4 → 4 - w2 < (n4 : Int) → K 4 [some (vR 30 0), some (vI w1), some (vI w2)] [] σ := by
    intro n4
    induction n4 with
    | zero => intro w1 w2  f_w1 f_w2  hm  ; omega
    | succ n4 ih4 =>
      intro w1 w2  f_w1 f_w2  hm4  
      refine r_iload_n hC dX6_openLanes_4 rfl ?_
      refine r_iconst hC dX6_openLanes_5 rfl ?_
      refine r_icmp_ge (tgt := 24) hC dX6_openLanes_6 rfl (fun h3 => ?_) (fun h3 => ?_)
      · refine r_iload_n hC dX6_openLanes_24 rfl ?_
        refine y_iret hK rfl dX6_openLanes_25 ?_
        exact k _ (by omega)
      · refine r_iload_n hC dX6_openLanes_9 rfl ?_
        refine r_aload_n hC dX6_openLanes_10 rfl ?_
        refine r_iload_n hC dX6_openLanes_11 rfl ?_
        refine r_iconst hC dX6_openLanes_12 rfl ?_
        refine z_inv2 hM dX6_openLanes_13 vl_RX6_80 rfl rfl rfl (Nat.le_of_ble_eq_true rfl) (Nat.le_of_ble_eq_true rfl) ?_
        refine qm_of (by omega) (by omega) (fun v4 h_v4 h5_v4 h0_v4 t_v4 => ?_)
        clear t_v4
        have q_v4 := h0_v4 rfl
        refine r_iaddG hC dX6_openLanes_16 (fun v5 h_v5 => ?_)
        refine r_istore_n hC dX6_openLanes_17 rfl ?_
        refine r_iincE hC ((w2 + 1)) dX6_openLanes_18 rfl rfl (by omega) (by unfold inR; omega) ?_
        refine r_goto (tgt := 4) hC dX6_openLanes_21 rfl ?_
        exact ih4 (v5) ((w2 + 1))  (by omega) (by omega)  (by omega)  
  exact L4 6 (0) (0)  (by omega) (by omega)  (by omega)  
theorem qm_sumOf {eb : Bool} {d : Nat} {P : Option Vl → Mm → Prop} {σ : Mm} {f : Int} (b_f : 0 ≤ f ∧ f ≤ 21)  (k : ∀ r : Int, -2147483648 ≤ r ∧ r ≤ 2147483647 → P (some (vI r)) σ) : WT (false, eb, false) (d + 2) 256 [vR 30 0, vI f] σ P := by
  refine WT_in fun K hK => ?_
  have hK : StpY (false, eb, false) cX6_sumOf RX6 (some .int) (WT (false, eb, false) (d + 1)) P K := hK
  have hM := hK.1
  have hC := hK.1.1
  show K 0 [some (vR 30 0), some (vI f), none, none] [] σ
  refine r_iconst hC dX6_sumOf_0 rfl ?_
  refine r_istore_n hC dX6_sumOf_1 rfl ?_
  refine r_iconst hC dX6_sumOf_2 rfl ?_
  refine r_istore_n hC dX6_sumOf_3 rfl ?_
  have L4 : ∀ (n4 : Nat) (w1 w2 : Int), -2147483648 ≤ w1 ∧ w1 ≤ 2147483647 → 0 ≤ w2 ∧ w2 ≤ 4 → 4 - w2 < (n4 : Int) → K 4 [some (vR 30 0), some (vI f), some (vI w1), some (vI w2)] [] σ := by
    intro n4
    induction n4 with
    | zero => intro w1 w2  f_w1 f_w2  hm  ; omega
    | succ n4 ih4 =>
      intro w1 w2  f_w1 f_w2  hm4  
      refine r_iload_n hC dX6_sumOf_4 rfl ?_
      refine r_iconst hC dX6_sumOf_5 rfl ?_
      refine r_icmp_ge (tgt := 38) hC dX6_sumOf_6 rfl (fun h3 => ?_) (fun h3 => ?_)
      · refine r_iload_n hC dX6_sumOf_38 rfl ?_
        refine y_iret hK rfl dX6_sumOf_39 ?_
        exact k _ (by omega)
      · refine r_iload_n hC dX6_sumOf_9 rfl ?_
        refine r_aload_n hC dX6_sumOf_10 rfl ?_
        refine r_iload_n hC dX6_sumOf_11 rfl ?_
        refine r_iconst hC dX6_sumOf_12 rfl ?_
        refine z_inv2 hM dX6_sumOf_13 vl_RX6_80 rfl rfl rfl (Nat.le_of_ble_eq_true rfl) (Nat.le_of_ble_eq_true rfl) ?_
        refine qm_of (by omega) (by omega) (fun v4 h_v4 h5_v4 h0_v4 t_v4 => ?_)
        clear t_v4
        have q_v4 := h0_v4 rfl
        refine r_iconst hC dX6_sumOf_16 rfl ?_
        have J30_6 : ∀ (w6 : Int), -2147483648 ≤ w6 ∧ w6 ≤ 2147483647 → K 30 [some (vR 30 0), some (vI f), some (vI w1), some (vI w2)] [vI w6, vI w1] σ := by
          intro w6  f_w6 
          refine r_iaddG hC dX6_sumOf_30 (fun v8 h_v8 => ?_)
          refine r_istore_n hC dX6_sumOf_31 rfl ?_
          refine r_iincE hC ((w2 + 1)) dX6_sumOf_32 rfl rfl (by omega) (by unfold inR; omega) ?_
          refine r_goto (tgt := 4) hC dX6_sumOf_35 rfl ?_
          exact ih4 (v8) ((w2 + 1))  (by omega) (by omega)  (by omega)  
        refine r_icmp_ne (tgt := 29) hC dX6_sumOf_17 rfl (fun h5 => ?_) (fun h5 => ?_)
        · refine r_iconst hC dX6_sumOf_29 rfl ?_
          exact J30_6 (0)  (by omega) 
        · refine r_aload_n hC dX6_sumOf_20 rfl ?_
          refine r_iload_n hC dX6_sumOf_21 rfl ?_
          refine r_iload_n hC dX6_sumOf_22 rfl ?_
          refine z_inv2 hM dX6_sumOf_23 vl_RX6_80 rfl rfl rfl (Nat.le_of_ble_eq_true rfl) (Nat.le_of_ble_eq_true rfl) ?_
          refine qm_of (by omega) (by omega) (fun v9 h_v9 h5_v9 h0_v9 t_v9 => ?_)
          clear t_v9
          refine r_goto (tgt := 30) hC dX6_sumOf_26 rfl ?_
          exact J30_6 (v9)  (by omega) 
  exact L4 6 (0) (0)  (by omega) (by omega)  (by omega)  
theorem qm_boxesNow {eb : Bool} {d : Nat} {P : Option Vl → Mm → Prop} {σ : Mm}   (k : ∀ r : Int, -2147483648 ≤ r ∧ r ≤ 2147483647 → P (some (vI r)) σ) : WT (false, eb, false) (d + 2) 257 [vR 30 0] σ P := by
  refine WT_in fun K hK => ?_
  have hK : StpY (false, eb, false) cX6_boxesNow RX6 (some .int) (WT (false, eb, false) (d + 1)) P K := hK
  have hM := hK.1
  have hC := hK.1.1
  show K 0 [some (vR 30 0), none, none] [] σ
  refine r_iconst hC dX6_boxesNow_0 rfl ?_
  refine r_istore_n hC dX6_boxesNow_1 rfl ?_
  refine r_iconst hC dX6_boxesNow_2 rfl ?_
  refine r_istore_n hC dX6_boxesNow_3 rfl ?_
  have L4 : ∀ (n4 : Nat) (w1 w2 : Int), -2147483648 ≤ w1 ∧ w1 ≤ 2147483647 → 0 ≤ w2 ∧ w2 ≤ 3 → 3 - w2 < (n4 : Int) → K 4 [some (vR 30 0), some (vI w1), some (vI w2)] [] σ := by
    intro n4
    induction n4 with
    | zero => intro w1 w2  f_w1 f_w2  hm  ; omega
    | succ n4 ih4 =>
      intro w1 w2  f_w1 f_w2  hm4  
      refine r_iload_n hC dX6_boxesNow_4 rfl ?_
      refine r_iconst hC dX6_boxesNow_5 rfl ?_
      refine r_icmp_ge (tgt := 26) hC dX6_boxesNow_6 rfl (fun h3 => ?_) (fun h3 => ?_)
      · refine r_iload_n hC dX6_boxesNow_26 rfl ?_
        refine y_iret hK rfl dX6_boxesNow_27 ?_
        exact k _ (by omega)
      · refine r_iload_n hC dX6_boxesNow_9 rfl ?_
        refine r_aload_n hC dX6_boxesNow_10 rfl ?_
        refine r_iconst hC dX6_boxesNow_11 rfl ?_
        refine r_iload_n hC dX6_boxesNow_12 rfl ?_
        refine r_iaddE hC ((w2 + 4)) dX6_boxesNow_13 (by omega) (by unfold inR; omega) ?_
        refine r_iconst hC dX6_boxesNow_14 rfl ?_
        refine z_inv2 hM dX6_boxesNow_15 vl_RX6_80 rfl rfl rfl (Nat.le_of_ble_eq_true rfl) (Nat.le_of_ble_eq_true rfl) ?_
        refine qm_of (by omega) (by omega) (fun v4 h_v4 h5_v4 h0_v4 t_v4 => ?_)
        clear t_v4
        have q_v4 := h0_v4 rfl
        refine r_iaddG hC dX6_boxesNow_18 (fun v5 h_v5 => ?_)
        refine r_istore_n hC dX6_boxesNow_19 rfl ?_
        refine r_iincE hC ((w2 + 1)) dX6_boxesNow_20 rfl rfl (by omega) (by unfold inR; omega) ?_
        refine r_goto (tgt := 4) hC dX6_boxesNow_23 rfl ?_
        exact ih4 (v5) ((w2 + 1))  (by omega) (by omega)  (by omega)  
  exact L4 5 (0) (0)  (by omega) (by omega)  (by omega)  
theorem qm_toldNow {eb : Bool} {d : Nat} {P : Option Vl → Mm → Prop} {σ : Mm} {z : Int}   (k : ∀ r : Int, -2147483648 ≤ r ∧ r ≤ 2147483647 → P (some (vI r)) σ) : WT (false, eb, false) (d + 3) 258 [vR 30 0, vI z] σ P := by
  refine WT_in fun K hK => ?_
  have hK : StpY (false, eb, false) cX6_toldNow RX6 (some .int) (WT (false, eb, false) (d + 2)) P K := hK
  have hM := hK.1
  have hC := hK.1.1
  show K 0 [some (vR 30 0), some (vI z), none, none] [] σ
  refine r_rngz hC (fun g0 => ?_)
  have r_z : -2147483648 ≤ z ∧ z ≤ 2147483647 := inR_le (g0 (vI z) (by simp))
  refine r_iconst hC dX6_toldNow_0 rfl ?_
  refine r_istore_n hC dX6_toldNow_1 rfl ?_
  refine r_iconst hC dX6_toldNow_2 rfl ?_
  refine r_istore_n hC dX6_toldNow_3 rfl ?_
  have L4 : ∀ (n4 : Nat) (w1 w2 : Int), -2147483648 ≤ w1 ∧ w1 ≤ 2147483647 → 0 ≤ w2 ∧ w2 ≤ 8 → 8 - w2 < (n4 : Int) → K 4 [some (vR 30 0), some (vI z), some (vI w1), some (vI w2)] [] σ := by
    intro n4
    induction n4 with
    | zero => intro w1 w2  f_w1 f_w2  hm  ; omega
    | succ n4 ih4 =>
      intro w1 w2  f_w1 f_w2  hm4  
      refine r_iload_n hC dX6_toldNow_4 rfl ?_
      refine r_bipush hC dX6_toldNow_5 rfl ?_
      refine r_icmp_ge (tgt := 41) hC dX6_toldNow_7 rfl (fun h3 => ?_) (fun h3 => ?_)
      · refine r_iload_n hC dX6_toldNow_41 rfl ?_
        refine y_iret hK rfl dX6_toldNow_42 ?_
        exact k _ (by omega)
      · refine r_aload_n hC dX6_toldNow_10 rfl ?_
        refine r_iload_n hC dX6_toldNow_11 rfl ?_
        refine z_inv1 hM dX6_toldNow_12 vl_RX6_210 rfl rfl rfl (Nat.le_of_ble_eq_true rfl) (Nat.le_of_ble_eq_true rfl) ?_
        refine qm_isTold (fun h4 => ?_) ?_
        · refine r_if_eq (tgt := 35) hC dX6_toldNow_15 rfl (fun h5 => by omega) (fun h5 => ?_)
          refine r_iload_n hC dX6_toldNow_18 rfl ?_
          refine r_iload_n hC dX6_toldNow_19 rfl ?_
          have J33_7 : ∀ (w7 : Int), -2147483648 ≤ w7 ∧ w7 ≤ 2147483647 → K 33 [some (vR 30 0), some (vI z), some (vI w1), some (vI w2)] [vI w7, vI w1] σ := by
            intro w7  f_w7 
            refine r_iaddG hC dX6_toldNow_33 (fun v9 h_v9 => ?_)
            refine r_istore_n hC dX6_toldNow_34 rfl ?_
            refine r_iincE hC ((w2 + 1)) dX6_toldNow_35 rfl rfl (by omega) (by unfold inR; omega) ?_
            refine r_goto (tgt := 4) hC dX6_toldNow_38 rfl ?_
            exact ih4 (v9) ((w2 + 1))  (by omega) (by omega)  (by omega)  
          refine r_if_eq (tgt := 32) hC dX6_toldNow_20 rfl (fun h6 => ?_) (fun h6 => ?_)
          · refine r_iconst hC dX6_toldNow_32 rfl ?_
            exact J33_7 (1)  (by omega) 
          · refine r_aload_n hC dX6_toldNow_23 rfl ?_
            refine z_getR hM dX6_toldNow_24 fl_RX6_46 rfl rfl (vld_of (n := 1) rfl (by omega) (by omega)) ?_
            refine r_iload_n hC dX6_toldNow_27 rfl ?_
            refine z_iald hM dX6_toldNow_28 rfl (by omega) (by omega) (fun v10 h_v10 o_v10 t_v10 => ?_)
            clear t_v10
            refine r_goto (tgt := 33) hC dX6_toldNow_29 rfl ?_
            exact J33_7 (v10)  (by omega) 
        · refine r_if_eq (tgt := 35) hC dX6_toldNow_15 rfl (fun h11 => ?_) (fun h11 => by omega)
          refine r_iincE hC ((w2 + 1)) dX6_toldNow_35 rfl rfl (by omega) (by unfold inR; omega) ?_
          refine r_goto (tgt := 4) hC dX6_toldNow_38 rfl ?_
          exact ih4 (w1) ((w2 + 1))  (by omega) (by omega)  (by omega)  
  exact L4 10 (0) (0)  (by omega) (by omega)  (by omega)  
theorem qm_linksNow {eb : Bool} {d : Nat} {P : Option Vl → Mm → Prop} {σ : Mm}   (k : ∀ r : Int, -2147483648 ≤ r ∧ r ≤ 2147483647 → P (some (vI r)) σ) : WT (false, eb, false) (d + 1) 259 [vR 30 0] σ P := by
  refine WT_in fun K hK => ?_
  have hK : StpY (false, eb, false) cX6_linksNow RX6 (some .int) (WT (false, eb, false) (d + 0)) P K := hK
  have hM := hK.1
  have hC := hK.1.1
  show K 0 [some (vR 30 0), none, none] [] σ
  refine r_iconst hC dX6_linksNow_0 rfl ?_
  refine r_istore_n hC dX6_linksNow_1 rfl ?_
  refine r_iconst hC dX6_linksNow_2 rfl ?_
  refine r_istore_n hC dX6_linksNow_3 rfl ?_
  have L4 : ∀ (n4 : Nat) (w1 w2 : Int), -2147483648 ≤ w1 ∧ w1 ≤ 2147483647 → 0 ≤ w2 ∧ w2 ≤ 4 → 4 - w2 < (n4 : Int) → K 4 [some (vR 30 0), some (vI w1), some (vI w2)] [] σ := by
    intro n4
    induction n4 with
    | zero => intro w1 w2  f_w1 f_w2  hm  ; omega
    | succ n4 ih4 =>
      intro w1 w2  f_w1 f_w2  hm4  
      refine r_iload_n hC dX6_linksNow_4 rfl ?_
      refine r_iconst hC dX6_linksNow_5 rfl ?_
      refine r_icmp_ge (tgt := 32) hC dX6_linksNow_6 rfl (fun h3 => ?_) (fun h3 => ?_)
      · refine r_iload_n hC dX6_linksNow_32 rfl ?_
        refine y_iret hK rfl dX6_linksNow_33 ?_
        exact k _ (by omega)
      · refine r_iload_n hC dX6_linksNow_9 rfl ?_
        refine r_aload_n hC dX6_linksNow_10 rfl ?_
        refine z_getR hM dX6_linksNow_11 fl_RX6_52 rfl rfl (vld_of (n := 1) rfl (by omega) (by omega)) ?_
        refine r_iload_n hC dX6_linksNow_14 rfl ?_
        refine z_iald hM dX6_linksNow_15 rfl (by omega) (by omega) (fun v4 h_v4 o_v4 t_v4 => ?_)
        clear t_v4
        have q_v4 : -1 ≤ v4 ∧ v4 ≤ 3 := o_v4
        have J24_6 : ∀ (w6 : Int), 0 ≤ w6 ∧ w6 ≤ 1 → K 24 [some (vR 30 0), some (vI w1), some (vI w2)] [vI w6, vI w1] σ := by
          intro w6  f_w6 
          refine r_iaddG hC dX6_linksNow_24 (fun v8 h_v8 => ?_)
          refine r_istore_n hC dX6_linksNow_25 rfl ?_
          refine r_iincE hC ((w2 + 1)) dX6_linksNow_26 rfl rfl (by omega) (by unfold inR; omega) ?_
          refine r_goto (tgt := 4) hC dX6_linksNow_29 rfl ?_
          exact ih4 (v8) ((w2 + 1))  (by omega) (by omega)  (by omega)  
        refine r_if_lt (tgt := 23) hC dX6_linksNow_16 rfl (fun h5 => ?_) (fun h5 => ?_)
        · refine r_iconst hC dX6_linksNow_23 rfl ?_
          exact J24_6 (0)  (by omega) 
        · refine r_iconst hC dX6_linksNow_19 rfl ?_
          refine r_goto (tgt := 24) hC dX6_linksNow_20 rfl ?_
          exact J24_6 (1)  (by omega) 
  exact L4 6 (0) (0)  (by omega) (by omega)  (by omega)  
theorem qm_about {eb : Bool} {d : Nat} {P : Option Vl → Mm → Prop} {σ : Mm} {w : Int}   (k : ∀ r : Int, -2147483648 ≤ r ∧ r ≤ 2147483647 → P (some (vI r)) σ) : WT (false, eb, false) (d + 4) 260 [vR 30 0, vI w] σ P := by
  refine WT_in fun K hK => ?_
  have hK : StpY (false, eb, false) cX6_about RX6 (some .int) (WT (false, eb, false) (d + 3)) P K := hK
  have hM := hK.1
  have hC := hK.1.1
  show K 0 [some (vR 30 0), some (vI w)] [] σ
  refine r_rngz hC (fun g0 => ?_)
  have r_w : -2147483648 ≤ w ∧ w ≤ 2147483647 := inR_le (g0 (vI w) (by simp))
  refine r_iload_n hC dX6_about_0 rfl ?_
  rcases (by omega : (w < 0 ∨ 6 < w) ∨ w = 0 ∨ w = 1 ∨ w = 2 ∨ w = 3 ∨ w = 4 ∨ w = 5 ∨ w = 6) with h1 | h1 | h1 | h1 | h1 | h1 | h1 | h1
  · refine r_tableOut (tgt := 84) hC dX6_about_1 h1 rfl ?_
    refine r_iconst hC dX6_about_84 rfl ?_
    refine y_iret hK rfl dX6_about_85 ?_
    exact k _ (by omega)
  · refine r_tableIn (tgt := 44) (off := 43) hC dX6_about_1 (by omega) (by omega) (by rw [h1]; rfl) rfl ?_
    refine r_aload_n hC dX6_about_44 rfl ?_
    refine z_inv0 hM dX6_about_45 vl_RX6_182 rfl rfl rfl (Nat.le_of_ble_eq_true rfl) (Nat.le_of_ble_eq_true rfl) ?_
    refine qm_openLanes (fun v2 h_v2 => ?_)
    refine y_iret hK rfl dX6_about_48 ?_
    exact k _ (by omega)
  · refine r_tableIn (tgt := 49) (off := 48) hC dX6_about_1 (by omega) (by omega) (by rw [h1]; rfl) rfl ?_
    refine r_aload_n hC dX6_about_49 rfl ?_
    refine r_iconst hC dX6_about_50 rfl ?_
    refine z_inv1 hM dX6_about_51 vl_RX6_307 rfl rfl rfl (Nat.le_of_ble_eq_true rfl) (Nat.le_of_ble_eq_true rfl) ?_
    refine qm_sumOf (by omega) (fun v3 h_v3 => ?_)
    refine y_iret hK rfl dX6_about_54 ?_
    exact k _ (by omega)
  · refine r_tableIn (tgt := 55) (off := 54) hC dX6_about_1 (by omega) (by omega) (by rw [h1]; rfl) rfl ?_
    refine r_aload_n hC dX6_about_55 rfl ?_
    refine r_bipush hC dX6_about_56 rfl ?_
    refine z_inv1 hM dX6_about_58 vl_RX6_307 rfl rfl rfl (Nat.le_of_ble_eq_true rfl) (Nat.le_of_ble_eq_true rfl) ?_
    refine qm_sumOf (by omega) (fun v4 h_v4 => ?_)
    refine y_iret hK rfl dX6_about_61 ?_
    exact k _ (by omega)
  · refine r_tableIn (tgt := 62) (off := 61) hC dX6_about_1 (by omega) (by omega) (by rw [h1]; rfl) rfl ?_
    refine r_aload_n hC dX6_about_62 rfl ?_
    refine r_iconst hC dX6_about_63 rfl ?_
    refine z_inv1 hM dX6_about_64 vl_RX6_310 rfl rfl rfl (Nat.le_of_ble_eq_true rfl) (Nat.le_of_ble_eq_true rfl) ?_
    refine qm_toldNow (fun v5 h_v5 => ?_)
    refine y_iret hK rfl dX6_about_67 ?_
    exact k _ (by omega)
  · refine r_tableIn (tgt := 68) (off := 67) hC dX6_about_1 (by omega) (by omega) (by rw [h1]; rfl) rfl ?_
    refine r_aload_n hC dX6_about_68 rfl ?_
    refine z_inv0 hM dX6_about_69 vl_RX6_314 rfl rfl rfl (Nat.le_of_ble_eq_true rfl) (Nat.le_of_ble_eq_true rfl) ?_
    refine qm_boxesNow (fun v6 h_v6 => ?_)
    refine y_iret hK rfl dX6_about_72 ?_
    exact k _ (by omega)
  · refine r_tableIn (tgt := 73) (off := 72) hC dX6_about_1 (by omega) (by omega) (by rw [h1]; rfl) rfl ?_
    refine r_aload_n hC dX6_about_73 rfl ?_
    refine r_iconst hC dX6_about_74 rfl ?_
    refine z_inv1 hM dX6_about_75 vl_RX6_310 rfl rfl rfl (Nat.le_of_ble_eq_true rfl) (Nat.le_of_ble_eq_true rfl) ?_
    refine qm_toldNow (fun v7 h_v7 => ?_)
    refine y_iret hK rfl dX6_about_78 ?_
    exact k _ (by omega)
  · refine r_tableIn (tgt := 79) (off := 78) hC dX6_about_1 (by omega) (by omega) (by rw [h1]; rfl) rfl ?_
    refine r_aload_n hC dX6_about_79 rfl ?_
    refine z_inv0 hM dX6_about_80 vl_RX6_317 rfl rfl rfl (Nat.le_of_ble_eq_true rfl) (Nat.le_of_ble_eq_true rfl) ?_
    refine qm_linksNow (fun v8 h_v8 => ?_)
    refine y_iret hK rfl dX6_about_83 ?_
    exact k _ (by omega)
