-- B: the class: opening, shutting
theorem x_wend {e : Ev} {d : Nat} {P : Option Vl → Mm → Prop} {σ : Mm} {i : Int} (b_i : 0 ≤ i ∧ i ≤ 7)  (k : P none (mu σ 12 i 0 (-1))) : WT e (d + 1) 45 [vR 12 i] σ P := by
  refine WT_in fun K hK => ?_
  have hK : StpY e cX4_end RX4 (none) (WT e (d + 0)) P K := hK
  have hM := hK.1
  have hC := hK.1.1
  show K 0 [some (vR 12 i)] [] σ
  refine r_aload_n hC dX4_end_0 rfl ?_
  refine r_iconst hC dX4_end_1 rfl ?_
  refine z_putIT (jz := 0) hM dX4_end_2 fw_RX4_9 rfl rfl rfl ⟨Or.inr (by simp [DL]), Or.inr (by simp [DF])⟩ (by first | trivial | (simp only [Okv]; omega) | (simp [Okv]; try omega)) ?_
  refine y_vret hK rfl dX4_end_5 ?_
  exact k
theorem x_lend {e : Ev} {d : Nat} {P : Option Vl → Mm → Prop} {σ : Mm} {i : Int} (b_i : 0 ≤ i ∧ i ≤ 3)  (k : P none (mu σ 13 i 0 (-1))) : WT e (d + 1) 40 [vR 13 i] σ P := by
  refine WT_in fun K hK => ?_
  have hK : StpY e cX3_end RX3 (none) (WT e (d + 0)) P K := hK
  have hM := hK.1
  have hC := hK.1.1
  show K 0 [some (vR 13 i)] [] σ
  refine r_aload_n hC dX3_end_0 rfl ?_
  refine r_iconst hC dX3_end_1 rfl ?_
  refine z_putIT (jz := 0) hM dX3_end_2 fw_RX3_9 rfl rfl rfl ⟨Or.inr (by simp [DL]), Or.inr (by simp [DF])⟩ (by first | trivial | (simp only [Okv]; omega) | (simp [Okv]; try omega)) ?_
  refine y_vret hK rfl dX3_end_5 ?_
  exact k
theorem x_endTies {e : Ev} {d : Nat} {P : Option Vl → Mm → Prop} {σ : Mm} {l : Int} (b_l : 0 ≤ l ∧ l ≤ 3)  (k : P none (etM σ l)) : WT e (d + 2) 108 [vR 2 0, vI l] σ P := by
  refine WT_in fun K hK => ?_
  have hK : StpY e cX5_endTies RX5 (none) (WT e (d + 1)) P K := hK
  have hM := hK.1
  have hC := hK.1.1
  show K 0 [some (vR 2 0), some (vI l), none] [] σ
  refine r_iconst hC dX5_endTies_0 rfl ?_
  refine r_istore_n hC dX5_endTies_1 rfl ?_
  have L2 : ∀ (n2 : Nat) (w1 : Int) (ρ2 : Mm), 0 ≤ w1 ∧ w1 ≤ 8 → 8 - w1 < (n2 : Int) → (ρ2 = etA σ l (w1)) → K 2 [some (vR 2 0), some (vI l), some (vI w1)] [] ρ2 := by
    intro n2
    induction n2 with
    | zero => intro w1 ρ2 f_w1  hm  m0_2; omega
    | succ n2 ih2 =>
      intro w1 ρ2 f_w1  hm2  m0_2
      refine r_iload_n hC dX5_endTies_2 rfl ?_
      refine r_bipush hC dX5_endTies_3 rfl ?_
      refine r_icmp_ge (tgt := 36) hC dX5_endTies_5 rfl (fun h3 => ?_) (fun h3 => ?_)
      · refine r_iconst hC dX5_endTies_36 rfl ?_
        refine r_istore_n hC dX5_endTies_37 rfl ?_
        have L38 : ∀ (n38 : Nat) (w4 : Int) (ρ5 : Mm), 0 ≤ w4 ∧ w4 ≤ 4 → 4 - w4 < (n38 : Int) → (ρ5 = etB (etA σ l 8) l (w4)) → K 38 [some (vR 2 0), some (vI l), some (vI w4)] [] ρ5 := by
          intro n38
          induction n38 with
          | zero => intro w4 ρ5 f_w4  hm  m0_38; omega
          | succ n38 ih38 =>
            intro w4 ρ5 f_w4  hm38  m0_38
            refine r_iload_n hC dX5_endTies_38 rfl ?_
            refine r_iconst hC dX5_endTies_39 rfl ?_
            refine r_icmp_ge (tgt := 76) hC dX5_endTies_40 rfl (fun h6 => ?_) (fun h6 => ?_)
            · refine y_vret hK rfl dX5_endTies_76 ?_
              have hm : etM σ l = ρ5 := by rw [m0_38, show w4 = (4 : Int) from by omega]; rfl
              rw [hm] at k
              exact k
            · have e13 : ρ5 13 w4 0 = (etA σ l 8) 13 w4 0 := by rw [m0_38]; exact etB_up (by omega)
              refine r_iload_n hC dX5_endTies_43 rfl ?_
              refine r_iload_n hC dX5_endTies_44 rfl ?_
              refine r_icmp_eq (tgt := 61) hC dX5_endTies_45 rfl (fun h7 => ?_) (fun h7 => ?_)
              · refine r_aload_n hC dX5_endTies_61 rfl ?_
                refine z_getR hM dX5_endTies_62 fl_RX5_19 rfl rfl (vld_of (n := 1) rfl (by omega) (by omega)) ?_
                refine r_iload_n hC dX5_endTies_65 rfl ?_
                refine z_aald hM dX5_endTies_66 rfl (by decide) (by omega) (by omega) (vld_of (n := 4) rfl (by omega) (by omega)) ?_
                refine z_inv0 hM dX5_endTies_67 vl_RX5_340 rfl rfl rfl (Nat.le_of_ble_eq_true rfl) (Nat.le_of_ble_eq_true rfl) ?_
                refine x_lend (by omega) ?_
                refine r_iincE hC ((w4 + 1)) dX5_endTies_70 rfl rfl (by omega) (by unfold inR; omega) ?_
                refine r_goto (tgt := 38) hC dX5_endTies_73 rfl ?_
                exact ih38 ((w4 + 1)) (mu ρ5 13 w4 0 (-1)) (by omega)  (by omega)  (by rw [m0_38]; exact etB_yes (by omega) (by omega))
              · refine r_aload_n hC dX5_endTies_48 rfl ?_
                refine z_getR hM dX5_endTies_49 fl_RX5_19 rfl rfl (vld_of (n := 1) rfl (by omega) (by omega)) ?_
                refine r_iload_n hC dX5_endTies_52 rfl ?_
                refine z_aald hM dX5_endTies_53 rfl (by decide) (by omega) (by omega) (vld_of (n := 4) rfl (by omega) (by omega)) ?_
                refine z_getI (jz := 0) hM dX5_endTies_54 fl_RX5_215 rfl rfl rfl (fun v8 h_v8 o_v8 t_v8 => ?_)
                have w_v8 := ((t_v8 (Or.inl (by simp [Tb]))).trans (rfl)).symm
                subst w_v8
                refine r_iload_n hC dX5_endTies_57 rfl ?_
                refine r_icmp_ne (tgt := 70) hC dX5_endTies_58 rfl (fun h9 => ?_) (fun h9 => ?_)
                · refine r_iincE hC ((w4 + 1)) dX5_endTies_70 rfl rfl (by omega) (by unfold inR; omega) ?_
                  refine r_goto (tgt := 38) hC dX5_endTies_73 rfl ?_
                  exact ih38 ((w4 + 1)) ρ5 (by omega)  (by omega)  (by rw [m0_38]; exact (etB_no (by omega)).symm)
                · refine r_aload_n hC dX5_endTies_61 rfl ?_
                  refine z_getR hM dX5_endTies_62 fl_RX5_19 rfl rfl (vld_of (n := 1) rfl (by omega) (by omega)) ?_
                  refine r_iload_n hC dX5_endTies_65 rfl ?_
                  refine z_aald hM dX5_endTies_66 rfl (by decide) (by omega) (by omega) (vld_of (n := 4) rfl (by omega) (by omega)) ?_
                  refine z_inv0 hM dX5_endTies_67 vl_RX5_340 rfl rfl rfl (Nat.le_of_ble_eq_true rfl) (Nat.le_of_ble_eq_true rfl) ?_
                  refine x_lend (by omega) ?_
                  refine r_iincE hC ((w4 + 1)) dX5_endTies_70 rfl rfl (by omega) (by unfold inR; omega) ?_
                  refine r_goto (tgt := 38) hC dX5_endTies_73 rfl ?_
                  exact ih38 ((w4 + 1)) (mu ρ5 13 w4 0 (-1)) (by omega)  (by omega)  (by rw [m0_38]; exact etB_yes (by omega) (by omega))
        exact L38 6 (0) ρ2 (by omega)  (by omega)  (by rw [etB_0, m0_2, show w1 = (8 : Int) from by omega])
      · have e12 : ρ2 12 w1 0 = σ 12 w1 0 := by rw [m0_2]; exact etA_up (by omega)
        refine r_aload_n hC dX5_endTies_8 rfl ?_
        refine z_getR hM dX5_endTies_9 fl_RX5_32 rfl rfl (vld_of (n := 1) rfl (by omega) (by omega)) ?_
        refine r_iload_n hC dX5_endTies_12 rfl ?_
        refine z_aald hM dX5_endTies_13 rfl (by decide) (by omega) (by omega) (vld_of (n := 8) rfl (by omega) (by omega)) ?_
        refine z_getI (jz := 0) hM dX5_endTies_14 fl_RX5_321 rfl rfl rfl (fun v10 h_v10 o_v10 t_v10 => ?_)
        have w_v10 := ((t_v10 (Or.inl (by simp [Tb]))).trans (rfl)).symm
        subst w_v10
        refine r_iload_n hC dX5_endTies_17 rfl ?_
        refine r_icmp_ne (tgt := 30) hC dX5_endTies_18 rfl (fun h11 => ?_) (fun h11 => ?_)
        · refine r_iincE hC ((w1 + 1)) dX5_endTies_30 rfl rfl (by omega) (by unfold inR; omega) ?_
          refine r_goto (tgt := 2) hC dX5_endTies_33 rfl ?_
          exact ih2 ((w1 + 1)) ρ2 (by omega)  (by omega)  (by rw [m0_2]; exact (etA_no (by omega)).symm)
        · refine r_aload_n hC dX5_endTies_21 rfl ?_
          refine z_getR hM dX5_endTies_22 fl_RX5_32 rfl rfl (vld_of (n := 1) rfl (by omega) (by omega)) ?_
          refine r_iload_n hC dX5_endTies_25 rfl ?_
          refine z_aald hM dX5_endTies_26 rfl (by decide) (by omega) (by omega) (vld_of (n := 8) rfl (by omega) (by omega)) ?_
          refine z_inv0 hM dX5_endTies_27 vl_RX5_344 rfl rfl rfl (Nat.le_of_ble_eq_true rfl) (Nat.le_of_ble_eq_true rfl) ?_
          refine x_wend (by omega) ?_
          refine r_iincE hC ((w1 + 1)) dX5_endTies_30 rfl rfl (by omega) (by unfold inR; omega) ?_
          refine r_goto (tgt := 2) hC dX5_endTies_33 rfl ?_
          exact ih2 ((w1 + 1)) (mu ρ2 12 w1 0 (-1)) (by omega)  (by omega)  (by rw [m0_2]; exact etA_yes (by omega) (by omega))
  exact L2 10 (0) σ (by omega)  (by omega)  (etA_0.symm)
theorem bgM_eq {V : Mm} {l o b z y : Int} : bgM V l o b z y = (su (mu (mu (mu (mu (mu (mu (mu (mu (mu (mu (mu V 7 l 1 1) 7 l 2 o) 7 l 3 b) 7 l 4 z) 7 l 5 y) 7 l 6 0) 7 l 10 (-1)) 7 l 12 0) 7 l 13 0) 7 l 14 0) 7 l 15 0) 11 l (zrR ((mu (mu (mu (mu (mu (mu (mu (mu (mu (mu (mu V 7 l 1 1) 7 l 2 o) 7 l 3 b) 7 l 4 z) 7 l 5 y) 7 l 6 0) 7 l 10 (-1)) 7 l 12 0) 7 l 13 0) 7 l 14 0) 7 l 15 0) 11 l))) := by
  funext c x t
  by_cases hx : l = x
  · subst hx
    unfold bgM
    rw [if_pos rfl]
    by_cases c7 : c = 7
    · subst c7
      rw [if_pos rfl]
      by_cases t1 : t = 1
      · subst t1
        rw [su_ne (by omega), mu_ne (by omega), mu_ne (by omega), mu_ne (by omega), mu_ne (by omega), mu_ne (by omega), mu_ne (by omega), mu_ne (by omega), mu_ne (by omega), mu_ne (by omega), mu_ne (by omega), mu_self]
        first | rfl | (simp [bgR])
      by_cases t2 : t = 2
      · subst t2
        rw [su_ne (by omega), mu_ne (by omega), mu_ne (by omega), mu_ne (by omega), mu_ne (by omega), mu_ne (by omega), mu_ne (by omega), mu_ne (by omega), mu_ne (by omega), mu_ne (by omega), mu_self]
        first | rfl | (simp [bgR])
      by_cases t3 : t = 3
      · subst t3
        rw [su_ne (by omega), mu_ne (by omega), mu_ne (by omega), mu_ne (by omega), mu_ne (by omega), mu_ne (by omega), mu_ne (by omega), mu_ne (by omega), mu_ne (by omega), mu_self]
        first | rfl | (simp [bgR])
      by_cases t4 : t = 4
      · subst t4
        rw [su_ne (by omega), mu_ne (by omega), mu_ne (by omega), mu_ne (by omega), mu_ne (by omega), mu_ne (by omega), mu_ne (by omega), mu_ne (by omega), mu_self]
        first | rfl | (simp [bgR])
      by_cases t5 : t = 5
      · subst t5
        rw [su_ne (by omega), mu_ne (by omega), mu_ne (by omega), mu_ne (by omega), mu_ne (by omega), mu_ne (by omega), mu_ne (by omega), mu_self]
        first | rfl | (simp [bgR])
      by_cases t6 : t = 6
      · subst t6
        rw [su_ne (by omega), mu_ne (by omega), mu_ne (by omega), mu_ne (by omega), mu_ne (by omega), mu_ne (by omega), mu_self]
        first | rfl | (simp [bgR])
      by_cases t10 : t = 10
      · subst t10
        rw [su_ne (by omega), mu_ne (by omega), mu_ne (by omega), mu_ne (by omega), mu_ne (by omega), mu_self]
        first | rfl | (simp [bgR])
      by_cases t12 : t = 12
      · subst t12
        rw [su_ne (by omega), mu_ne (by omega), mu_ne (by omega), mu_ne (by omega), mu_self]
        first | rfl | (simp [bgR])
      by_cases t13 : t = 13
      · subst t13
        rw [su_ne (by omega), mu_ne (by omega), mu_ne (by omega), mu_self]
        first | rfl | (simp [bgR])
      by_cases t14 : t = 14
      · subst t14
        rw [su_ne (by omega), mu_ne (by omega), mu_self]
        first | rfl | (simp [bgR])
      by_cases t15 : t = 15
      · subst t15
        rw [su_ne (by omega), mu_self]
        first | rfl | (simp [bgR])
      rw [su_ne (by omega), mu_ne (by omega), mu_ne (by omega), mu_ne (by omega), mu_ne (by omega), mu_ne (by omega), mu_ne (by omega), mu_ne (by omega), mu_ne (by omega), mu_ne (by omega), mu_ne (by omega), mu_ne (by omega)]
      unfold bgR
      rw [if_neg t1, if_neg t2, if_neg t3, if_neg t4, if_neg t5, if_neg t10, if_neg (by omega)]
    rw [if_neg c7]
    by_cases c11 : c = 11
    · subst c11
      rw [if_pos rfl, su_at]
      rw [show (mu (mu (mu (mu (mu (mu (mu (mu (mu (mu (mu V 7 l 1 1) 7 l 2 o) 7 l 3 b) 7 l 4 z) 7 l 5 y) 7 l 6 0) 7 l 10 (-1)) 7 l 12 0) 7 l 13 0) 7 l 14 0) 7 l 15 0) 11 l = V 11 l from funext fun y => by rw [mu_ne (by omega), mu_ne (by omega), mu_ne (by omega), mu_ne (by omega), mu_ne (by omega), mu_ne (by omega), mu_ne (by omega), mu_ne (by omega), mu_ne (by omega), mu_ne (by omega), mu_ne (by omega)]]
    rw [if_neg c11]
    rw [su_ne (by omega), mu_ne (by omega), mu_ne (by omega), mu_ne (by omega), mu_ne (by omega), mu_ne (by omega), mu_ne (by omega), mu_ne (by omega), mu_ne (by omega), mu_ne (by omega), mu_ne (by omega), mu_ne (by omega)]
  · unfold bgM
    rw [if_neg (fun q => hx q.symm)]
    rw [su_ne (by omega), mu_ne (by omega), mu_ne (by omega), mu_ne (by omega), mu_ne (by omega), mu_ne (by omega), mu_ne (by omega), mu_ne (by omega), mu_ne (by omega), mu_ne (by omega), mu_ne (by omega), mu_ne (by omega)]
theorem x_begin_L {eb ec : Bool} {d : Nat} {P : Option Vl → Mm → Prop} {σ : Mm} {l o b z y : Int} (b_l : 0 ≤ l ∧ l ≤ 6) (b_o : 0 ≤ o ∧ o ≤ 9)  (k : P none (bgM σ l o b z y)) : WT (true, eb, ec) (d + 2) 26 [vR 7 l, vI o, vI b, vI z, vI y] σ P := by
  refine WT_in fun K hK => ?_
  have hK : StpY (true, eb, ec) cX2_begin RX2 (none) (WT (true, eb, ec) (d + 1)) P K := hK
  have hM := hK.1
  have hC := hK.1.1
  show K 0 [some (vR 7 l), some (vI o), some (vI b), some (vI z), some (vI y)] [] σ
  refine r_rngz hC (fun g0 => ?_)
  have r_b : -2147483648 ≤ b ∧ b ≤ 2147483647 := inR_le (g0 (vI b) (by simp))
  have r_z : -2147483648 ≤ z ∧ z ≤ 2147483647 := inR_le (g0 (vI z) (by simp))
  have r_y : -2147483648 ≤ y ∧ y ≤ 2147483647 := inR_le (g0 (vI y) (by simp))
  refine r_aload_n hC dX2_begin_0 rfl ?_
  refine r_iconst hC dX2_begin_1 rfl ?_
  refine z_putZT (jz := 1) hM dX2_begin_2 fw_RX2_32 rfl rfl rfl (by omega) ⟨Or.inr (by simp [DL]), Or.inr (by simp [DF])⟩ (by first | trivial | (simp only [Okv]; omega) | (simp [Okv]; try omega)) ?_
  refine r_aload_n hC dX2_begin_5 rfl ?_
  refine r_iload_n hC dX2_begin_6 rfl ?_
  refine z_putIT (jz := 2) hM dX2_begin_7 fw_RX2_36 rfl rfl rfl ⟨Or.inr (by simp [DL]), Or.inr (by simp [DF])⟩ (by first | trivial | (simp only [Okv]; omega) | (simp [Okv]; try omega)) ?_
  refine r_aload_n hC dX2_begin_10 rfl ?_
  refine r_iload_n hC dX2_begin_11 rfl ?_
  refine z_putIT (jz := 3) hM dX2_begin_12 fw_RX2_39 rfl rfl rfl ⟨Or.inl rfl, Or.inr (by simp [DF])⟩ (by first | trivial | (simp only [Okv]; omega) | (simp [Okv]; try omega)) ?_
  refine r_aload_n hC dX2_begin_15 rfl ?_
  refine r_iload_n hC dX2_begin_16 rfl ?_
  refine z_putIT (jz := 4) hM dX2_begin_17 fw_RX2_42 rfl rfl rfl ⟨Or.inl rfl, Or.inr (by simp [DF])⟩ (by first | trivial | (simp only [Okv]; omega) | (simp [Okv]; try omega)) ?_
  refine r_aload_n hC dX2_begin_20 rfl ?_
  refine r_iload hC dX2_begin_21 rfl ?_
  refine z_putIT (jz := 5) hM dX2_begin_23 fw_RX2_45 rfl rfl rfl ⟨Or.inr (by simp [DL]), Or.inr (by simp [DF])⟩ (by first | trivial | (simp only [Okv]; omega) | (simp [Okv]; try omega)) ?_
  refine r_aload_n hC dX2_begin_26 rfl ?_
  refine r_iconst hC dX2_begin_27 rfl ?_
  refine z_putIT (jz := 6) hM dX2_begin_28 fw_RX2_48 rfl rfl rfl ⟨Or.inl rfl, Or.inr (by simp [DF])⟩ (by first | trivial | (simp only [Okv]; omega) | (simp [Okv]; try omega)) ?_
  refine r_aload_n hC dX2_begin_31 rfl ?_
  refine r_iconst hC dX2_begin_32 rfl ?_
  refine z_putIT (jz := 10) hM dX2_begin_33 fw_RX2_51 rfl rfl rfl ⟨Or.inr (by simp [DL]), Or.inr (by simp [DF])⟩ (by first | trivial | (simp only [Okv]; omega) | (simp [Okv]; try omega)) ?_
  refine r_aload_n hC dX2_begin_36 rfl ?_
  refine r_iconst hC dX2_begin_37 rfl ?_
  refine z_putIU (jz := 11) hM dX2_begin_38 fw_RX2_54 rfl rfl rfl (by simp [Un, Tb, DL, DF, DR, DX]) (by simp [Okv]) ?_
  refine r_aload_n hC dX2_begin_41 rfl ?_
  refine r_iconst hC dX2_begin_42 rfl ?_
  refine z_putIT (jz := 12) hM dX2_begin_43 fw_RX2_57 rfl rfl rfl ⟨Or.inr (by simp [DL]), Or.inr (by simp [DF])⟩ (by first | trivial | (simp only [Okv]; omega) | (simp [Okv]; try omega)) ?_
  refine r_aload_n hC dX2_begin_46 rfl ?_
  refine r_iconst hC dX2_begin_47 rfl ?_
  refine z_putIT (jz := 13) hM dX2_begin_48 fw_RX2_60 rfl rfl rfl ⟨Or.inr (by simp [DL]), Or.inr (by simp [DF])⟩ (by first | trivial | (simp only [Okv]; omega) | (simp [Okv]; try omega)) ?_
  refine r_aload_n hC dX2_begin_51 rfl ?_
  refine r_iconst hC dX2_begin_52 rfl ?_
  refine z_putIT (jz := 14) hM dX2_begin_53 fw_RX2_63 rfl rfl rfl ⟨Or.inr (by simp [DL]), Or.inr (by simp [DF])⟩ (by first | trivial | (simp only [Okv]; omega) | (simp [Okv]; try omega)) ?_
  refine r_aload_n hC dX2_begin_56 rfl ?_
  refine r_iconst hC dX2_begin_57 rfl ?_
  refine z_putIT (jz := 15) hM dX2_begin_58 fw_RX2_66 rfl rfl rfl ⟨Or.inr (by simp [DL]), Or.inr (by simp [DF])⟩ (by first | trivial | (simp only [Okv]; omega) | (simp [Okv]; try omega)) ?_
  refine r_aload_n hC dX2_begin_61 rfl ?_
  refine z_getR hM dX2_begin_62 fl_RX2_28 rfl rfl (vld_of (n := 8) rfl (by omega) (by omega)) ?_
  refine z_inv0 hM dX2_begin_65 vl_RX2_69 rfl rfl rfl (Nat.le_of_ble_eq_true rfl) (Nat.le_of_ble_eq_true rfl) ?_
  refine x_clear (by omega) ?_
  refine y_vret hK rfl dX2_begin_68 ?_
  have hm : bgM σ l o b z y = (su (mu (mu (mu (mu (mu (mu (mu (mu (mu (mu (mu σ 7 l 1 1) 7 l 2 o) 7 l 3 b) 7 l 4 z) 7 l 5 y) 7 l 6 0) 7 l 10 (-1)) 7 l 12 0) 7 l 13 0) 7 l 14 0) 7 l 15 0) 11 l (zrR ((mu (mu (mu (mu (mu (mu (mu (mu (mu (mu (mu σ 7 l 1 1) 7 l 2 o) 7 l 3 b) 7 l 4 z) 7 l 5 y) 7 l 6 0) 7 l 10 (-1)) 7 l 12 0) 7 l 13 0) 7 l 14 0) 7 l 15 0) 11 l))) := bgM_eq
  rw [hm] at k
  exact k
theorem x_openLanes {e : Ev} {d : Nat} {P : Option Vl → Mm → Prop} {σ : Mm}   (k : P (some (vI (cntO σ))) σ) : WT e (d + 1) 117 [vR 2 0] σ P := by
  refine WT_in fun K hK => ?_
  have hK : StpY e cX5_openLanes RX5 (some .int) (WT e (d + 0)) P K := hK
  have hM := hK.1
  have hC := hK.1.1
  show K 0 [some (vR 2 0), none, none] [] σ
  refine r_iconst hC dX5_openLanes_0 rfl ?_
  refine r_istore_n hC dX5_openLanes_1 rfl ?_
  refine r_iconst hC dX5_openLanes_2 rfl ?_
  refine r_istore_n hC dX5_openLanes_3 rfl ?_
  refine r_iload_n hC dX5_openLanes_4 rfl ?_
  refine r_iconst hC dX5_openLanes_5 rfl ?_
  refine r_icmp_ge (tgt := 35) hC dX5_openLanes_6 rfl (fun h1 => by omega) (fun h1 => ?_)
  refine r_iload_n hC dX5_openLanes_9 rfl ?_
  refine r_aload_n hC dX5_openLanes_10 rfl ?_
  refine z_getR hM dX5_openLanes_11 fl_RX5_13 rfl rfl (vld_of (n := 1) rfl (by omega) (by omega)) ?_
  refine r_iload_n hC dX5_openLanes_14 rfl ?_
  refine z_aald hM dX5_openLanes_15 rfl (by decide) (by omega) (by omega) (vld_of (n := 7) rfl (by omega) (by omega)) ?_
  refine z_getI (jz := 1) hM dX5_openLanes_16 fl_RX5_94 rfl rfl rfl (fun v2 h_v2 o_v2 t_v2 => ?_)
  have w_v2 := ((t_v2 (Or.inl (by simp [Tb]))).trans (rfl)).symm
  subst w_v2
  have q_v2 : 0 ≤ (σ 7 0 1) ∧ (σ 7 0 1) ≤ 1 := by have := o_v2.2.1 rfl; omega
  refine r_if_eq (tgt := 26) hC dX5_openLanes_19 rfl (fun h3 => ?_) (fun h3 => ?_)
  · refine r_iconst hC dX5_openLanes_26 rfl ?_
    refine r_iaddE hC (0) dX5_openLanes_27 (by omega) (by unfold inR; omega) ?_
    refine r_istore_n hC dX5_openLanes_28 rfl ?_
    refine r_iincE hC (1) dX5_openLanes_29 rfl rfl (by omega) (by unfold inR; omega) ?_
    refine r_goto (tgt := 4) hC dX5_openLanes_32 rfl ?_
    refine r_iload_n hC dX5_openLanes_4 rfl ?_
    refine r_iconst hC dX5_openLanes_5 rfl ?_
    refine r_icmp_ge (tgt := 35) hC dX5_openLanes_6 rfl (fun h4 => by omega) (fun h4 => ?_)
    refine r_iload_n hC dX5_openLanes_9 rfl ?_
    refine r_aload_n hC dX5_openLanes_10 rfl ?_
    refine z_getR hM dX5_openLanes_11 fl_RX5_13 rfl rfl (vld_of (n := 1) rfl (by omega) (by omega)) ?_
    refine r_iload_n hC dX5_openLanes_14 rfl ?_
    refine z_aald hM dX5_openLanes_15 rfl (by decide) (by omega) (by omega) (vld_of (n := 7) rfl (by omega) (by omega)) ?_
    refine z_getI (jz := 1) hM dX5_openLanes_16 fl_RX5_94 rfl rfl rfl (fun v5 h_v5 o_v5 t_v5 => ?_)
    have w_v5 := ((t_v5 (Or.inl (by simp [Tb]))).trans (rfl)).symm
    subst w_v5
    have q_v5 : 0 ≤ (σ 7 1 1) ∧ (σ 7 1 1) ≤ 1 := by have := o_v5.2.1 rfl; omega
    refine r_if_eq (tgt := 26) hC dX5_openLanes_19 rfl (fun h6 => ?_) (fun h6 => ?_)
    · refine r_iconst hC dX5_openLanes_26 rfl ?_
      refine r_iaddE hC (0) dX5_openLanes_27 (by omega) (by unfold inR; omega) ?_
      refine r_istore_n hC dX5_openLanes_28 rfl ?_
      refine r_iincE hC (2) dX5_openLanes_29 rfl rfl (by omega) (by unfold inR; omega) ?_
      refine r_goto (tgt := 4) hC dX5_openLanes_32 rfl ?_
      refine r_iload_n hC dX5_openLanes_4 rfl ?_
      refine r_iconst hC dX5_openLanes_5 rfl ?_
      refine r_icmp_ge (tgt := 35) hC dX5_openLanes_6 rfl (fun h7 => by omega) (fun h7 => ?_)
      refine r_iload_n hC dX5_openLanes_9 rfl ?_
      refine r_aload_n hC dX5_openLanes_10 rfl ?_
      refine z_getR hM dX5_openLanes_11 fl_RX5_13 rfl rfl (vld_of (n := 1) rfl (by omega) (by omega)) ?_
      refine r_iload_n hC dX5_openLanes_14 rfl ?_
      refine z_aald hM dX5_openLanes_15 rfl (by decide) (by omega) (by omega) (vld_of (n := 7) rfl (by omega) (by omega)) ?_
      refine z_getI (jz := 1) hM dX5_openLanes_16 fl_RX5_94 rfl rfl rfl (fun v8 h_v8 o_v8 t_v8 => ?_)
      have w_v8 := ((t_v8 (Or.inl (by simp [Tb]))).trans (rfl)).symm
      subst w_v8
      have q_v8 : 0 ≤ (σ 7 2 1) ∧ (σ 7 2 1) ≤ 1 := by have := o_v8.2.1 rfl; omega
      refine r_if_eq (tgt := 26) hC dX5_openLanes_19 rfl (fun h9 => ?_) (fun h9 => ?_)
      · refine r_iconst hC dX5_openLanes_26 rfl ?_
        refine r_iaddE hC (0) dX5_openLanes_27 (by omega) (by unfold inR; omega) ?_
        refine r_istore_n hC dX5_openLanes_28 rfl ?_
        refine r_iincE hC (3) dX5_openLanes_29 rfl rfl (by omega) (by unfold inR; omega) ?_
        refine r_goto (tgt := 4) hC dX5_openLanes_32 rfl ?_
        refine r_iload_n hC dX5_openLanes_4 rfl ?_
        refine r_iconst hC dX5_openLanes_5 rfl ?_
        refine r_icmp_ge (tgt := 35) hC dX5_openLanes_6 rfl (fun h10 => by omega) (fun h10 => ?_)
        refine r_iload_n hC dX5_openLanes_9 rfl ?_
        refine r_aload_n hC dX5_openLanes_10 rfl ?_
        refine z_getR hM dX5_openLanes_11 fl_RX5_13 rfl rfl (vld_of (n := 1) rfl (by omega) (by omega)) ?_
        refine r_iload_n hC dX5_openLanes_14 rfl ?_
        refine z_aald hM dX5_openLanes_15 rfl (by decide) (by omega) (by omega) (vld_of (n := 7) rfl (by omega) (by omega)) ?_
        refine z_getI (jz := 1) hM dX5_openLanes_16 fl_RX5_94 rfl rfl rfl (fun v11 h_v11 o_v11 t_v11 => ?_)
        have w_v11 := ((t_v11 (Or.inl (by simp [Tb]))).trans (rfl)).symm
        subst w_v11
        have q_v11 : 0 ≤ (σ 7 3 1) ∧ (σ 7 3 1) ≤ 1 := by have := o_v11.2.1 rfl; omega
        refine r_if_eq (tgt := 26) hC dX5_openLanes_19 rfl (fun h12 => ?_) (fun h12 => ?_)
        · refine r_iconst hC dX5_openLanes_26 rfl ?_
          refine r_iaddE hC (0) dX5_openLanes_27 (by omega) (by unfold inR; omega) ?_
          refine r_istore_n hC dX5_openLanes_28 rfl ?_
          refine r_iincE hC (4) dX5_openLanes_29 rfl rfl (by omega) (by unfold inR; omega) ?_
          refine r_goto (tgt := 4) hC dX5_openLanes_32 rfl ?_
          refine r_iload_n hC dX5_openLanes_4 rfl ?_
          refine r_iconst hC dX5_openLanes_5 rfl ?_
          refine r_icmp_ge (tgt := 35) hC dX5_openLanes_6 rfl (fun h13 => ?_) (fun h13 => by omega)
          refine r_iload_n hC dX5_openLanes_35 rfl ?_
          refine y_iret hK rfl dX5_openLanes_36 ?_
          have e : cntO σ = 0 := by unfold cntO; omega
          rw [e] at k
          exact k
        · refine r_iconst hC dX5_openLanes_22 rfl ?_
          refine r_goto (tgt := 27) hC dX5_openLanes_23 rfl ?_
          refine r_iaddE hC (1) dX5_openLanes_27 (by omega) (by unfold inR; omega) ?_
          refine r_istore_n hC dX5_openLanes_28 rfl ?_
          refine r_iincE hC (4) dX5_openLanes_29 rfl rfl (by omega) (by unfold inR; omega) ?_
          refine r_goto (tgt := 4) hC dX5_openLanes_32 rfl ?_
          refine r_iload_n hC dX5_openLanes_4 rfl ?_
          refine r_iconst hC dX5_openLanes_5 rfl ?_
          refine r_icmp_ge (tgt := 35) hC dX5_openLanes_6 rfl (fun h14 => ?_) (fun h14 => by omega)
          refine r_iload_n hC dX5_openLanes_35 rfl ?_
          refine y_iret hK rfl dX5_openLanes_36 ?_
          have e : cntO σ = 1 := by unfold cntO; omega
          rw [e] at k
          exact k
      · refine r_iconst hC dX5_openLanes_22 rfl ?_
        refine r_goto (tgt := 27) hC dX5_openLanes_23 rfl ?_
        refine r_iaddE hC (1) dX5_openLanes_27 (by omega) (by unfold inR; omega) ?_
        refine r_istore_n hC dX5_openLanes_28 rfl ?_
        refine r_iincE hC (3) dX5_openLanes_29 rfl rfl (by omega) (by unfold inR; omega) ?_
        refine r_goto (tgt := 4) hC dX5_openLanes_32 rfl ?_
        refine r_iload_n hC dX5_openLanes_4 rfl ?_
        refine r_iconst hC dX5_openLanes_5 rfl ?_
        refine r_icmp_ge (tgt := 35) hC dX5_openLanes_6 rfl (fun h15 => by omega) (fun h15 => ?_)
        refine r_iload_n hC dX5_openLanes_9 rfl ?_
        refine r_aload_n hC dX5_openLanes_10 rfl ?_
        refine z_getR hM dX5_openLanes_11 fl_RX5_13 rfl rfl (vld_of (n := 1) rfl (by omega) (by omega)) ?_
        refine r_iload_n hC dX5_openLanes_14 rfl ?_
        refine z_aald hM dX5_openLanes_15 rfl (by decide) (by omega) (by omega) (vld_of (n := 7) rfl (by omega) (by omega)) ?_
        refine z_getI (jz := 1) hM dX5_openLanes_16 fl_RX5_94 rfl rfl rfl (fun v16 h_v16 o_v16 t_v16 => ?_)
        have w_v16 := ((t_v16 (Or.inl (by simp [Tb]))).trans (rfl)).symm
        subst w_v16
        have q_v16 : 0 ≤ (σ 7 3 1) ∧ (σ 7 3 1) ≤ 1 := by have := o_v16.2.1 rfl; omega
        refine r_if_eq (tgt := 26) hC dX5_openLanes_19 rfl (fun h17 => ?_) (fun h17 => ?_)
        · refine r_iconst hC dX5_openLanes_26 rfl ?_
          refine r_iaddE hC (1) dX5_openLanes_27 (by omega) (by unfold inR; omega) ?_
          refine r_istore_n hC dX5_openLanes_28 rfl ?_
          refine r_iincE hC (4) dX5_openLanes_29 rfl rfl (by omega) (by unfold inR; omega) ?_
          refine r_goto (tgt := 4) hC dX5_openLanes_32 rfl ?_
          refine r_iload_n hC dX5_openLanes_4 rfl ?_
          refine r_iconst hC dX5_openLanes_5 rfl ?_
          refine r_icmp_ge (tgt := 35) hC dX5_openLanes_6 rfl (fun h18 => ?_) (fun h18 => by omega)
          refine r_iload_n hC dX5_openLanes_35 rfl ?_
          refine y_iret hK rfl dX5_openLanes_36 ?_
          have e : cntO σ = 1 := by unfold cntO; omega
          rw [e] at k
          exact k
        · refine r_iconst hC dX5_openLanes_22 rfl ?_
          refine r_goto (tgt := 27) hC dX5_openLanes_23 rfl ?_
          refine r_iaddE hC (2) dX5_openLanes_27 (by omega) (by unfold inR; omega) ?_
          refine r_istore_n hC dX5_openLanes_28 rfl ?_
          refine r_iincE hC (4) dX5_openLanes_29 rfl rfl (by omega) (by unfold inR; omega) ?_
          refine r_goto (tgt := 4) hC dX5_openLanes_32 rfl ?_
          refine r_iload_n hC dX5_openLanes_4 rfl ?_
          refine r_iconst hC dX5_openLanes_5 rfl ?_
          refine r_icmp_ge (tgt := 35) hC dX5_openLanes_6 rfl (fun h19 => ?_) (fun h19 => by omega)
          refine r_iload_n hC dX5_openLanes_35 rfl ?_
          refine y_iret hK rfl dX5_openLanes_36 ?_
          have e : cntO σ = 2 := by unfold cntO; omega
          rw [e] at k
          exact k
    · refine r_iconst hC dX5_openLanes_22 rfl ?_
      refine r_goto (tgt := 27) hC dX5_openLanes_23 rfl ?_
      refine r_iaddE hC (1) dX5_openLanes_27 (by omega) (by unfold inR; omega) ?_
      refine r_istore_n hC dX5_openLanes_28 rfl ?_
      refine r_iincE hC (2) dX5_openLanes_29 rfl rfl (by omega) (by unfold inR; omega) ?_
      refine r_goto (tgt := 4) hC dX5_openLanes_32 rfl ?_
      refine r_iload_n hC dX5_openLanes_4 rfl ?_
      refine r_iconst hC dX5_openLanes_5 rfl ?_
      refine r_icmp_ge (tgt := 35) hC dX5_openLanes_6 rfl (fun h20 => by omega) (fun h20 => ?_)
      refine r_iload_n hC dX5_openLanes_9 rfl ?_
      refine r_aload_n hC dX5_openLanes_10 rfl ?_
      refine z_getR hM dX5_openLanes_11 fl_RX5_13 rfl rfl (vld_of (n := 1) rfl (by omega) (by omega)) ?_
      refine r_iload_n hC dX5_openLanes_14 rfl ?_
      refine z_aald hM dX5_openLanes_15 rfl (by decide) (by omega) (by omega) (vld_of (n := 7) rfl (by omega) (by omega)) ?_
      refine z_getI (jz := 1) hM dX5_openLanes_16 fl_RX5_94 rfl rfl rfl (fun v21 h_v21 o_v21 t_v21 => ?_)
      have w_v21 := ((t_v21 (Or.inl (by simp [Tb]))).trans (rfl)).symm
      subst w_v21
      have q_v21 : 0 ≤ (σ 7 2 1) ∧ (σ 7 2 1) ≤ 1 := by have := o_v21.2.1 rfl; omega
      refine r_if_eq (tgt := 26) hC dX5_openLanes_19 rfl (fun h22 => ?_) (fun h22 => ?_)
      · refine r_iconst hC dX5_openLanes_26 rfl ?_
        refine r_iaddE hC (1) dX5_openLanes_27 (by omega) (by unfold inR; omega) ?_
        refine r_istore_n hC dX5_openLanes_28 rfl ?_
        refine r_iincE hC (3) dX5_openLanes_29 rfl rfl (by omega) (by unfold inR; omega) ?_
        refine r_goto (tgt := 4) hC dX5_openLanes_32 rfl ?_
        refine r_iload_n hC dX5_openLanes_4 rfl ?_
        refine r_iconst hC dX5_openLanes_5 rfl ?_
        refine r_icmp_ge (tgt := 35) hC dX5_openLanes_6 rfl (fun h23 => by omega) (fun h23 => ?_)
        refine r_iload_n hC dX5_openLanes_9 rfl ?_
        refine r_aload_n hC dX5_openLanes_10 rfl ?_
        refine z_getR hM dX5_openLanes_11 fl_RX5_13 rfl rfl (vld_of (n := 1) rfl (by omega) (by omega)) ?_
        refine r_iload_n hC dX5_openLanes_14 rfl ?_
        refine z_aald hM dX5_openLanes_15 rfl (by decide) (by omega) (by omega) (vld_of (n := 7) rfl (by omega) (by omega)) ?_
        refine z_getI (jz := 1) hM dX5_openLanes_16 fl_RX5_94 rfl rfl rfl (fun v24 h_v24 o_v24 t_v24 => ?_)
        have w_v24 := ((t_v24 (Or.inl (by simp [Tb]))).trans (rfl)).symm
        subst w_v24
        have q_v24 : 0 ≤ (σ 7 3 1) ∧ (σ 7 3 1) ≤ 1 := by have := o_v24.2.1 rfl; omega
        refine r_if_eq (tgt := 26) hC dX5_openLanes_19 rfl (fun h25 => ?_) (fun h25 => ?_)
        · refine r_iconst hC dX5_openLanes_26 rfl ?_
          refine r_iaddE hC (1) dX5_openLanes_27 (by omega) (by unfold inR; omega) ?_
          refine r_istore_n hC dX5_openLanes_28 rfl ?_
          refine r_iincE hC (4) dX5_openLanes_29 rfl rfl (by omega) (by unfold inR; omega) ?_
          refine r_goto (tgt := 4) hC dX5_openLanes_32 rfl ?_
          refine r_iload_n hC dX5_openLanes_4 rfl ?_
          refine r_iconst hC dX5_openLanes_5 rfl ?_
          refine r_icmp_ge (tgt := 35) hC dX5_openLanes_6 rfl (fun h26 => ?_) (fun h26 => by omega)
          refine r_iload_n hC dX5_openLanes_35 rfl ?_
          refine y_iret hK rfl dX5_openLanes_36 ?_
          have e : cntO σ = 1 := by unfold cntO; omega
          rw [e] at k
          exact k
        · refine r_iconst hC dX5_openLanes_22 rfl ?_
          refine r_goto (tgt := 27) hC dX5_openLanes_23 rfl ?_
          refine r_iaddE hC (2) dX5_openLanes_27 (by omega) (by unfold inR; omega) ?_
          refine r_istore_n hC dX5_openLanes_28 rfl ?_
          refine r_iincE hC (4) dX5_openLanes_29 rfl rfl (by omega) (by unfold inR; omega) ?_
          refine r_goto (tgt := 4) hC dX5_openLanes_32 rfl ?_
          refine r_iload_n hC dX5_openLanes_4 rfl ?_
          refine r_iconst hC dX5_openLanes_5 rfl ?_
          refine r_icmp_ge (tgt := 35) hC dX5_openLanes_6 rfl (fun h27 => ?_) (fun h27 => by omega)
          refine r_iload_n hC dX5_openLanes_35 rfl ?_
          refine y_iret hK rfl dX5_openLanes_36 ?_
          have e : cntO σ = 2 := by unfold cntO; omega
          rw [e] at k
          exact k
      · refine r_iconst hC dX5_openLanes_22 rfl ?_
        refine r_goto (tgt := 27) hC dX5_openLanes_23 rfl ?_
        refine r_iaddE hC (2) dX5_openLanes_27 (by omega) (by unfold inR; omega) ?_
        refine r_istore_n hC dX5_openLanes_28 rfl ?_
        refine r_iincE hC (3) dX5_openLanes_29 rfl rfl (by omega) (by unfold inR; omega) ?_
        refine r_goto (tgt := 4) hC dX5_openLanes_32 rfl ?_
        refine r_iload_n hC dX5_openLanes_4 rfl ?_
        refine r_iconst hC dX5_openLanes_5 rfl ?_
        refine r_icmp_ge (tgt := 35) hC dX5_openLanes_6 rfl (fun h28 => by omega) (fun h28 => ?_)
        refine r_iload_n hC dX5_openLanes_9 rfl ?_
        refine r_aload_n hC dX5_openLanes_10 rfl ?_
        refine z_getR hM dX5_openLanes_11 fl_RX5_13 rfl rfl (vld_of (n := 1) rfl (by omega) (by omega)) ?_
        refine r_iload_n hC dX5_openLanes_14 rfl ?_
        refine z_aald hM dX5_openLanes_15 rfl (by decide) (by omega) (by omega) (vld_of (n := 7) rfl (by omega) (by omega)) ?_
        refine z_getI (jz := 1) hM dX5_openLanes_16 fl_RX5_94 rfl rfl rfl (fun v29 h_v29 o_v29 t_v29 => ?_)
        have w_v29 := ((t_v29 (Or.inl (by simp [Tb]))).trans (rfl)).symm
        subst w_v29
        have q_v29 : 0 ≤ (σ 7 3 1) ∧ (σ 7 3 1) ≤ 1 := by have := o_v29.2.1 rfl; omega
        refine r_if_eq (tgt := 26) hC dX5_openLanes_19 rfl (fun h30 => ?_) (fun h30 => ?_)
        · refine r_iconst hC dX5_openLanes_26 rfl ?_
          refine r_iaddE hC (2) dX5_openLanes_27 (by omega) (by unfold inR; omega) ?_
          refine r_istore_n hC dX5_openLanes_28 rfl ?_
          refine r_iincE hC (4) dX5_openLanes_29 rfl rfl (by omega) (by unfold inR; omega) ?_
          refine r_goto (tgt := 4) hC dX5_openLanes_32 rfl ?_
          refine r_iload_n hC dX5_openLanes_4 rfl ?_
          refine r_iconst hC dX5_openLanes_5 rfl ?_
          refine r_icmp_ge (tgt := 35) hC dX5_openLanes_6 rfl (fun h31 => ?_) (fun h31 => by omega)
          refine r_iload_n hC dX5_openLanes_35 rfl ?_
          refine y_iret hK rfl dX5_openLanes_36 ?_
          have e : cntO σ = 2 := by unfold cntO; omega
          rw [e] at k
          exact k
        · refine r_iconst hC dX5_openLanes_22 rfl ?_
          refine r_goto (tgt := 27) hC dX5_openLanes_23 rfl ?_
          refine r_iaddE hC (3) dX5_openLanes_27 (by omega) (by unfold inR; omega) ?_
          refine r_istore_n hC dX5_openLanes_28 rfl ?_
          refine r_iincE hC (4) dX5_openLanes_29 rfl rfl (by omega) (by unfold inR; omega) ?_
          refine r_goto (tgt := 4) hC dX5_openLanes_32 rfl ?_
          refine r_iload_n hC dX5_openLanes_4 rfl ?_
          refine r_iconst hC dX5_openLanes_5 rfl ?_
          refine r_icmp_ge (tgt := 35) hC dX5_openLanes_6 rfl (fun h32 => ?_) (fun h32 => by omega)
          refine r_iload_n hC dX5_openLanes_35 rfl ?_
          refine y_iret hK rfl dX5_openLanes_36 ?_
          have e : cntO σ = 3 := by unfold cntO; omega
          rw [e] at k
          exact k
  · refine r_iconst hC dX5_openLanes_22 rfl ?_
    refine r_goto (tgt := 27) hC dX5_openLanes_23 rfl ?_
    refine r_iaddE hC (1) dX5_openLanes_27 (by omega) (by unfold inR; omega) ?_
    refine r_istore_n hC dX5_openLanes_28 rfl ?_
    refine r_iincE hC (1) dX5_openLanes_29 rfl rfl (by omega) (by unfold inR; omega) ?_
    refine r_goto (tgt := 4) hC dX5_openLanes_32 rfl ?_
    refine r_iload_n hC dX5_openLanes_4 rfl ?_
    refine r_iconst hC dX5_openLanes_5 rfl ?_
    refine r_icmp_ge (tgt := 35) hC dX5_openLanes_6 rfl (fun h33 => by omega) (fun h33 => ?_)
    refine r_iload_n hC dX5_openLanes_9 rfl ?_
    refine r_aload_n hC dX5_openLanes_10 rfl ?_
    refine z_getR hM dX5_openLanes_11 fl_RX5_13 rfl rfl (vld_of (n := 1) rfl (by omega) (by omega)) ?_
    refine r_iload_n hC dX5_openLanes_14 rfl ?_
    refine z_aald hM dX5_openLanes_15 rfl (by decide) (by omega) (by omega) (vld_of (n := 7) rfl (by omega) (by omega)) ?_
    refine z_getI (jz := 1) hM dX5_openLanes_16 fl_RX5_94 rfl rfl rfl (fun v34 h_v34 o_v34 t_v34 => ?_)
    have w_v34 := ((t_v34 (Or.inl (by simp [Tb]))).trans (rfl)).symm
    subst w_v34
    have q_v34 : 0 ≤ (σ 7 1 1) ∧ (σ 7 1 1) ≤ 1 := by have := o_v34.2.1 rfl; omega
    refine r_if_eq (tgt := 26) hC dX5_openLanes_19 rfl (fun h35 => ?_) (fun h35 => ?_)
    · refine r_iconst hC dX5_openLanes_26 rfl ?_
      refine r_iaddE hC (1) dX5_openLanes_27 (by omega) (by unfold inR; omega) ?_
      refine r_istore_n hC dX5_openLanes_28 rfl ?_
      refine r_iincE hC (2) dX5_openLanes_29 rfl rfl (by omega) (by unfold inR; omega) ?_
      refine r_goto (tgt := 4) hC dX5_openLanes_32 rfl ?_
      refine r_iload_n hC dX5_openLanes_4 rfl ?_
      refine r_iconst hC dX5_openLanes_5 rfl ?_
      refine r_icmp_ge (tgt := 35) hC dX5_openLanes_6 rfl (fun h36 => by omega) (fun h36 => ?_)
      refine r_iload_n hC dX5_openLanes_9 rfl ?_
      refine r_aload_n hC dX5_openLanes_10 rfl ?_
      refine z_getR hM dX5_openLanes_11 fl_RX5_13 rfl rfl (vld_of (n := 1) rfl (by omega) (by omega)) ?_
      refine r_iload_n hC dX5_openLanes_14 rfl ?_
      refine z_aald hM dX5_openLanes_15 rfl (by decide) (by omega) (by omega) (vld_of (n := 7) rfl (by omega) (by omega)) ?_
      refine z_getI (jz := 1) hM dX5_openLanes_16 fl_RX5_94 rfl rfl rfl (fun v37 h_v37 o_v37 t_v37 => ?_)
      have w_v37 := ((t_v37 (Or.inl (by simp [Tb]))).trans (rfl)).symm
      subst w_v37
      have q_v37 : 0 ≤ (σ 7 2 1) ∧ (σ 7 2 1) ≤ 1 := by have := o_v37.2.1 rfl; omega
      refine r_if_eq (tgt := 26) hC dX5_openLanes_19 rfl (fun h38 => ?_) (fun h38 => ?_)
      · refine r_iconst hC dX5_openLanes_26 rfl ?_
        refine r_iaddE hC (1) dX5_openLanes_27 (by omega) (by unfold inR; omega) ?_
        refine r_istore_n hC dX5_openLanes_28 rfl ?_
        refine r_iincE hC (3) dX5_openLanes_29 rfl rfl (by omega) (by unfold inR; omega) ?_
        refine r_goto (tgt := 4) hC dX5_openLanes_32 rfl ?_
        refine r_iload_n hC dX5_openLanes_4 rfl ?_
        refine r_iconst hC dX5_openLanes_5 rfl ?_
        refine r_icmp_ge (tgt := 35) hC dX5_openLanes_6 rfl (fun h39 => by omega) (fun h39 => ?_)
        refine r_iload_n hC dX5_openLanes_9 rfl ?_
        refine r_aload_n hC dX5_openLanes_10 rfl ?_
        refine z_getR hM dX5_openLanes_11 fl_RX5_13 rfl rfl (vld_of (n := 1) rfl (by omega) (by omega)) ?_
        refine r_iload_n hC dX5_openLanes_14 rfl ?_
        refine z_aald hM dX5_openLanes_15 rfl (by decide) (by omega) (by omega) (vld_of (n := 7) rfl (by omega) (by omega)) ?_
        refine z_getI (jz := 1) hM dX5_openLanes_16 fl_RX5_94 rfl rfl rfl (fun v40 h_v40 o_v40 t_v40 => ?_)
        have w_v40 := ((t_v40 (Or.inl (by simp [Tb]))).trans (rfl)).symm
        subst w_v40
        have q_v40 : 0 ≤ (σ 7 3 1) ∧ (σ 7 3 1) ≤ 1 := by have := o_v40.2.1 rfl; omega
        refine r_if_eq (tgt := 26) hC dX5_openLanes_19 rfl (fun h41 => ?_) (fun h41 => ?_)
        · refine r_iconst hC dX5_openLanes_26 rfl ?_
          refine r_iaddE hC (1) dX5_openLanes_27 (by omega) (by unfold inR; omega) ?_
          refine r_istore_n hC dX5_openLanes_28 rfl ?_
          refine r_iincE hC (4) dX5_openLanes_29 rfl rfl (by omega) (by unfold inR; omega) ?_
          refine r_goto (tgt := 4) hC dX5_openLanes_32 rfl ?_
          refine r_iload_n hC dX5_openLanes_4 rfl ?_
          refine r_iconst hC dX5_openLanes_5 rfl ?_
          refine r_icmp_ge (tgt := 35) hC dX5_openLanes_6 rfl (fun h42 => ?_) (fun h42 => by omega)
          refine r_iload_n hC dX5_openLanes_35 rfl ?_
          refine y_iret hK rfl dX5_openLanes_36 ?_
          have e : cntO σ = 1 := by unfold cntO; omega
          rw [e] at k
          exact k
        · refine r_iconst hC dX5_openLanes_22 rfl ?_
          refine r_goto (tgt := 27) hC dX5_openLanes_23 rfl ?_
          refine r_iaddE hC (2) dX5_openLanes_27 (by omega) (by unfold inR; omega) ?_
          refine r_istore_n hC dX5_openLanes_28 rfl ?_
          refine r_iincE hC (4) dX5_openLanes_29 rfl rfl (by omega) (by unfold inR; omega) ?_
          refine r_goto (tgt := 4) hC dX5_openLanes_32 rfl ?_
          refine r_iload_n hC dX5_openLanes_4 rfl ?_
          refine r_iconst hC dX5_openLanes_5 rfl ?_
          refine r_icmp_ge (tgt := 35) hC dX5_openLanes_6 rfl (fun h43 => ?_) (fun h43 => by omega)
          refine r_iload_n hC dX5_openLanes_35 rfl ?_
          refine y_iret hK rfl dX5_openLanes_36 ?_
          have e : cntO σ = 2 := by unfold cntO; omega
          rw [e] at k
          exact k
      · refine r_iconst hC dX5_openLanes_22 rfl ?_
        refine r_goto (tgt := 27) hC dX5_openLanes_23 rfl ?_
        refine r_iaddE hC (2) dX5_openLanes_27 (by omega) (by unfold inR; omega) ?_
        refine r_istore_n hC dX5_openLanes_28 rfl ?_
        refine r_iincE hC (3) dX5_openLanes_29 rfl rfl (by omega) (by unfold inR; omega) ?_
        refine r_goto (tgt := 4) hC dX5_openLanes_32 rfl ?_
        refine r_iload_n hC dX5_openLanes_4 rfl ?_
        refine r_iconst hC dX5_openLanes_5 rfl ?_
        refine r_icmp_ge (tgt := 35) hC dX5_openLanes_6 rfl (fun h44 => by omega) (fun h44 => ?_)
        refine r_iload_n hC dX5_openLanes_9 rfl ?_
        refine r_aload_n hC dX5_openLanes_10 rfl ?_
        refine z_getR hM dX5_openLanes_11 fl_RX5_13 rfl rfl (vld_of (n := 1) rfl (by omega) (by omega)) ?_
        refine r_iload_n hC dX5_openLanes_14 rfl ?_
        refine z_aald hM dX5_openLanes_15 rfl (by decide) (by omega) (by omega) (vld_of (n := 7) rfl (by omega) (by omega)) ?_
        refine z_getI (jz := 1) hM dX5_openLanes_16 fl_RX5_94 rfl rfl rfl (fun v45 h_v45 o_v45 t_v45 => ?_)
        have w_v45 := ((t_v45 (Or.inl (by simp [Tb]))).trans (rfl)).symm
        subst w_v45
        have q_v45 : 0 ≤ (σ 7 3 1) ∧ (σ 7 3 1) ≤ 1 := by have := o_v45.2.1 rfl; omega
        refine r_if_eq (tgt := 26) hC dX5_openLanes_19 rfl (fun h46 => ?_) (fun h46 => ?_)
        · refine r_iconst hC dX5_openLanes_26 rfl ?_
          refine r_iaddE hC (2) dX5_openLanes_27 (by omega) (by unfold inR; omega) ?_
          refine r_istore_n hC dX5_openLanes_28 rfl ?_
          refine r_iincE hC (4) dX5_openLanes_29 rfl rfl (by omega) (by unfold inR; omega) ?_
          refine r_goto (tgt := 4) hC dX5_openLanes_32 rfl ?_
          refine r_iload_n hC dX5_openLanes_4 rfl ?_
          refine r_iconst hC dX5_openLanes_5 rfl ?_
          refine r_icmp_ge (tgt := 35) hC dX5_openLanes_6 rfl (fun h47 => ?_) (fun h47 => by omega)
          refine r_iload_n hC dX5_openLanes_35 rfl ?_
          refine y_iret hK rfl dX5_openLanes_36 ?_
          have e : cntO σ = 2 := by unfold cntO; omega
          rw [e] at k
          exact k
        · refine r_iconst hC dX5_openLanes_22 rfl ?_
          refine r_goto (tgt := 27) hC dX5_openLanes_23 rfl ?_
          refine r_iaddE hC (3) dX5_openLanes_27 (by omega) (by unfold inR; omega) ?_
          refine r_istore_n hC dX5_openLanes_28 rfl ?_
          refine r_iincE hC (4) dX5_openLanes_29 rfl rfl (by omega) (by unfold inR; omega) ?_
          refine r_goto (tgt := 4) hC dX5_openLanes_32 rfl ?_
          refine r_iload_n hC dX5_openLanes_4 rfl ?_
          refine r_iconst hC dX5_openLanes_5 rfl ?_
          refine r_icmp_ge (tgt := 35) hC dX5_openLanes_6 rfl (fun h48 => ?_) (fun h48 => by omega)
          refine r_iload_n hC dX5_openLanes_35 rfl ?_
          refine y_iret hK rfl dX5_openLanes_36 ?_
          have e : cntO σ = 3 := by unfold cntO; omega
          rw [e] at k
          exact k
    · refine r_iconst hC dX5_openLanes_22 rfl ?_
      refine r_goto (tgt := 27) hC dX5_openLanes_23 rfl ?_
      refine r_iaddE hC (2) dX5_openLanes_27 (by omega) (by unfold inR; omega) ?_
      refine r_istore_n hC dX5_openLanes_28 rfl ?_
      refine r_iincE hC (2) dX5_openLanes_29 rfl rfl (by omega) (by unfold inR; omega) ?_
      refine r_goto (tgt := 4) hC dX5_openLanes_32 rfl ?_
      refine r_iload_n hC dX5_openLanes_4 rfl ?_
      refine r_iconst hC dX5_openLanes_5 rfl ?_
      refine r_icmp_ge (tgt := 35) hC dX5_openLanes_6 rfl (fun h49 => by omega) (fun h49 => ?_)
      refine r_iload_n hC dX5_openLanes_9 rfl ?_
      refine r_aload_n hC dX5_openLanes_10 rfl ?_
      refine z_getR hM dX5_openLanes_11 fl_RX5_13 rfl rfl (vld_of (n := 1) rfl (by omega) (by omega)) ?_
      refine r_iload_n hC dX5_openLanes_14 rfl ?_
      refine z_aald hM dX5_openLanes_15 rfl (by decide) (by omega) (by omega) (vld_of (n := 7) rfl (by omega) (by omega)) ?_
      refine z_getI (jz := 1) hM dX5_openLanes_16 fl_RX5_94 rfl rfl rfl (fun v50 h_v50 o_v50 t_v50 => ?_)
      have w_v50 := ((t_v50 (Or.inl (by simp [Tb]))).trans (rfl)).symm
      subst w_v50
      have q_v50 : 0 ≤ (σ 7 2 1) ∧ (σ 7 2 1) ≤ 1 := by have := o_v50.2.1 rfl; omega
      refine r_if_eq (tgt := 26) hC dX5_openLanes_19 rfl (fun h51 => ?_) (fun h51 => ?_)
      · refine r_iconst hC dX5_openLanes_26 rfl ?_
        refine r_iaddE hC (2) dX5_openLanes_27 (by omega) (by unfold inR; omega) ?_
        refine r_istore_n hC dX5_openLanes_28 rfl ?_
        refine r_iincE hC (3) dX5_openLanes_29 rfl rfl (by omega) (by unfold inR; omega) ?_
        refine r_goto (tgt := 4) hC dX5_openLanes_32 rfl ?_
        refine r_iload_n hC dX5_openLanes_4 rfl ?_
        refine r_iconst hC dX5_openLanes_5 rfl ?_
        refine r_icmp_ge (tgt := 35) hC dX5_openLanes_6 rfl (fun h52 => by omega) (fun h52 => ?_)
        refine r_iload_n hC dX5_openLanes_9 rfl ?_
        refine r_aload_n hC dX5_openLanes_10 rfl ?_
        refine z_getR hM dX5_openLanes_11 fl_RX5_13 rfl rfl (vld_of (n := 1) rfl (by omega) (by omega)) ?_
        refine r_iload_n hC dX5_openLanes_14 rfl ?_
        refine z_aald hM dX5_openLanes_15 rfl (by decide) (by omega) (by omega) (vld_of (n := 7) rfl (by omega) (by omega)) ?_
        refine z_getI (jz := 1) hM dX5_openLanes_16 fl_RX5_94 rfl rfl rfl (fun v53 h_v53 o_v53 t_v53 => ?_)
        have w_v53 := ((t_v53 (Or.inl (by simp [Tb]))).trans (rfl)).symm
        subst w_v53
        have q_v53 : 0 ≤ (σ 7 3 1) ∧ (σ 7 3 1) ≤ 1 := by have := o_v53.2.1 rfl; omega
        refine r_if_eq (tgt := 26) hC dX5_openLanes_19 rfl (fun h54 => ?_) (fun h54 => ?_)
        · refine r_iconst hC dX5_openLanes_26 rfl ?_
          refine r_iaddE hC (2) dX5_openLanes_27 (by omega) (by unfold inR; omega) ?_
          refine r_istore_n hC dX5_openLanes_28 rfl ?_
          refine r_iincE hC (4) dX5_openLanes_29 rfl rfl (by omega) (by unfold inR; omega) ?_
          refine r_goto (tgt := 4) hC dX5_openLanes_32 rfl ?_
          refine r_iload_n hC dX5_openLanes_4 rfl ?_
          refine r_iconst hC dX5_openLanes_5 rfl ?_
          refine r_icmp_ge (tgt := 35) hC dX5_openLanes_6 rfl (fun h55 => ?_) (fun h55 => by omega)
          refine r_iload_n hC dX5_openLanes_35 rfl ?_
          refine y_iret hK rfl dX5_openLanes_36 ?_
          have e : cntO σ = 2 := by unfold cntO; omega
          rw [e] at k
          exact k
        · refine r_iconst hC dX5_openLanes_22 rfl ?_
          refine r_goto (tgt := 27) hC dX5_openLanes_23 rfl ?_
          refine r_iaddE hC (3) dX5_openLanes_27 (by omega) (by unfold inR; omega) ?_
          refine r_istore_n hC dX5_openLanes_28 rfl ?_
          refine r_iincE hC (4) dX5_openLanes_29 rfl rfl (by omega) (by unfold inR; omega) ?_
          refine r_goto (tgt := 4) hC dX5_openLanes_32 rfl ?_
          refine r_iload_n hC dX5_openLanes_4 rfl ?_
          refine r_iconst hC dX5_openLanes_5 rfl ?_
          refine r_icmp_ge (tgt := 35) hC dX5_openLanes_6 rfl (fun h56 => ?_) (fun h56 => by omega)
          refine r_iload_n hC dX5_openLanes_35 rfl ?_
          refine y_iret hK rfl dX5_openLanes_36 ?_
          have e : cntO σ = 3 := by unfold cntO; omega
          rw [e] at k
          exact k
      · refine r_iconst hC dX5_openLanes_22 rfl ?_
        refine r_goto (tgt := 27) hC dX5_openLanes_23 rfl ?_
        refine r_iaddE hC (3) dX5_openLanes_27 (by omega) (by unfold inR; omega) ?_
        refine r_istore_n hC dX5_openLanes_28 rfl ?_
        refine r_iincE hC (3) dX5_openLanes_29 rfl rfl (by omega) (by unfold inR; omega) ?_
        refine r_goto (tgt := 4) hC dX5_openLanes_32 rfl ?_
        refine r_iload_n hC dX5_openLanes_4 rfl ?_
        refine r_iconst hC dX5_openLanes_5 rfl ?_
        refine r_icmp_ge (tgt := 35) hC dX5_openLanes_6 rfl (fun h57 => by omega) (fun h57 => ?_)
        refine r_iload_n hC dX5_openLanes_9 rfl ?_
        refine r_aload_n hC dX5_openLanes_10 rfl ?_
        refine z_getR hM dX5_openLanes_11 fl_RX5_13 rfl rfl (vld_of (n := 1) rfl (by omega) (by omega)) ?_
        refine r_iload_n hC dX5_openLanes_14 rfl ?_
        refine z_aald hM dX5_openLanes_15 rfl (by decide) (by omega) (by omega) (vld_of (n := 7) rfl (by omega) (by omega)) ?_
        refine z_getI (jz := 1) hM dX5_openLanes_16 fl_RX5_94 rfl rfl rfl (fun v58 h_v58 o_v58 t_v58 => ?_)
        have w_v58 := ((t_v58 (Or.inl (by simp [Tb]))).trans (rfl)).symm
        subst w_v58
        have q_v58 : 0 ≤ (σ 7 3 1) ∧ (σ 7 3 1) ≤ 1 := by have := o_v58.2.1 rfl; omega
        refine r_if_eq (tgt := 26) hC dX5_openLanes_19 rfl (fun h59 => ?_) (fun h59 => ?_)
        · refine r_iconst hC dX5_openLanes_26 rfl ?_
          refine r_iaddE hC (3) dX5_openLanes_27 (by omega) (by unfold inR; omega) ?_
          refine r_istore_n hC dX5_openLanes_28 rfl ?_
          refine r_iincE hC (4) dX5_openLanes_29 rfl rfl (by omega) (by unfold inR; omega) ?_
          refine r_goto (tgt := 4) hC dX5_openLanes_32 rfl ?_
          refine r_iload_n hC dX5_openLanes_4 rfl ?_
          refine r_iconst hC dX5_openLanes_5 rfl ?_
          refine r_icmp_ge (tgt := 35) hC dX5_openLanes_6 rfl (fun h60 => ?_) (fun h60 => by omega)
          refine r_iload_n hC dX5_openLanes_35 rfl ?_
          refine y_iret hK rfl dX5_openLanes_36 ?_
          have e : cntO σ = 3 := by unfold cntO; omega
          rw [e] at k
          exact k
        · refine r_iconst hC dX5_openLanes_22 rfl ?_
          refine r_goto (tgt := 27) hC dX5_openLanes_23 rfl ?_
          refine r_iaddE hC (4) dX5_openLanes_27 (by omega) (by unfold inR; omega) ?_
          refine r_istore_n hC dX5_openLanes_28 rfl ?_
          refine r_iincE hC (4) dX5_openLanes_29 rfl rfl (by omega) (by unfold inR; omega) ?_
          refine r_goto (tgt := 4) hC dX5_openLanes_32 rfl ?_
          refine r_iload_n hC dX5_openLanes_4 rfl ?_
          refine r_iconst hC dX5_openLanes_5 rfl ?_
          refine r_icmp_ge (tgt := 35) hC dX5_openLanes_6 rfl (fun h61 => ?_) (fun h61 => by omega)
          refine r_iload_n hC dX5_openLanes_35 rfl ?_
          refine y_iret hK rfl dX5_openLanes_36 ?_
          have e : cntO σ = 4 := by unfold cntO; omega
          rw [e] at k
          exact k
theorem x_isSize {e : Ev} {d : Nat} {P : Option Vl → Mm → Prop} {σ : Mm} {b z : Int}   (k1 : (b = 0 ∨ (b = 1 ∧ 1 ≤ z ∧ z ≤ 120) ∨ (b = 2 ∧ 1 ≤ z ∧ z ≤ 10000)) → P (some (vI 1)) σ) (k0 : ¬ (b = 0 ∨ (b = 1 ∧ 1 ≤ z ∧ z ≤ 120) ∨ (b = 2 ∧ 1 ≤ z ∧ z ≤ 10000)) → P (some (vI 0)) σ) : WT e (d + 2) 59 [vI b, vI z] σ P := by
  refine WT_in fun K hK => ?_
  have hK : StpY e cX5_isSize RX5 (some .boolean) (WT e (d + 1)) P K := hK
  have hM := hK.1
  have hC := hK.1.1
  show K 0 [some (vI b), some (vI z)] [] σ
  refine r_rngz hC (fun g0 => ?_)
  have r_b : -2147483648 ≤ b ∧ b ≤ 2147483647 := inR_le (g0 (vI b) (by simp))
  have r_z : -2147483648 ≤ z ∧ z ≤ 2147483647 := inR_le (g0 (vI z) (by simp))
  refine r_iload_n hC dX5_isSize_0 rfl ?_
  rcases (by omega : (b < 0 ∨ 2 < b) ∨ b = 0 ∨ b = 1 ∨ b = 2) with h1 | h1 | h1 | h1
  · refine r_tableOut (tgt := 47) hC dX5_isSize_1 h1 rfl ?_
    refine r_iconst hC dX5_isSize_47 rfl ?_
    refine y_zret hK rfl dX5_isSize_48 (by omega) ?_
    exact k0 (by omega)
  · refine r_tableIn (tgt := 28) (off := 27) hC dX5_isSize_1 (by omega) (by omega) (by rw [h1]; rfl) rfl ?_
    refine r_iconst hC dX5_isSize_28 rfl ?_
    refine y_zret hK rfl dX5_isSize_29 (by omega) ?_
    exact k1 (by omega)
  · refine r_tableIn (tgt := 30) (off := 29) hC dX5_isSize_1 (by omega) (by omega) (by rw [h1]; rfl) rfl ?_
    refine r_iload_n hC dX5_isSize_30 rfl ?_
    refine r_iconst hC dX5_isSize_31 rfl ?_
    refine r_bipush hC dX5_isSize_32 rfl ?_
    refine z_ins3 hM dX5_isSize_34 tl_RX5_59 rfl (Nat.le_of_ble_eq_true rfl) (Nat.le_of_ble_eq_true rfl) ?_
    refine s_within (fun h3 => ?_) (fun h3 => ?_)
    · refine y_zret hK rfl dX5_isSize_37 (by omega) ?_
      exact k1 (by omega)
    · refine y_zret hK rfl dX5_isSize_37 (by omega) ?_
      exact k0 (by omega)
  · refine r_tableIn (tgt := 38) (off := 37) hC dX5_isSize_1 (by omega) (by omega) (by rw [h1]; rfl) rfl ?_
    refine r_iload_n hC dX5_isSize_38 rfl ?_
    refine r_iconst hC dX5_isSize_39 rfl ?_
    refine r_sipush hC dX5_isSize_40 rfl ?_
    refine z_ins3 hM dX5_isSize_43 tl_RX5_59 rfl (Nat.le_of_ble_eq_true rfl) (Nat.le_of_ble_eq_true rfl) ?_
    refine s_within (fun h5 => ?_) (fun h5 => ?_)
    · refine y_zret hK rfl dX5_isSize_46 (by omega) ?_
      exact k1 (by omega)
    · refine y_zret hK rfl dX5_isSize_46 (by omega) ?_
      exact k0 (by omega)
theorem x_open {ec : Bool} {d : Nat} {P : Option Vl → Mm → Prop} {σ : Mm} {l o b z y : Int}   (k : P (some (vI (onR σ l o b z y))) (onM σ l o b z y)) : WT (true, false, ec) (d + 4) 58 [vR 2 0, vI l, vI o, vI b, vI z, vI y] σ P := by
  refine WT_in fun K hK => ?_
  have hK : StpY (true, false, ec) cX5_open RX5 (some .int) (WT (true, false, ec) (d + 3)) P K := hK
  have hM := hK.1
  have hC := hK.1.1
  show K 0 [some (vR 2 0), some (vI l), some (vI o), some (vI b), some (vI z), some (vI y)] [] σ
  refine r_rngz hC (fun g0 => ?_)
  have r_l : -2147483648 ≤ l ∧ l ≤ 2147483647 := inR_le (g0 (vI l) (by simp))
  have r_o : -2147483648 ≤ o ∧ o ≤ 2147483647 := inR_le (g0 (vI o) (by simp))
  have r_b : -2147483648 ≤ b ∧ b ≤ 2147483647 := inR_le (g0 (vI b) (by simp))
  have r_z : -2147483648 ≤ z ∧ z ≤ 2147483647 := inR_le (g0 (vI z) (by simp))
  have r_y : -2147483648 ≤ y ∧ y ≤ 2147483647 := inR_le (g0 (vI y) (by simp))
  refine r_iload_n hC dX5_open_0 rfl ?_
  refine z_ins1 hM dX5_open_1 tl_RX5_102 rfl (Nat.le_of_ble_eq_true rfl) (Nat.le_of_ble_eq_true rfl) ?_
  refine s_isLane (fun h2 => ?_) (fun h2 => ?_)
  · refine r_if_eq (tgt := 38) hC dX5_open_4 rfl (fun h3 => by omega) (fun h3 => ?_)
    refine r_iload_n hC dX5_open_7 rfl ?_
    refine r_iconst hC dX5_open_8 rfl ?_
    refine r_bipush hC dX5_open_9 rfl ?_
    refine z_ins3 hM dX5_open_11 tl_RX5_59 rfl (Nat.le_of_ble_eq_true rfl) (Nat.le_of_ble_eq_true rfl) ?_
    refine s_within (fun h5 => ?_) (fun h5 => ?_)
    · refine r_if_eq (tgt := 38) hC dX5_open_14 rfl (fun h6 => by omega) (fun h6 => ?_)
      refine r_iload hC dX5_open_17 rfl ?_
      refine r_iconst hC dX5_open_19 rfl ?_
      refine r_sipush hC dX5_open_20 rfl ?_
      refine z_ins3 hM dX5_open_23 tl_RX5_59 rfl (Nat.le_of_ble_eq_true rfl) (Nat.le_of_ble_eq_true rfl) ?_
      refine s_within (fun h8 => ?_) (fun h8 => ?_)
      · refine r_if_eq (tgt := 38) hC dX5_open_26 rfl (fun h9 => by omega) (fun h9 => ?_)
        refine r_iload_n hC dX5_open_29 rfl ?_
        refine r_iload hC dX5_open_30 rfl ?_
        refine z_ins2 hM dX5_open_32 tl_RX5_105 rfl (Nat.le_of_ble_eq_true rfl) (Nat.le_of_ble_eq_true rfl) ?_
        refine x_isSize (fun h10 => ?_) (fun h10 => ?_)
        · refine r_if_ne (tgt := 40) hC dX5_open_35 rfl (fun h11 => ?_) (fun h11 => by omega)
          refine r_iload_n hC dX5_open_40 rfl ?_
          refine r_bipush hC dX5_open_41 rfl ?_
          refine r_icmp_ne (tgt := 58) hC dX5_open_43 rfl (fun h12 => ?_) (fun h12 => ?_)
          · refine r_aload_n hC dX5_open_58 rfl ?_
            refine z_getR hM dX5_open_59 fl_RX5_13 rfl rfl (vld_of (n := 1) rfl (by omega) (by omega)) ?_
            refine r_iload_n hC dX5_open_62 rfl ?_
            refine z_aald hM dX5_open_63 rfl (by decide) (by omega) (by omega) (vld_of (n := 7) rfl (by omega) (by omega)) ?_
            refine r_iload_n hC dX5_open_64 rfl ?_
            refine r_iload_n hC dX5_open_65 rfl ?_
            refine r_iload_n hC dX5_open_66 rfl ?_
            refine r_if_ne (tgt := 74) hC dX5_open_67 rfl (fun h13 => ?_) (fun h13 => ?_)
            · refine r_iload hC dX5_open_74 rfl ?_
              refine r_iload hC dX5_open_76 rfl ?_
              refine z_inv4 hM dX5_open_78 vl_RX5_113 rfl rfl rfl (Nat.le_of_ble_eq_true rfl) (Nat.le_of_ble_eq_true rfl) ?_
              refine x_begin_L (by omega) (by omega) ?_
              refine r_aload_n hC dX5_open_81 rfl ?_
              refine r_iload_n hC dX5_open_82 rfl ?_
              refine z_inv1 hM dX5_open_83 vl_RX5_117 rfl rfl rfl (Nat.le_of_ble_eq_true rfl) (Nat.le_of_ble_eq_true rfl) ?_
              refine x_endTies (by omega) ?_
              refine r_aload_n hC dX5_open_86 rfl ?_
              refine z_inv0 hM dX5_open_87 vl_RX5_120 rfl rfl rfl (Nat.le_of_ble_eq_true rfl) (Nat.le_of_ble_eq_true rfl) ?_
              refine x_openLanes ?_
              refine y_iret hK rfl dX5_open_90 ?_
              have hM : onM σ l o b z y = (etM (bgM σ l o b z y) l) := by
                unfold onM
                first | (rw [if_pos (by omega), if_pos (by omega)]; done) | (rw [if_pos (by omega), if_neg (by omega)]; done)
              rw [hM] at k
              have hR : onR σ l o b z y = (cntO (etM (bgM σ l o b z y) l)) := by
                unfold onR
                rw [if_pos (by omega), hM]
              rw [hR] at k
              exact k
            · refine r_iconst hC dX5_open_70 rfl ?_
              refine r_goto (tgt := 76) hC dX5_open_71 rfl ?_
              refine r_iload hC dX5_open_76 rfl ?_
              refine z_inv4 hM dX5_open_78 vl_RX5_113 rfl rfl rfl (Nat.le_of_ble_eq_true rfl) (Nat.le_of_ble_eq_true rfl) ?_
              refine x_begin_L (by omega) (by omega) ?_
              refine r_aload_n hC dX5_open_81 rfl ?_
              refine r_iload_n hC dX5_open_82 rfl ?_
              refine z_inv1 hM dX5_open_83 vl_RX5_117 rfl rfl rfl (Nat.le_of_ble_eq_true rfl) (Nat.le_of_ble_eq_true rfl) ?_
              refine x_endTies (by omega) ?_
              refine r_aload_n hC dX5_open_86 rfl ?_
              refine z_inv0 hM dX5_open_87 vl_RX5_120 rfl rfl rfl (Nat.le_of_ble_eq_true rfl) (Nat.le_of_ble_eq_true rfl) ?_
              refine x_openLanes ?_
              refine y_iret hK rfl dX5_open_90 ?_
              have hM : onM σ l o b z y = (etM (bgM σ l o b 0 y) l) := by
                unfold onM
                first | (rw [if_pos (by omega), if_pos (by omega)]; done) | (rw [if_pos (by omega), if_neg (by omega)]; done)
              rw [hM] at k
              have hR : onR σ l o b z y = (cntO (etM (bgM σ l o b 0 y) l)) := by
                unfold onR
                rw [if_pos (by omega), hM]
              rw [hR] at k
              exact k
          · refine r_aload_n hC dX5_open_46 rfl ?_
            refine r_iconst hC dX5_open_47 rfl ?_
            refine z_inv1 hM dX5_open_48 vl_RX5_109 rfl rfl rfl (Nat.le_of_ble_eq_true rfl) (Nat.le_of_ble_eq_true rfl) ?_
            refine s_tripleX ?_
            refine r_bipush hC dX5_open_51 rfl ?_
            refine r_icmp_eq (tgt := 58) hC dX5_open_53 rfl (fun h14 => ?_) (fun h14 => ?_)
            · refine r_aload_n hC dX5_open_58 rfl ?_
              refine z_getR hM dX5_open_59 fl_RX5_13 rfl rfl (vld_of (n := 1) rfl (by omega) (by omega)) ?_
              refine r_iload_n hC dX5_open_62 rfl ?_
              refine z_aald hM dX5_open_63 rfl (by decide) (by omega) (by omega) (vld_of (n := 7) rfl (by omega) (by omega)) ?_
              refine r_iload_n hC dX5_open_64 rfl ?_
              refine r_iload_n hC dX5_open_65 rfl ?_
              refine r_iload_n hC dX5_open_66 rfl ?_
              refine r_if_ne (tgt := 74) hC dX5_open_67 rfl (fun h15 => ?_) (fun h15 => ?_)
              · refine r_iload hC dX5_open_74 rfl ?_
                refine r_iload hC dX5_open_76 rfl ?_
                refine z_inv4 hM dX5_open_78 vl_RX5_113 rfl rfl rfl (Nat.le_of_ble_eq_true rfl) (Nat.le_of_ble_eq_true rfl) ?_
                refine x_begin_L (by omega) (by omega) ?_
                refine r_aload_n hC dX5_open_81 rfl ?_
                refine r_iload_n hC dX5_open_82 rfl ?_
                refine z_inv1 hM dX5_open_83 vl_RX5_117 rfl rfl rfl (Nat.le_of_ble_eq_true rfl) (Nat.le_of_ble_eq_true rfl) ?_
                refine x_endTies (by omega) ?_
                refine r_aload_n hC dX5_open_86 rfl ?_
                refine z_inv0 hM dX5_open_87 vl_RX5_120 rfl rfl rfl (Nat.le_of_ble_eq_true rfl) (Nat.le_of_ble_eq_true rfl) ?_
                refine x_openLanes ?_
                refine y_iret hK rfl dX5_open_90 ?_
                have hM : onM σ l o b z y = (etM (bgM σ l o b z y) l) := by
                  unfold onM
                  first | (rw [if_pos (by omega), if_pos (by omega)]; done) | (rw [if_pos (by omega), if_neg (by omega)]; done)
                rw [hM] at k
                have hR : onR σ l o b z y = (cntO (etM (bgM σ l o b z y) l)) := by
                  unfold onR
                  rw [if_pos (by omega), hM]
                rw [hR] at k
                exact k
              · refine r_iconst hC dX5_open_70 rfl ?_
                refine r_goto (tgt := 76) hC dX5_open_71 rfl ?_
                refine r_iload hC dX5_open_76 rfl ?_
                refine z_inv4 hM dX5_open_78 vl_RX5_113 rfl rfl rfl (Nat.le_of_ble_eq_true rfl) (Nat.le_of_ble_eq_true rfl) ?_
                refine x_begin_L (by omega) (by omega) ?_
                refine r_aload_n hC dX5_open_81 rfl ?_
                refine r_iload_n hC dX5_open_82 rfl ?_
                refine z_inv1 hM dX5_open_83 vl_RX5_117 rfl rfl rfl (Nat.le_of_ble_eq_true rfl) (Nat.le_of_ble_eq_true rfl) ?_
                refine x_endTies (by omega) ?_
                refine r_aload_n hC dX5_open_86 rfl ?_
                refine z_inv0 hM dX5_open_87 vl_RX5_120 rfl rfl rfl (Nat.le_of_ble_eq_true rfl) (Nat.le_of_ble_eq_true rfl) ?_
                refine x_openLanes ?_
                refine y_iret hK rfl dX5_open_90 ?_
                have hM : onM σ l o b z y = (etM (bgM σ l o b 0 y) l) := by
                  unfold onM
                  first | (rw [if_pos (by omega), if_pos (by omega)]; done) | (rw [if_pos (by omega), if_neg (by omega)]; done)
                rw [hM] at k
                have hR : onR σ l o b z y = (cntO (etM (bgM σ l o b 0 y) l)) := by
                  unfold onR
                  rw [if_pos (by omega), hM]
                rw [hR] at k
                exact k
            · refine r_iconst hC dX5_open_56 rfl ?_
              refine y_iret hK rfl dX5_open_57 ?_
              have hM : onM σ l o b z y = σ := by
                exact if_neg (by omega)
              rw [hM] at k
              have hR : onR σ l o b z y = (-1) := by
                exact if_neg (by omega)
              rw [hR] at k
              exact k
        · refine r_if_ne (tgt := 40) hC dX5_open_35 rfl (fun h16 => by omega) (fun h16 => ?_)
          refine r_iconst hC dX5_open_38 rfl ?_
          refine y_iret hK rfl dX5_open_39 ?_
          have hM : onM σ l o b z y = σ := by
            exact if_neg (by omega)
          rw [hM] at k
          have hR : onR σ l o b z y = (-1) := by
            exact if_neg (by omega)
          rw [hR] at k
          exact k
      · refine r_if_eq (tgt := 38) hC dX5_open_26 rfl (fun h17 => ?_) (fun h17 => by omega)
        refine r_iconst hC dX5_open_38 rfl ?_
        refine y_iret hK rfl dX5_open_39 ?_
        have hM : onM σ l o b z y = σ := by
          exact if_neg (by omega)
        rw [hM] at k
        have hR : onR σ l o b z y = (-1) := by
          exact if_neg (by omega)
        rw [hR] at k
        exact k
    · refine r_if_eq (tgt := 38) hC dX5_open_14 rfl (fun h18 => ?_) (fun h18 => by omega)
      refine r_iconst hC dX5_open_38 rfl ?_
      refine y_iret hK rfl dX5_open_39 ?_
      have hM : onM σ l o b z y = σ := by
        exact if_neg (by omega)
      rw [hM] at k
      have hR : onR σ l o b z y = (-1) := by
        exact if_neg (by omega)
      rw [hR] at k
      exact k
  · refine r_if_eq (tgt := 38) hC dX5_open_4 rfl (fun h19 => ?_) (fun h19 => by omega)
    refine r_iconst hC dX5_open_38 rfl ?_
    refine y_iret hK rfl dX5_open_39 ?_
    have hM : onM σ l o b z y = σ := by
      exact if_neg (by omega)
    rw [hM] at k
    have hR : onR σ l o b z y = (-1) := by
      exact if_neg (by omega)
    rw [hR] at k
    exact k
theorem x_shut {ec : Bool} {d : Nat} {P : Option Vl → Mm → Prop} {σ : Mm} {l : Int}   (k : P (some (vI (shR σ l))) (shM σ l)) : WT (true, false, ec) (d + 4) 60 [vR 2 0, vI l] σ P := by
  refine WT_in fun K hK => ?_
  have hK : StpY (true, false, ec) cX5_shut RX5 (some .boolean) (WT (true, false, ec) (d + 3)) P K := hK
  have hM := hK.1
  have hC := hK.1.1
  show K 0 [some (vR 2 0), some (vI l), none] [] σ
  refine r_rngz hC (fun g0 => ?_)
  have r_l : -2147483648 ≤ l ∧ l ≤ 2147483647 := inR_le (g0 (vI l) (by simp))
  refine r_aload_n hC dX5_shut_0 rfl ?_
  refine r_iload_n hC dX5_shut_1 rfl ?_
  refine z_inv1 hM dX5_shut_2 vl_RX5_123 rfl rfl rfl (Nat.le_of_ble_eq_true rfl) (Nat.le_of_ble_eq_true rfl) ?_
  refine x_openLane (fun h1 => ?_) (fun h1 => ?_)
  · -- h1
    refine r_astore_n hC dX5_shut_5 rfl ?_
    refine r_aload_n hC dX5_shut_6 rfl ?_
    refine r_ifnonnullR (tgt := 12) hC dX5_shut_7 rfl ?_
    refine r_aload_n hC dX5_shut_12 rfl ?_
    refine r_iconst hC dX5_shut_13 rfl ?_
    refine z_putZT (jz := 1) hM dX5_shut_14 fw_RX5_94 rfl rfl rfl (by omega) ⟨Or.inr (by simp [DL]), Or.inr (by simp [DF])⟩ (by first | trivial | (simp only [Okv]; omega) | (simp [Okv]; try omega)) ?_
    refine r_aload_n hC dX5_shut_17 rfl ?_
    refine r_iload_n hC dX5_shut_18 rfl ?_
    refine z_inv1 hM dX5_shut_19 vl_RX5_117 rfl rfl rfl (Nat.le_of_ble_eq_true rfl) (Nat.le_of_ble_eq_true rfl) ?_
    refine x_endTies (by omega) ?_
    refine r_iconst hC dX5_shut_22 rfl ?_
    refine y_zret hK rfl dX5_shut_23 (by omega) ?_
    have hM : shM σ l = (etM (mu σ 7 l 1 0) l) := by
      exact if_pos (by omega)
    rw [hM] at k
    have hR : shR σ l = 1 := by
      exact if_pos (by omega)
    rw [hR] at k
    exact k
  · -- h1
    refine r_astoreN_n hC dX5_shut_5 rfl ?_
    refine r_aloadN_n hC dX5_shut_6 rfl ?_
    refine r_ifnonnullN hC dX5_shut_7 ?_
    refine r_iconst hC dX5_shut_10 rfl ?_
    refine y_zret hK rfl dX5_shut_11 (by omega) ?_
    have hM : shM σ l = σ := by
      exact if_neg (by omega)
    rw [hM] at k
    have hR : shR σ l = 0 := by
      exact if_neg (by omega)
    rw [hR] at k
    exact k
