-- B: the class's calls that move
theorem x_giveC {ec : Bool} {d : Nat} {P : Option Vl → Mm → Prop} {σ : Mm} {i t : Int} (hC : CI σ) (b_i : 0 ≤ i ∧ i ≤ 3) (b_t : -2147483648 ≤ t ∧ t ≤ 2147483647) (k : P none (gvM σ i t)) : WT (true, false, ec) (d + 7) 70 [vR 2 0, vR 7 i, vI t] σ P := x_give b_i b_t hC.1 (fun l a b => hC.2.1 l a (by omega)) (fun l a b => hC.h7 a (by omega)) (hC.2.2.2 i b_i.1 b_i.2) k
theorem x_placeC {ec : Bool} {d : Nat} {P : Option Vl → Mm → Prop} {σ : Mm} {i t v : Int} (hC : CI σ) (b_i : 0 ≤ i ∧ i ≤ 3) (b_t : -2147483648 ≤ t ∧ t ≤ 2147483647) (b_v : -1000 ≤ v ∧ v ≤ 1000) (k : P none (plM σ i t v)) : WT (true, false, ec) (d + 6) 67 [vR 2 0, vR 7 i, vI t, vI v] σ P := x_place ⟨b_i.1, by omega⟩ b_t b_v (hC.1 i b_i.1 b_i.2) (hC.2.1 i b_i.1 (by omega)) (hC.h7 b_i.1 (by omega)) k
theorem x_come {ec : Bool} {d : Nat} {P : Option Vl → Mm → Prop} {σ : Mm} {l t v : Int}  (hCI : CI σ)  (k : P (some (vI (coR σ l t v))) (coM σ l t v)) : WT (true, false, ec) (d + 8) 61 [vR 2 0, vI l, vI t, vI v] σ P := by
  refine WT_in fun K hK => ?_
  have hK : StpY (true, false, ec) cX5_come RX5 (some .int) (WT (true, false, ec) (d + 7)) P K := hK
  have hM := hK.1
  have hC := hK.1.1
  show K 0 [some (vR 2 0), some (vI l), some (vI t), some (vI v), none] [] σ
  refine r_rngz hC (fun g0 => ?_)
  have r_l : -2147483648 ≤ l ∧ l ≤ 2147483647 := inR_le (g0 (vI l) (by simp))
  have r_t : -2147483648 ≤ t ∧ t ≤ 2147483647 := inR_le (g0 (vI t) (by simp))
  have r_v : -2147483648 ≤ v ∧ v ≤ 2147483647 := inR_le (g0 (vI v) (by simp))
  refine r_aload_n hC dX5_come_0 rfl ?_
  refine r_iload_n hC dX5_come_1 rfl ?_
  refine z_inv1 hM dX5_come_2 vl_RX5_123 rfl rfl rfl (Nat.le_of_ble_eq_true rfl) (Nat.le_of_ble_eq_true rfl) ?_
  refine x_openLane (fun h1 => ?_) (fun h1 => ?_)
  · -- h1
    refine r_astore hC dX5_come_5 rfl ?_
    refine r_aload hC dX5_come_7 rfl ?_
    refine r_ifnullR hC dX5_come_9 ?_
    refine r_iload_n hC dX5_come_12 rfl ?_
    refine z_ins1 hM dX5_come_13 tl_RX5_127 rfl (Nat.le_of_ble_eq_true rfl) (Nat.le_of_ble_eq_true rfl) ?_
    refine s_isTime (fun h3 => ?_) (fun h3 => ?_)
    · refine r_if_eq (tgt := 26) hC dX5_come_16 rfl (fun h4 => by omega) (fun h4 => ?_)
      refine r_iload_n hC dX5_come_19 rfl ?_
      refine z_ins1 hM dX5_come_20 tl_RX5_130 rfl (Nat.le_of_ble_eq_true rfl) (Nat.le_of_ble_eq_true rfl) ?_
      refine s_isValue (fun h6 => ?_) (fun h6 => ?_)
      · refine r_if_ne (tgt := 28) hC dX5_come_23 rfl (fun h7 => ?_) (fun h7 => by omega)
        refine r_aload hC dX5_come_28 rfl ?_
        refine r_iload_n hC dX5_come_30 rfl ?_
        refine z_inv1 hM dX5_come_31 vl_RX5_133 rfl rfl rfl (Nat.le_of_ble_eq_true rfl) (Nat.le_of_ble_eq_true rfl) ?_
        refine x_isTooLate (by omega) (fun h8 => ?_) (fun h8 => ?_)
        · have y5_h8 : σ 7 l 5 = (σ 7 l 5) := (rfl)
          have y10_h8 : σ 7 l 10 = (σ 7 l 10) := (rfl)
          refine r_if_eq (tgt := 51) hC dX5_come_34 rfl (fun h9 => by omega) (fun h9 => ?_)
          refine r_aload hC dX5_come_37 rfl ?_
          refine r_dup hC dX5_come_39 rfl ?_
          refine z_getI (jz := 11) hM dX5_come_40 fl_RX5_136 rfl rfl rfl (fun v10 h_v10 o_v10 t_v10 => ?_)
          refine r_iconst hC dX5_come_43 rfl ?_
          refine r_iadd hC dX5_come_44 ?_
          have f11 := inR_le (inR_wr (v10 + 1))
          refine z_putIU (jz := 11) hM dX5_come_45 fw_RX5_136 rfl rfl rfl (by simp [Un, Tb, DL, DF, DR]) (by simp [Okv]) ?_
          refine r_bipush hC dX5_come_48 rfl ?_
          refine y_iret hK rfl dX5_come_50 ?_
          have hM : coM σ l t v = σ := by
            unfold coM
            first | exact if_pos (by omega) | exact if_neg (by omega)
          rw [hM] at k
          have hR : coR σ l t v = (-2) := by
            unfold coR
            first | (rw [if_pos (by omega)]; done) | (rw [if_neg (by omega), if_pos (by omega)]; done) | (rw [if_neg (by omega), if_neg (by omega), if_pos (by omega)]; done) | (rw [if_neg (by omega), if_neg (by omega), if_neg (by omega), hM]; exact ntM_ne (by omega))
          rw [hR] at k
          exact k
        · have y5_h8 : σ 7 l 5 = (σ 7 l 5) := (rfl)
          have y10_h8 : σ 7 l 10 = (σ 7 l 10) := (rfl)
          refine r_if_eq (tgt := 51) hC dX5_come_34 rfl (fun h12 => ?_) (fun h12 => by omega)
          refine r_aload hC dX5_come_51 rfl ?_
          refine z_inv0 hM dX5_come_53 vl_RX5_139 rfl rfl rfl (Nat.le_of_ble_eq_true rfl) (Nat.le_of_ble_eq_true rfl) ?_
          refine x_isFull (by omega) (fun h13 => ?_) (fun h13 => ?_)
          · have y3_h13 : σ 7 l 3 = (σ 7 l 3) := (rfl)
            have y6_h13 : σ 7 l 6 = (σ 7 l 6) := (rfl)
            refine r_if_eq (tgt := 61) hC dX5_come_56 rfl (fun h14 => by omega) (fun h14 => ?_)
            refine r_iconst hC dX5_come_59 rfl ?_
            refine y_iret hK rfl dX5_come_60 ?_
            have hM : coM σ l t v = σ := by
              unfold coM
              first | exact if_pos (by omega) | exact if_neg (by omega)
            rw [hM] at k
            have hR : coR σ l t v = (-1) := by
              unfold coR
              first | (rw [if_pos (by omega)]; done) | (rw [if_neg (by omega), if_pos (by omega)]; done) | (rw [if_neg (by omega), if_neg (by omega), if_pos (by omega)]; done) | (rw [if_neg (by omega), if_neg (by omega), if_neg (by omega), hM]; exact ntM_ne (by omega))
            rw [hR] at k
            exact k
          · have y3_h13 : σ 7 l 3 = (σ 7 l 3) := (rfl)
            have y6_h13 : σ 7 l 6 = (σ 7 l 6) := (rfl)
            refine r_if_eq (tgt := 61) hC dX5_come_56 rfl (fun h15 => ?_) (fun h15 => by omega)
            refine r_aload_n hC dX5_come_61 rfl ?_
            refine r_aload hC dX5_come_62 rfl ?_
            refine r_iload_n hC dX5_come_64 rfl ?_
            refine z_inv2 hM dX5_come_65 vl_RX5_143 rfl rfl rfl (Nat.le_of_ble_eq_true rfl) (Nat.le_of_ble_eq_true rfl) ?_
            refine x_giveC hCI (by omega) (by omega) ?_
            refine r_aload_n hC dX5_come_68 rfl ?_
            refine r_aload hC dX5_come_69 rfl ?_
            refine r_iload_n hC dX5_come_71 rfl ?_
            refine r_iload_n hC dX5_come_72 rfl ?_
            refine z_inv3 hM dX5_come_73 vl_RX5_147 rfl rfl rfl (Nat.le_of_ble_eq_true rfl) (Nat.le_of_ble_eq_true rfl) ?_
            refine x_placeC (CI.gv hCI) (by omega) (by omega) (by omega) ?_
            have u3_73 : (gvM σ l t) 7 l 3 = (σ 7 l 3) := ((gv_7 hCI (by omega) (by omega)).trans (rfl))
            have u6_73 : (gvM σ l t) 7 l 6 = (σ 7 l 6) := ((gv_7 hCI (by omega) (by omega)).trans (rfl))
            have nf_73 : ¬ fuV (gvM σ l t) l := by unfold fuV; omega
            refine r_aload_n hC dX5_come_76 rfl ?_
            refine z_inv0 hM dX5_come_77 vl_RX5_151 rfl rfl rfl (Nat.le_of_ble_eq_true rfl) (Nat.le_of_ble_eq_true rfl) ?_
            refine x_noteMost ?_
            refine r_aload hC dX5_come_80 rfl ?_
            refine z_getI (jz := 6) hM dX5_come_82 fl_RX5_154 rfl rfl rfl (fun v16 h_v16 o_v16 t_v16 => ?_)
            have w_v16 := ((t_v16 (Or.inl (by simp [Tb]))).trans ((ntM_ne (by omega)).trans (rfl))).symm
            subst w_v16
            have q_v16 : 0 ≤ ((plM (gvM σ l t) l t v) 7 l 6) ∧ ((plM (gvM σ l t) l t v) 7 l 6) ≤ 121 := o_v16.1 rfl
            refine y_iret hK rfl dX5_come_85 ?_
            have hM : coM σ l t v = (ntM (plM (gvM σ l t) l t v)) := by
              unfold coM
              first | exact if_pos (by omega) | exact if_neg (by omega)
            rw [hM] at k
            have hR : coR σ l t v = ((plM (gvM σ l t) l t v) 7 l 6) := by
              unfold coR
              first | (rw [if_pos (by omega)]; done) | (rw [if_neg (by omega), if_pos (by omega)]; done) | (rw [if_neg (by omega), if_neg (by omega), if_pos (by omega)]; done) | (rw [if_neg (by omega), if_neg (by omega), if_neg (by omega), hM]; exact ntM_ne (by omega))
            rw [hR] at k
            exact k
      · refine r_if_ne (tgt := 28) hC dX5_come_23 rfl (fun h17 => by omega) (fun h17 => ?_)
        refine r_iconst hC dX5_come_26 rfl ?_
        refine y_iret hK rfl dX5_come_27 ?_
        have hM : coM σ l t v = σ := by
          unfold coM
          first | exact if_pos (by omega) | exact if_neg (by omega)
        rw [hM] at k
        have hR : coR σ l t v = (-1) := by
          unfold coR
          first | (rw [if_pos (by omega)]; done) | (rw [if_neg (by omega), if_pos (by omega)]; done) | (rw [if_neg (by omega), if_neg (by omega), if_pos (by omega)]; done) | (rw [if_neg (by omega), if_neg (by omega), if_neg (by omega), hM]; exact ntM_ne (by omega))
        rw [hR] at k
        exact k
    · refine r_if_eq (tgt := 26) hC dX5_come_16 rfl (fun h18 => ?_) (fun h18 => by omega)
      refine r_iconst hC dX5_come_26 rfl ?_
      refine y_iret hK rfl dX5_come_27 ?_
      have hM : coM σ l t v = σ := by
        unfold coM
        first | exact if_pos (by omega) | exact if_neg (by omega)
      rw [hM] at k
      have hR : coR σ l t v = (-1) := by
        unfold coR
        first | (rw [if_pos (by omega)]; done) | (rw [if_neg (by omega), if_pos (by omega)]; done) | (rw [if_neg (by omega), if_neg (by omega), if_pos (by omega)]; done) | (rw [if_neg (by omega), if_neg (by omega), if_neg (by omega), hM]; exact ntM_ne (by omega))
      rw [hR] at k
      exact k
  · -- h1
    refine r_astoreN hC dX5_come_5 rfl ?_
    refine r_aloadN hC dX5_come_7 rfl ?_
    refine r_ifnullN (tgt := 26) hC dX5_come_9 rfl ?_
    refine r_iconst hC dX5_come_26 rfl ?_
    refine y_iret hK rfl dX5_come_27 ?_
    have hM : coM σ l t v = σ := by
      unfold coM
      first | exact if_pos (by omega) | exact if_neg (by omega)
    rw [hM] at k
    have hR : coR σ l t v = (-1) := by
      unfold coR
      first | (rw [if_pos (by omega)]; done) | (rw [if_neg (by omega), if_pos (by omega)]; done) | (rw [if_neg (by omega), if_neg (by omega), if_pos (by omega)]; done) | (rw [if_neg (by omega), if_neg (by omega), if_neg (by omega), hM]; exact ntM_ne (by omega))
    rw [hR] at k
    exact k
theorem x_burst {ec : Bool} {d : Nat} {P : Option Vl → Mm → Prop} {σ : Mm} {l m v z : Int}  (hCI : CI σ)  (k : P (some (vI (buR σ l m v z))) (buM σ l m v z)) : WT (true, false, ec) (d + 8) 62 [vR 2 0, vI l, vI m, vI v, vI z] σ P := by
  refine WT_in fun K hK => ?_
  have hK : StpY (true, false, ec) cX5_burst RX5 (some .int) (WT (true, false, ec) (d + 7)) P K := hK
  have hM := hK.1
  have hC := hK.1.1
  show K 0 [some (vR 2 0), some (vI l), some (vI m), some (vI v), some (vI z), none, none, none] [] σ
  refine r_rngz hC (fun g0 => ?_)
  have r_l : -2147483648 ≤ l ∧ l ≤ 2147483647 := inR_le (g0 (vI l) (by simp))
  have r_m : -2147483648 ≤ m ∧ m ≤ 2147483647 := inR_le (g0 (vI m) (by simp))
  have r_v : -2147483648 ≤ v ∧ v ≤ 2147483647 := inR_le (g0 (vI v) (by simp))
  have r_z : -2147483648 ≤ z ∧ z ≤ 2147483647 := inR_le (g0 (vI z) (by simp))
  refine r_aload_n hC dX5_burst_0 rfl ?_
  refine r_iload_n hC dX5_burst_1 rfl ?_
  refine z_inv1 hM dX5_burst_2 vl_RX5_123 rfl rfl rfl (Nat.le_of_ble_eq_true rfl) (Nat.le_of_ble_eq_true rfl) ?_
  refine x_openLane (fun h1 => ?_) (fun h1 => ?_)
  · -- h1
    refine r_astore hC dX5_burst_5 rfl ?_
    refine r_aload hC dX5_burst_7 rfl ?_
    refine r_ifnullR hC dX5_burst_9 ?_
    refine r_iload_n hC dX5_burst_12 rfl ?_
    refine r_iconst hC dX5_burst_13 rfl ?_
    refine r_bipush hC dX5_burst_14 rfl ?_
    refine z_ins3 hM dX5_burst_16 tl_RX5_59 rfl (Nat.le_of_ble_eq_true rfl) (Nat.le_of_ble_eq_true rfl) ?_
    refine s_within (fun h3 => ?_) (fun h3 => ?_)
    · refine r_if_eq (tgt := 36) hC dX5_burst_19 rfl (fun h4 => by omega) (fun h4 => ?_)
      refine r_iload hC dX5_burst_22 rfl ?_
      refine r_sipush hC dX5_burst_24 rfl ?_
      refine r_sipush hC dX5_burst_27 rfl ?_
      refine z_ins3 hM dX5_burst_30 tl_RX5_59 rfl (Nat.le_of_ble_eq_true rfl) (Nat.le_of_ble_eq_true rfl) ?_
      refine s_within (fun h6 => ?_) (fun h6 => ?_)
      · refine r_if_ne (tgt := 38) hC dX5_burst_33 rfl (fun h7 => ?_) (fun h7 => by omega)
        refine r_iload_n hC dX5_burst_38 rfl ?_
        refine z_ins1 hM dX5_burst_39 tl_RX5_130 rfl (Nat.le_of_ble_eq_true rfl) (Nat.le_of_ble_eq_true rfl) ?_
        refine s_isValue (fun h9 => ?_) (fun h9 => ?_)
        · refine r_if_eq (tgt := 72) hC dX5_burst_42 rfl (fun h10 => by omega) (fun h10 => ?_)
          refine r_iload_n hC dX5_burst_45 rfl ?_
          refine r_iload_n hC dX5_burst_46 rfl ?_
          refine r_iconst hC dX5_burst_47 rfl ?_
          refine r_isubE hC ((m - 1)) dX5_burst_48 (by omega) (by unfold inR; omega) ?_
          refine r_iload hC dX5_burst_49 rfl ?_
          have m11 := mul_bd (a := (m - 1)) (b := z) (A := 39) (B := 1000) (by omega) (by omega) (by omega) (by omega)
          refine r_imulE hC (((m - 1) * z)) dX5_burst_51 (by omega) (by unfold inR; omega) ?_
          refine r_iaddE hC ((v + ((m - 1) * z))) dX5_burst_52 (by omega) (by unfold inR; omega) ?_
          refine z_ins1 hM dX5_burst_53 tl_RX5_130 rfl (Nat.le_of_ble_eq_true rfl) (Nat.le_of_ble_eq_true rfl) ?_
          refine s_isValue (fun h13 => ?_) (fun h13 => ?_)
          · refine r_if_eq (tgt := 72) hC dX5_burst_56 rfl (fun h14 => by omega) (fun h14 => ?_)
            refine r_aload hC dX5_burst_59 rfl ?_
            refine z_getI (jz := 10) hM dX5_burst_61 fl_RX5_157 rfl rfl rfl (fun v15 h_v15 o_v15 t_v15 => ?_)
            have w_v15 := ((t_v15 (Or.inl (by simp [Tb]))).trans (rfl)).symm
            subst w_v15
            refine r_iload_n hC dX5_burst_64 rfl ?_
            refine r_iadd hC dX5_burst_65 ?_
            have f16 := inR_le (inR_wr ((σ 7 l 10) + m))
            refine z_ins1 hM dX5_burst_66 tl_RX5_127 rfl (Nat.le_of_ble_eq_true rfl) (Nat.le_of_ble_eq_true rfl) ?_
            refine s_isTime (fun h18 => ?_) (fun h18 => ?_)
            · refine r_if_ne (tgt := 74) hC dX5_burst_69 rfl (fun h19 => ?_) (fun h19 => by omega)
              refine r_aload hC dX5_burst_74 rfl ?_
              refine z_getI (jz := 3) hM dX5_burst_76 fl_RX5_160 rfl rfl rfl (fun v20 h_v20 o_v20 t_v20 => ?_)
              have w_v20 := ((t_v20 (Or.inl (by simp [Tb]))).trans (rfl)).symm
              subst w_v20
              refine r_iconst hC dX5_burst_79 rfl ?_
              refine r_icmp_eq (tgt := 97) hC dX5_burst_80 rfl (fun h21 => ?_) (fun h21 => ?_)
              · refine r_iconst hC dX5_burst_97 rfl ?_
                refine r_istore hC dX5_burst_98 rfl ?_
                have L100 : ∀ (n100 : Nat) (w22 : Int) (ρ23 : Mm), 0 ≤ w22 ∧ w22 ≤ 40 → ((w22) ≤ m) → 40 - w22 < (n100 : Int) → (bst l z (m - (w22)).toNat (v + (w22) * z) ρ23 = bst l z m.toNat v σ) → (CI ρ23) → (ρ23 7 l 3 = σ 7 l 3) → (σ 7 l 3 ≠ 1 → ρ23 7 l 6 + m - (w22) ≤ 120) → K 100 [some (vR 2 0), some (vI l), some (vI m), some (vI v), some (vI z), some (vR 7 l), some (vI w22), none] [] ρ23 := by
                  intro n100
                  induction n100 with
                  | zero => intro w22 ρ23 f_w22 i0_100 hm  m0_100 m1_100 m2_100 m3_100; omega
                  | succ n100 ih100 =>
                    intro w22 ρ23 f_w22 i0_100 hm100  m0_100 m1_100 m2_100 m3_100
                    refine r_iload hC dX5_burst_100 rfl ?_
                    refine r_iload_n hC dX5_burst_102 rfl ?_
                    refine r_icmp_ge (tgt := 144) hC dX5_burst_103 rfl (fun h24 => ?_) (fun h24 => ?_)
                    · refine r_aload_n hC dX5_burst_144 rfl ?_
                      refine z_inv0 hM dX5_burst_145 vl_RX5_151 rfl rfl rfl (Nat.le_of_ble_eq_true rfl) (Nat.le_of_ble_eq_true rfl) ?_
                      refine x_noteMost ?_
                      refine r_aload hC dX5_burst_148 rfl ?_
                      refine z_getI (jz := 6) hM dX5_burst_150 fl_RX5_154 rfl rfl rfl (fun v25 h_v25 o_v25 t_v25 => ?_)
                      have w_v25 := ((t_v25 (Or.inl (by simp [Tb]))).trans ((ntM_ne (by omega)).trans (rfl))).symm
                      subst w_v25
                      have q_v25 : 0 ≤ (ρ23 7 l 6) ∧ (ρ23 7 l 6) ≤ 121 := o_v25.1 rfl
                      refine y_iret hK rfl dX5_burst_153 ?_
                      have hM : buM σ l m v z = (ntM ρ23) := by
                        have e0 : bst l z m.toNat v σ = ρ23 := by
                          rw [← m0_100, show (m - w22).toNat = 0 from by omega]
                          rfl
                        unfold buM
                        rw [if_pos (by omega), e0]
                      rw [hM] at k
                      have hR : buR σ l m v z = (ρ23 7 l 6) := by
                        unfold buR
                        rw [if_pos (by omega), hM]
                        exact ntM_ne (by omega)
                      rw [hR] at k
                      exact k
                    · refine r_aload hC dX5_burst_106 rfl ?_
                      refine z_getI (jz := 10) hM dX5_burst_108 fl_RX5_157 rfl rfl rfl (fun v26 h_v26 o_v26 t_v26 => ?_)
                      have w_v26 := ((t_v26 (Or.inl (by simp [Tb]))).trans (rfl)).symm
                      subst w_v26
                      refine r_iconst hC dX5_burst_111 rfl ?_
                      refine r_iadd hC dX5_burst_112 ?_
                      have f27 := inR_le (inR_wr ((ρ23 7 l 10) + 1))
                      refine r_istore hC dX5_burst_113 rfl ?_
                      refine r_aload_n hC dX5_burst_115 rfl ?_
                      refine r_aload hC dX5_burst_116 rfl ?_
                      refine r_iload hC dX5_burst_118 rfl ?_
                      refine z_inv2 hM dX5_burst_120 vl_RX5_143 rfl rfl rfl (Nat.le_of_ble_eq_true rfl) (Nat.le_of_ble_eq_true rfl) ?_
                      refine x_giveC m1_100 (by omega) (by omega) ?_
                      refine r_aload_n hC dX5_burst_123 rfl ?_
                      refine r_aload hC dX5_burst_124 rfl ?_
                      refine r_iload hC dX5_burst_126 rfl ?_
                      refine r_iload_n hC dX5_burst_128 rfl ?_
                      refine r_iload hC dX5_burst_129 rfl ?_
                      refine r_iload hC dX5_burst_131 rfl ?_
                      have m28 := mul_bd (a := w22) (b := z) (A := 39) (B := 1000) (by omega) (by omega) (by omega) (by omega)
                      refine r_imulE hC ((w22 * z)) dX5_burst_133 (by omega) (by unfold inR; omega) ?_
                      refine r_iaddE hC ((v + (w22 * z))) dX5_burst_134 (by omega) (by unfold inR; omega) ?_
                      refine z_inv3 hM dX5_burst_135 vl_RX5_147 rfl rfl rfl (Nat.le_of_ble_eq_true rfl) (Nat.le_of_ble_eq_true rfl) ?_
                      have lb := lin_btw (v := v) (s := z) (i := w22) (m := (m - 1)) (by omega) (by omega) (by omega) (by omega)
                      refine x_placeC (CI.gv m1_100) (by omega) (by omega) (by omega) ?_
                      have u3_135 : (gvM ρ23 l (wr ((ρ23 7 l 10) + 1))) 7 l 3 = (ρ23 7 l 3) := ((gv_7 m1_100 (by omega) (by omega)).trans (rfl))
                      have u6_135 : (gvM ρ23 l (wr ((ρ23 7 l 10) + 1))) 7 l 6 = (ρ23 7 l 6) := ((gv_7 m1_100 (by omega) (by omega)).trans (rfl))
                      have nf_135 : ¬ fuV (gvM ρ23 l (wr ((ρ23 7 l 10) + 1))) l := by unfold fuV; omega
                      refine r_iincE hC ((w22 + 1)) dX5_burst_138 rfl rfl (by omega) (by unfold inR; omega) ?_
                      refine r_goto (tgt := 100) hC dX5_burst_141 rfl ?_
                      refine r_forget hC (ls2 := [some (vR 2 0), some (vI l), some (vI m), some (vI v), some (vI z), some (vR 7 l), some (vI (w22 + 1)), none]) (lsub_some (lsub_some (lsub_some (lsub_some (lsub_some (lsub_some (lsub_some (lsub_none lsub_nil)))))))) ?_
                      exact ih100 ((w22 + 1)) (plM (gvM ρ23 l (wr ((ρ23 7 l 10) + 1))) l (wr ((ρ23 7 l 10) + 1)) (v + (w22 * z))) (by omega) (by omega) (by omega)  (by have q := m0_100; rw [show (m - w22).toNat = (m - (w22 + 1)).toNat + 1 from by omega, bst_s] at q; rw [show v + (w22 + 1) * z = v + w22 * z + z from by rw [Int.add_mul]; omega]; exact q) ((CI.pl (CI.gv m1_100) (by omega) (by omega) nf_135)) (((plM_nx (by unfold PS; omega)).trans ((gv_7 m1_100 (by omega) (by omega)).trans (rfl))).trans m2_100) (by have hp := pl_6 (i := l) (t := (wr ((ρ23 7 l 10) + 1))) (v := (v + (w22 * z))) (CI.gv m1_100 (i := l) (t := (wr ((ρ23 7 l 10) + 1)))) (by omega) (by omega); rw [gv_7 m1_100 (by omega) (by omega)] at hp; omega)
                exact L100 42 (0) σ (by omega) (by omega) (by omega)  (by rw [show (m - 0).toNat = m.toNat from by omega, show v + 0 * z = v from by omega]) (hCI) (rfl) (by omega)
              · refine r_aload hC dX5_burst_83 rfl ?_
                refine z_getI (jz := 6) hM dX5_burst_85 fl_RX5_154 rfl rfl rfl (fun v29 h_v29 o_v29 t_v29 => ?_)
                have w_v29 := ((t_v29 (Or.inl (by simp [Tb]))).trans (rfl)).symm
                subst w_v29
                have q_v29 : 0 ≤ (σ 7 l 6) ∧ (σ 7 l 6) ≤ 121 := o_v29.1 rfl
                refine r_iload_n hC dX5_burst_88 rfl ?_
                refine r_iaddE hC (((σ 7 l 6) + m)) dX5_burst_89 (by omega) (by unfold inR; omega) ?_
                refine r_bipush hC dX5_burst_90 rfl ?_
                refine r_icmp_le (tgt := 97) hC dX5_burst_92 rfl (fun h30 => ?_) (fun h30 => ?_)
                · refine r_iconst hC dX5_burst_97 rfl ?_
                  refine r_istore hC dX5_burst_98 rfl ?_
                  have L100 : ∀ (n100 : Nat) (w31 : Int) (ρ32 : Mm), 0 ≤ w31 ∧ w31 ≤ 40 → ((w31) ≤ m) → 40 - w31 < (n100 : Int) → (bst l z (m - (w31)).toNat (v + (w31) * z) ρ32 = bst l z m.toNat v σ) → (CI ρ32) → (ρ32 7 l 3 = σ 7 l 3) → (σ 7 l 3 ≠ 1 → ρ32 7 l 6 + m - (w31) ≤ 120) → K 100 [some (vR 2 0), some (vI l), some (vI m), some (vI v), some (vI z), some (vR 7 l), some (vI w31), none] [] ρ32 := by
                    intro n100
                    induction n100 with
                    | zero => intro w31 ρ32 f_w31 i0_100 hm  m0_100 m1_100 m2_100 m3_100; omega
                    | succ n100 ih100 =>
                      intro w31 ρ32 f_w31 i0_100 hm100  m0_100 m1_100 m2_100 m3_100
                      refine r_iload hC dX5_burst_100 rfl ?_
                      refine r_iload_n hC dX5_burst_102 rfl ?_
                      refine r_icmp_ge (tgt := 144) hC dX5_burst_103 rfl (fun h33 => ?_) (fun h33 => ?_)
                      · refine r_aload_n hC dX5_burst_144 rfl ?_
                        refine z_inv0 hM dX5_burst_145 vl_RX5_151 rfl rfl rfl (Nat.le_of_ble_eq_true rfl) (Nat.le_of_ble_eq_true rfl) ?_
                        refine x_noteMost ?_
                        refine r_aload hC dX5_burst_148 rfl ?_
                        refine z_getI (jz := 6) hM dX5_burst_150 fl_RX5_154 rfl rfl rfl (fun v34 h_v34 o_v34 t_v34 => ?_)
                        have w_v34 := ((t_v34 (Or.inl (by simp [Tb]))).trans ((ntM_ne (by omega)).trans (rfl))).symm
                        subst w_v34
                        have q_v34 : 0 ≤ (ρ32 7 l 6) ∧ (ρ32 7 l 6) ≤ 121 := o_v34.1 rfl
                        refine y_iret hK rfl dX5_burst_153 ?_
                        have hM : buM σ l m v z = (ntM ρ32) := by
                          have e0 : bst l z m.toNat v σ = ρ32 := by
                            rw [← m0_100, show (m - w31).toNat = 0 from by omega]
                            rfl
                          unfold buM
                          rw [if_pos (by omega), e0]
                        rw [hM] at k
                        have hR : buR σ l m v z = (ρ32 7 l 6) := by
                          unfold buR
                          rw [if_pos (by omega), hM]
                          exact ntM_ne (by omega)
                        rw [hR] at k
                        exact k
                      · refine r_aload hC dX5_burst_106 rfl ?_
                        refine z_getI (jz := 10) hM dX5_burst_108 fl_RX5_157 rfl rfl rfl (fun v35 h_v35 o_v35 t_v35 => ?_)
                        have w_v35 := ((t_v35 (Or.inl (by simp [Tb]))).trans (rfl)).symm
                        subst w_v35
                        refine r_iconst hC dX5_burst_111 rfl ?_
                        refine r_iadd hC dX5_burst_112 ?_
                        have f36 := inR_le (inR_wr ((ρ32 7 l 10) + 1))
                        refine r_istore hC dX5_burst_113 rfl ?_
                        refine r_aload_n hC dX5_burst_115 rfl ?_
                        refine r_aload hC dX5_burst_116 rfl ?_
                        refine r_iload hC dX5_burst_118 rfl ?_
                        refine z_inv2 hM dX5_burst_120 vl_RX5_143 rfl rfl rfl (Nat.le_of_ble_eq_true rfl) (Nat.le_of_ble_eq_true rfl) ?_
                        refine x_giveC m1_100 (by omega) (by omega) ?_
                        refine r_aload_n hC dX5_burst_123 rfl ?_
                        refine r_aload hC dX5_burst_124 rfl ?_
                        refine r_iload hC dX5_burst_126 rfl ?_
                        refine r_iload_n hC dX5_burst_128 rfl ?_
                        refine r_iload hC dX5_burst_129 rfl ?_
                        refine r_iload hC dX5_burst_131 rfl ?_
                        have m37 := mul_bd (a := w31) (b := z) (A := 39) (B := 1000) (by omega) (by omega) (by omega) (by omega)
                        refine r_imulE hC ((w31 * z)) dX5_burst_133 (by omega) (by unfold inR; omega) ?_
                        refine r_iaddE hC ((v + (w31 * z))) dX5_burst_134 (by omega) (by unfold inR; omega) ?_
                        refine z_inv3 hM dX5_burst_135 vl_RX5_147 rfl rfl rfl (Nat.le_of_ble_eq_true rfl) (Nat.le_of_ble_eq_true rfl) ?_
                        have lb := lin_btw (v := v) (s := z) (i := w31) (m := (m - 1)) (by omega) (by omega) (by omega) (by omega)
                        refine x_placeC (CI.gv m1_100) (by omega) (by omega) (by omega) ?_
                        have u3_135 : (gvM ρ32 l (wr ((ρ32 7 l 10) + 1))) 7 l 3 = (ρ32 7 l 3) := ((gv_7 m1_100 (by omega) (by omega)).trans (rfl))
                        have u6_135 : (gvM ρ32 l (wr ((ρ32 7 l 10) + 1))) 7 l 6 = (ρ32 7 l 6) := ((gv_7 m1_100 (by omega) (by omega)).trans (rfl))
                        have nf_135 : ¬ fuV (gvM ρ32 l (wr ((ρ32 7 l 10) + 1))) l := by unfold fuV; omega
                        refine r_iincE hC ((w31 + 1)) dX5_burst_138 rfl rfl (by omega) (by unfold inR; omega) ?_
                        refine r_goto (tgt := 100) hC dX5_burst_141 rfl ?_
                        refine r_forget hC (ls2 := [some (vR 2 0), some (vI l), some (vI m), some (vI v), some (vI z), some (vR 7 l), some (vI (w31 + 1)), none]) (lsub_some (lsub_some (lsub_some (lsub_some (lsub_some (lsub_some (lsub_some (lsub_none lsub_nil)))))))) ?_
                        exact ih100 ((w31 + 1)) (plM (gvM ρ32 l (wr ((ρ32 7 l 10) + 1))) l (wr ((ρ32 7 l 10) + 1)) (v + (w31 * z))) (by omega) (by omega) (by omega)  (by have q := m0_100; rw [show (m - w31).toNat = (m - (w31 + 1)).toNat + 1 from by omega, bst_s] at q; rw [show v + (w31 + 1) * z = v + w31 * z + z from by rw [Int.add_mul]; omega]; exact q) ((CI.pl (CI.gv m1_100) (by omega) (by omega) nf_135)) (((plM_nx (by unfold PS; omega)).trans ((gv_7 m1_100 (by omega) (by omega)).trans (rfl))).trans m2_100) (by have hp := pl_6 (i := l) (t := (wr ((ρ32 7 l 10) + 1))) (v := (v + (w31 * z))) (CI.gv m1_100 (i := l) (t := (wr ((ρ32 7 l 10) + 1)))) (by omega) (by omega); rw [gv_7 m1_100 (by omega) (by omega)] at hp; omega)
                  exact L100 42 (0) σ (by omega) (by omega) (by omega)  (by rw [show (m - 0).toNat = m.toNat from by omega, show v + 0 * z = v from by omega]) (hCI) (rfl) (by omega)
                · refine r_iconst hC dX5_burst_95 rfl ?_
                  refine y_iret hK rfl dX5_burst_96 ?_
                  have hM : buM σ l m v z = σ := by
                    exact if_neg (by omega)
                  rw [hM] at k
                  have hR : buR σ l m v z = (-1) := by
                    exact if_neg (by omega)
                  rw [hR] at k
                  exact k
            · refine r_if_ne (tgt := 74) hC dX5_burst_69 rfl (fun h38 => by omega) (fun h38 => ?_)
              refine r_iconst hC dX5_burst_72 rfl ?_
              refine y_iret hK rfl dX5_burst_73 ?_
              have hM : buM σ l m v z = σ := by
                exact if_neg (by omega)
              rw [hM] at k
              have hR : buR σ l m v z = (-1) := by
                exact if_neg (by omega)
              rw [hR] at k
              exact k
          · refine r_if_eq (tgt := 72) hC dX5_burst_56 rfl (fun h39 => ?_) (fun h39 => by omega)
            refine r_iconst hC dX5_burst_72 rfl ?_
            refine y_iret hK rfl dX5_burst_73 ?_
            have hM : buM σ l m v z = σ := by
              exact if_neg (by omega)
            rw [hM] at k
            have hR : buR σ l m v z = (-1) := by
              exact if_neg (by omega)
            rw [hR] at k
            exact k
        · refine r_if_eq (tgt := 72) hC dX5_burst_42 rfl (fun h40 => ?_) (fun h40 => by omega)
          refine r_iconst hC dX5_burst_72 rfl ?_
          refine y_iret hK rfl dX5_burst_73 ?_
          have hM : buM σ l m v z = σ := by
            exact if_neg (by omega)
          rw [hM] at k
          have hR : buR σ l m v z = (-1) := by
            exact if_neg (by omega)
          rw [hR] at k
          exact k
      · refine r_if_ne (tgt := 38) hC dX5_burst_33 rfl (fun h41 => by omega) (fun h41 => ?_)
        refine r_iconst hC dX5_burst_36 rfl ?_
        refine y_iret hK rfl dX5_burst_37 ?_
        have hM : buM σ l m v z = σ := by
          exact if_neg (by omega)
        rw [hM] at k
        have hR : buR σ l m v z = (-1) := by
          exact if_neg (by omega)
        rw [hR] at k
        exact k
    · refine r_if_eq (tgt := 36) hC dX5_burst_19 rfl (fun h42 => ?_) (fun h42 => by omega)
      refine r_iconst hC dX5_burst_36 rfl ?_
      refine y_iret hK rfl dX5_burst_37 ?_
      have hM : buM σ l m v z = σ := by
        exact if_neg (by omega)
      rw [hM] at k
      have hR : buR σ l m v z = (-1) := by
        exact if_neg (by omega)
      rw [hR] at k
      exact k
  · -- h1
    refine r_astoreN hC dX5_burst_5 rfl ?_
    refine r_aloadN hC dX5_burst_7 rfl ?_
    refine r_ifnullN (tgt := 36) hC dX5_burst_9 rfl ?_
    refine r_iconst hC dX5_burst_36 rfl ?_
    refine y_iret hK rfl dX5_burst_37 ?_
    have hM : buM σ l m v z = σ := by
      exact if_neg (by omega)
    rw [hM] at k
    have hR : buR σ l m v z = (-1) := by
      exact if_neg (by omega)
    rw [hR] at k
    exact k
theorem x_dropC {ec : Bool} {d : Nat} {P : Option Vl → Mm → Prop} {σ : Mm} {i : Int} (hC : CI σ) (b_i : 0 ≤ i ∧ i ≤ 3) (h1 : 1 ≤ σ 7 i 6) (k : P none (dpM σ i)) : WT (true, false, ec) (d + 5) 68 [vR 2 0, vR 7 i] σ P := x_dropOldest ⟨b_i.1, by omega⟩ (hC.1 i b_i.1 b_i.2) (hC.2.1 i b_i.1 (by omega)) h1 (by have := hC.h7 (l := i) b_i.1 (by omega); omega) k
theorem dpN_s {i : Int} {n : Nat} {V : Mm} : dpN i (n + 1) V = dpN i n (dpM V i) := rfl
theorem x_leave {ec : Bool} {d : Nat} {P : Option Vl → Mm → Prop} {σ : Mm} {l m : Int}  (hCI : CI σ)  (k : P (some (vI (leR σ l m))) (leM σ l m)) : WT (true, false, ec) (d + 6) 63 [vR 2 0, vI l, vI m] σ P := by
  refine WT_in fun K hK => ?_
  have hK : StpY (true, false, ec) cX5_leave RX5 (some .int) (WT (true, false, ec) (d + 5)) P K := hK
  have hM := hK.1
  have hC := hK.1.1
  show K 0 [some (vR 2 0), some (vI l), some (vI m), none, none] [] σ
  refine r_rngz hC (fun g0 => ?_)
  have r_l : -2147483648 ≤ l ∧ l ≤ 2147483647 := inR_le (g0 (vI l) (by simp))
  have r_m : -2147483648 ≤ m ∧ m ≤ 2147483647 := inR_le (g0 (vI m) (by simp))
  have h6L : 0 ≤ l → l ≤ 3 → 0 ≤ σ 7 l 6 ∧ σ 7 l 6 ≤ 120 := fun a b => hCI.h7 a (by omega)
  refine r_aload_n hC dX5_leave_0 rfl ?_
  refine r_iload_n hC dX5_leave_1 rfl ?_
  refine z_inv1 hM dX5_leave_2 vl_RX5_123 rfl rfl rfl (Nat.le_of_ble_eq_true rfl) (Nat.le_of_ble_eq_true rfl) ?_
  refine x_openLane (fun h1 => ?_) (fun h1 => ?_)
  · -- h1
    refine r_astore_n hC dX5_leave_5 rfl ?_
    refine r_aload_n hC dX5_leave_6 rfl ?_
    refine r_ifnullR hC dX5_leave_7 ?_
    refine r_iload_n hC dX5_leave_10 rfl ?_
    refine r_iconst hC dX5_leave_11 rfl ?_
    refine r_aload_n hC dX5_leave_12 rfl ?_
    refine z_getI (jz := 6) hM dX5_leave_13 fl_RX5_154 rfl rfl rfl (fun v2 h_v2 o_v2 t_v2 => ?_)
    have w_v2 := ((t_v2 (Or.inl (by simp [Tb]))).trans (rfl)).symm
    subst w_v2
    have q_v2 : 0 ≤ (σ 7 l 6) ∧ (σ 7 l 6) ≤ 121 := o_v2.1 rfl
    refine z_ins3 hM dX5_leave_16 tl_RX5_59 rfl (Nat.le_of_ble_eq_true rfl) (Nat.le_of_ble_eq_true rfl) ?_
    refine s_within (fun h4 => ?_) (fun h4 => ?_)
    · refine r_if_ne (tgt := 24) hC dX5_leave_19 rfl (fun h5 => ?_) (fun h5 => by omega)
      refine r_iconst hC dX5_leave_24 rfl ?_
      refine r_istore hC dX5_leave_25 rfl ?_
      have L27 : ∀ (n27 : Nat) (w6 : Int) (ρ7 : Mm), 0 ≤ w6 ∧ w6 ≤ 121 → ((w6) ≤ m) → 121 - w6 < (n27 : Int) → (dpN l (m - (w6)).toNat ρ7 = dpN l (m).toNat σ) → (CI ρ7) → (ρ7 7 l 6 = σ 7 l 6 - (w6)) → K 27 [some (vR 2 0), some (vI l), some (vI m), some (vR 7 l), some (vI w6)] [] ρ7 := by
        intro n27
        induction n27 with
        | zero => intro w6 ρ7 f_w6 i0_27 hm  m0_27 m1_27 m2_27; omega
        | succ n27 ih27 =>
          intro w6 ρ7 f_w6 i0_27 hm27  m0_27 m1_27 m2_27
          refine r_iload hC dX5_leave_27 rfl ?_
          refine r_iload_n hC dX5_leave_29 rfl ?_
          refine r_icmp_ge (tgt := 44) hC dX5_leave_30 rfl (fun h8 => ?_) (fun h8 => ?_)
          · refine r_aload_n hC dX5_leave_44 rfl ?_
            refine z_getI (jz := 6) hM dX5_leave_45 fl_RX5_154 rfl rfl rfl (fun v9 h_v9 o_v9 t_v9 => ?_)
            have w_v9 := ((t_v9 (Or.inl (by simp [Tb]))).trans (rfl)).symm
            subst w_v9
            have q_v9 : 0 ≤ (ρ7 7 l 6) ∧ (ρ7 7 l 6) ≤ 121 := o_v9.1 rfl
            refine y_iret hK rfl dX5_leave_48 ?_
            have hM : leM σ l m = ρ7 := by
              have e0 : dpN l (m).toNat σ = ρ7 := by
                rw [← m0_27, show (m - w6).toNat = 0 from by omega]
                rfl
              unfold leM
              rw [if_pos (by omega), e0]
            rw [hM] at k
            have hR : leR σ l m = (ρ7 7 l 6) := by
              unfold leR
              rw [if_pos (by omega), hM]
            rw [hR] at k
            exact k
          · refine r_aload_n hC dX5_leave_33 rfl ?_
            refine r_aload_n hC dX5_leave_34 rfl ?_
            refine z_inv1 hM dX5_leave_35 vl_RX5_163 rfl rfl rfl (Nat.le_of_ble_eq_true rfl) (Nat.le_of_ble_eq_true rfl) ?_
            have u1_35 : 1 ≤ ρ7 7 l 6 := by omega
            refine x_dropC m1_27 (by omega) u1_35 ?_
            refine r_iincE hC ((w6 + 1)) dX5_leave_38 rfl rfl (by omega) (by unfold inR; omega) ?_
            refine r_goto (tgt := 27) hC dX5_leave_41 rfl ?_
            exact ih27 ((w6 + 1)) (dpM ρ7 l) (by omega) (by omega) (by omega)  (by have q := m0_27; rw [show (m - w6).toNat = (m - (w6 + 1)).toNat + 1 from by omega, dpN_s] at q; exact q) ((CI.dp m1_27 (by omega) (by omega) u1_35)) (by have q : (dpM ρ7 l) 7 l 6 = ((ρ7 7 l 6) - 1) := (dpM_6); omega)
      exact L27 123 (0) σ (by omega) (by omega) (by omega)  (by rw [show (m - 0).toNat = (m).toNat from by omega]) (hCI) (by omega)
    · refine r_if_ne (tgt := 24) hC dX5_leave_19 rfl (fun h10 => by omega) (fun h10 => ?_)
      refine r_iconst hC dX5_leave_22 rfl ?_
      refine y_iret hK rfl dX5_leave_23 ?_
      have hM : leM σ l m = σ := by
        exact if_neg (by omega)
      rw [hM] at k
      have hR : leR σ l m = (-1) := by
        exact if_neg (by omega)
      rw [hR] at k
      exact k
  · -- h1
    refine r_astoreN_n hC dX5_leave_5 rfl ?_
    refine r_aloadN_n hC dX5_leave_6 rfl ?_
    refine r_ifnullN (tgt := 22) hC dX5_leave_7 rfl ?_
    refine r_iconst hC dX5_leave_22 rfl ?_
    refine y_iret hK rfl dX5_leave_23 ?_
    have hM : leM σ l m = σ := by
      exact if_neg (by omega)
    rw [hM] at k
    have hR : leR σ l m = (-1) := by
      exact if_neg (by omega)
    rw [hR] at k
    exact k
theorem x_until {ec : Bool} {d : Nat} {P : Option Vl → Mm → Prop} {σ : Mm} {l t : Int}  (hCI : CI σ)  (k : P (some (vI (unR σ l t))) (unM σ l t)) : WT (true, false, ec) (d + 6) 64 [vR 2 0, vI l, vI t] σ P := by
  refine WT_in fun K hK => ?_
  have hK : StpY (true, false, ec) cX5_until RX5 (some .int) (WT (true, false, ec) (d + 5)) P K := hK
  have hM := hK.1
  have hC := hK.1.1
  show K 0 [some (vR 2 0), some (vI l), some (vI t), none, none, none] [] σ
  refine r_rngz hC (fun g0 => ?_)
  have r_l : -2147483648 ≤ l ∧ l ≤ 2147483647 := inR_le (g0 (vI l) (by simp))
  have r_t : -2147483648 ≤ t ∧ t ≤ 2147483647 := inR_le (g0 (vI t) (by simp))
  have h6L : 0 ≤ l → l ≤ 3 → 0 ≤ σ 7 l 6 ∧ σ 7 l 6 ≤ 120 := fun a b => hCI.h7 a (by omega)
  refine r_aload_n hC dX5_until_0 rfl ?_
  refine r_iload_n hC dX5_until_1 rfl ?_
  refine z_inv1 hM dX5_until_2 vl_RX5_123 rfl rfl rfl (Nat.le_of_ble_eq_true rfl) (Nat.le_of_ble_eq_true rfl) ?_
  refine x_openLane (fun h1 => ?_) (fun h1 => ?_)
  · -- h1
    refine r_astore_n hC dX5_until_5 rfl ?_
    refine r_aload_n hC dX5_until_6 rfl ?_
    refine r_ifnonnullR (tgt := 12) hC dX5_until_7 rfl ?_
    refine r_aload_n hC dX5_until_12 rfl ?_
    refine r_iload_n hC dX5_until_13 rfl ?_
    refine r_i2l hC dX5_until_14 ?_
    refine z_inv1 hM dX5_until_15 vl_RX5_167 rfl rfl rfl (Nat.le_of_ble_eq_true rfl) (Nat.le_of_ble_eq_true rfl) ?_
    refine x_heldUntil (by omega) (fun h2 => ?_)
    refine r_istore hC dX5_until_18 rfl ?_
    refine r_iconst hC dX5_until_20 rfl ?_
    refine r_istore hC dX5_until_21 rfl ?_
    have L23 : ∀ (n23 : Nat) (w3 : Int) (ρ4 : Mm), 0 ≤ w3 ∧ w3 ≤ 121 → ((w3) ≤ hU σ l t) → 121 - w3 < (n23 : Int) → (dpN l (hU σ l t - (w3)).toNat ρ4 = dpN l (hU σ l t).toNat σ) → (CI ρ4) → (ρ4 7 l 6 = σ 7 l 6 - (w3)) → K 23 [some (vR 2 0), some (vI l), some (vI t), some (vR 7 l), some (vI (hU σ l t)), some (vI w3)] [] ρ4 := by
      intro n23
      induction n23 with
      | zero => intro w3 ρ4 f_w3 i0_23 hm  m0_23 m1_23 m2_23; omega
      | succ n23 ih23 =>
        intro w3 ρ4 f_w3 i0_23 hm23  m0_23 m1_23 m2_23
        refine r_iload hC dX5_until_23 rfl ?_
        refine r_iload hC dX5_until_25 rfl ?_
        refine r_icmp_ge (tgt := 41) hC dX5_until_27 rfl (fun h5 => ?_) (fun h5 => ?_)
        · refine r_iload hC dX5_until_41 rfl ?_
          refine y_iret hK rfl dX5_until_43 ?_
          have hM : unM σ l t = ρ4 := by
            have e0 : dpN l (hU σ l t).toNat σ = ρ4 := by
              rw [← m0_23, show (hU σ l t - w3).toNat = 0 from by omega]
              rfl
            unfold unM
            rw [if_pos (by omega), e0]
          rw [hM] at k
          have hR : unR σ l t = (hU σ l t) := by
            unfold unR
            rw [if_pos (by omega)]
          rw [hR] at k
          exact k
        · refine r_aload_n hC dX5_until_30 rfl ?_
          refine r_aload_n hC dX5_until_31 rfl ?_
          refine z_inv1 hM dX5_until_32 vl_RX5_163 rfl rfl rfl (Nat.le_of_ble_eq_true rfl) (Nat.le_of_ble_eq_true rfl) ?_
          have u1_32 : 1 ≤ ρ4 7 l 6 := by omega
          refine x_dropC m1_23 (by omega) u1_32 ?_
          refine r_iincE hC ((w3 + 1)) dX5_until_35 rfl rfl (by omega) (by unfold inR; omega) ?_
          refine r_goto (tgt := 23) hC dX5_until_38 rfl ?_
          exact ih23 ((w3 + 1)) (dpM ρ4 l) (by omega) (by omega) (by omega)  (by have q := m0_23; rw [show (hU σ l t - w3).toNat = (hU σ l t - (w3 + 1)).toNat + 1 from by omega, dpN_s] at q; exact q) ((CI.dp m1_23 (by omega) (by omega) u1_32)) (by have q : (dpM ρ4 l) 7 l 6 = ((ρ4 7 l 6) - 1) := (dpM_6); omega)
    exact L23 123 (0) σ (by omega) (by omega) (by omega)  (by rw [show (hU σ l t - 0).toNat = (hU σ l t).toNat from by omega]) (hCI) (by omega)
  · -- h1
    refine r_astoreN_n hC dX5_until_5 rfl ?_
    refine r_aloadN_n hC dX5_until_6 rfl ?_
    refine r_ifnonnullN hC dX5_until_7 ?_
    refine r_iconst hC dX5_until_10 rfl ?_
    refine y_iret hK rfl dX5_until_11 ?_
    have hM : unM σ l t = σ := by
      exact if_neg (by omega)
    rw [hM] at k
    have hR : unR σ l t = (-1) := by
      exact if_neg (by omega)
    rw [hR] at k
    exact k
theorem x_take {ec : Bool} {d : Nat} {P : Option Vl → Mm → Prop} {σ : Mm} {l x : Int}  (hCI : CI σ)  (k : P (some (vI (taR σ l x))) (taM σ l x)) : WT (true, false, ec) (d + 6) 65 [vR 2 0, vI l, vI x] σ P := by
  refine WT_in fun K hK => ?_
  have hK : StpY (true, false, ec) cX5_take RX5 (some .int) (WT (true, false, ec) (d + 5)) P K := hK
  have hM := hK.1
  have hC := hK.1.1
  show K 0 [some (vR 2 0), some (vI l), some (vI x), none, none] [] σ
  refine r_rngz hC (fun g0 => ?_)
  have r_l : -2147483648 ≤ l ∧ l ≤ 2147483647 := inR_le (g0 (vI l) (by simp))
  have r_x : -2147483648 ≤ x ∧ x ≤ 2147483647 := inR_le (g0 (vI x) (by simp))
  have h6L : 0 ≤ l → l ≤ 3 → 0 ≤ σ 7 l 6 ∧ σ 7 l 6 ≤ 120 := fun a b => hCI.h7 a (by omega)
  refine r_aload_n hC dX5_take_0 rfl ?_
  refine r_iload_n hC dX5_take_1 rfl ?_
  refine r_iload_n hC dX5_take_2 rfl ?_
  refine z_inv2 hM dX5_take_3 vl_RX5_171 rfl rfl rfl (Nat.le_of_ble_eq_true rfl) (Nat.le_of_ble_eq_true rfl) ?_
  refine x_laneHolding (fun h1 => ?_) (fun h1 => ?_)
  · refine r_astore_n hC dX5_take_6 rfl ?_
    refine r_aload_n hC dX5_take_7 rfl ?_
    refine r_ifnonnullR (tgt := 14) hC dX5_take_8 rfl ?_
    refine r_aload_n hC dX5_take_14 rfl ?_
    refine z_getR hM dX5_take_15 fl_RX5_176 rfl rfl (vld_of (n := 7) rfl (by omega) (by omega)) ?_
    refine r_iload_n hC dX5_take_18 rfl ?_
    refine z_iald hM dX5_take_19 rfl (by omega) (by omega) (fun v2 h_v2 o_v2 t_v2 => ?_)
    have w_v2 := ((t_v2 (Or.inl (by simp [Tb]))).trans (rfl)).symm
    subst w_v2
    have q_v2 : -1000 ≤ (σ 9 l x) ∧ (σ 9 l x) ≤ 1000 := o_v2
    refine r_istore hC dX5_take_20 rfl ?_
    refine r_aload_n hC dX5_take_22 rfl ?_
    refine r_iload_n hC dX5_take_23 rfl ?_
    refine z_inv1 hM dX5_take_24 vl_RX5_179 rfl rfl rfl (Nat.le_of_ble_eq_true rfl) (Nat.le_of_ble_eq_true rfl) ?_
    have z6_24 : σ 7 l 6 = (σ 7 l 6) := (rfl)
    refine x_remove (by omega) (by omega) (by omega) ?_
    refine r_aload_n hC dX5_take_27 rfl ?_
    refine r_aload_n hC dX5_take_28 rfl ?_
    refine z_inv1 hM dX5_take_29 vl_RX5_182 rfl rfl rfl (Nat.le_of_ble_eq_true rfl) (Nat.le_of_ble_eq_true rfl) ?_
    refine x_layAnewS (by omega) (((remM_ne (by omega)).trans (rfl)).trans (hCI.1 l (by omega) (by omega))) ?_
    rw [show (remM σ l x) 7 l 6 = ((σ 7 l 6) - 1) from (remM_6.trans (congrArg (· - 1) (rfl)))]
    refine r_iload hC dX5_take_32 rfl ?_
    refine y_iret hK rfl dX5_take_34 ?_
    have hM : taM σ l x = (rgM (lyM (remM σ l x) l ((σ 7 l 6) - 1)) l) := by
      exact if_pos (by omega)
    rw [hM] at k
    have hR : taR σ l x = (σ 9 l x) := by
      exact if_pos (by omega)
    rw [hR] at k
    exact k
  · refine r_astoreN_n hC dX5_take_6 rfl ?_
    refine r_aloadN_n hC dX5_take_7 rfl ?_
    refine r_ifnonnullN hC dX5_take_8 ?_
    refine r_ldc hC dX5_take_11 co_RX5_175 rfl ?_
    refine y_iret hK rfl dX5_take_13 ?_
    have hM : taM σ l x = σ := by
      exact if_neg (by omega)
    rw [hM] at k
    have hR : taR σ l x = (-2147483648) := by
      exact if_neg (by omega)
    rw [hR] at k
    exact k
theorem x_alter {ec : Bool} {d : Nat} {P : Option Vl → Mm → Prop} {σ : Mm} {l x v : Int}  (hCI : CI σ)  (k : P (some (vI (alR σ l x v))) (alM σ l x v)) : WT (true, false, ec) (d + 6) 66 [vR 2 0, vI l, vI x, vI v] σ P := by
  refine WT_in fun K hK => ?_
  have hK : StpY (true, false, ec) cX5_alter RX5 (some .boolean) (WT (true, false, ec) (d + 5)) P K := hK
  have hM := hK.1
  have hC := hK.1.1
  show K 0 [some (vR 2 0), some (vI l), some (vI x), some (vI v), none] [] σ
  refine r_rngz hC (fun g0 => ?_)
  have r_l : -2147483648 ≤ l ∧ l ≤ 2147483647 := inR_le (g0 (vI l) (by simp))
  have r_x : -2147483648 ≤ x ∧ x ≤ 2147483647 := inR_le (g0 (vI x) (by simp))
  have r_v : -2147483648 ≤ v ∧ v ≤ 2147483647 := inR_le (g0 (vI v) (by simp))
  have h6L : 0 ≤ l → l ≤ 3 → 0 ≤ σ 7 l 6 ∧ σ 7 l 6 ≤ 120 := fun a b => hCI.h7 a (by omega)
  refine r_aload_n hC dX5_alter_0 rfl ?_
  refine r_iload_n hC dX5_alter_1 rfl ?_
  refine r_iload_n hC dX5_alter_2 rfl ?_
  refine z_inv2 hM dX5_alter_3 vl_RX5_171 rfl rfl rfl (Nat.le_of_ble_eq_true rfl) (Nat.le_of_ble_eq_true rfl) ?_
  refine x_laneHolding (fun h1 => ?_) (fun h1 => ?_)
  · refine r_astore hC dX5_alter_6 rfl ?_
    refine r_aload hC dX5_alter_8 rfl ?_
    refine r_ifnullR hC dX5_alter_10 ?_
    refine r_iload_n hC dX5_alter_13 rfl ?_
    refine z_ins1 hM dX5_alter_14 tl_RX5_130 rfl (Nat.le_of_ble_eq_true rfl) (Nat.le_of_ble_eq_true rfl) ?_
    refine s_isValue (fun h3 => ?_) (fun h3 => ?_)
    · refine r_if_ne (tgt := 22) hC dX5_alter_17 rfl (fun h4 => ?_) (fun h4 => by omega)
      refine r_aload hC dX5_alter_22 rfl ?_
      refine z_getR hM dX5_alter_24 fl_RX5_176 rfl rfl (vld_of (n := 7) rfl (by omega) (by omega)) ?_
      refine r_iload_n hC dX5_alter_27 rfl ?_
      refine r_iload_n hC dX5_alter_28 rfl ?_
      refine z_iastT hM dX5_alter_29 rfl (by omega) (by omega) ⟨Or.inr (by simp [DL]), Or.inr (by simp [DF])⟩ (by first | trivial | (simp only [Okv]; omega) | (simp [Okv]; try omega)) ?_
      refine r_aload_n hC dX5_alter_30 rfl ?_
      refine r_aload hC dX5_alter_31 rfl ?_
      refine z_inv1 hM dX5_alter_33 vl_RX5_182 rfl rfl rfl (Nat.le_of_ble_eq_true rfl) (Nat.le_of_ble_eq_true rfl) ?_
      refine x_layAnewS (by omega) (((mu_ne (by omega)).trans (rfl)).trans (hCI.1 l (by omega) (by omega))) ?_
      rw [show (mu σ 9 l x v) 7 l 6 = (σ 7 l 6) from ((mu_ne (by omega)).trans (rfl))]
      refine r_iconst hC dX5_alter_36 rfl ?_
      refine y_zret hK rfl dX5_alter_37 (by omega) ?_
      have hM : alM σ l x v = (rgM (lyM (mu σ 9 l x v) l (σ 7 l 6)) l) := by
        exact if_pos (by omega)
      rw [hM] at k
      have hR : alR σ l x v = 1 := by
        exact if_pos (by omega)
      rw [hR] at k
      exact k
    · refine r_if_ne (tgt := 22) hC dX5_alter_17 rfl (fun h5 => by omega) (fun h5 => ?_)
      refine r_iconst hC dX5_alter_20 rfl ?_
      refine y_zret hK rfl dX5_alter_21 (by omega) ?_
      have hM : alM σ l x v = σ := by
        exact if_neg (by omega)
      rw [hM] at k
      have hR : alR σ l x v = 0 := by
        exact if_neg (by omega)
      rw [hR] at k
      exact k
  · refine r_astoreN hC dX5_alter_6 rfl ?_
    refine r_aloadN hC dX5_alter_8 rfl ?_
    refine r_ifnullN (tgt := 20) hC dX5_alter_10 rfl ?_
    refine r_iconst hC dX5_alter_20 rfl ?_
    refine y_zret hK rfl dX5_alter_21 (by omega) ?_
    have hM : alM σ l x v = σ := by
      exact if_neg (by omega)
    rw [hM] at k
    have hR : alR σ l x v = 0 := by
      exact if_neg (by omega)
    rw [hR] at k
    exact k
