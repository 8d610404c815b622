-- B: the class: cost
theorem x_cost {ec : Bool} {d : Nat} {P : Option Vl → Mm → Prop} {σ : Mm} {l m w : Int}  (hG : GI σ)  (k : ∀ ρ : Mm, (∀ (c : Nat) (x y : Int), ¬ (c = 11 ∧ x = 7) → ρ c x y = σ c x y) → P (some (vI (csR σ l m w))) ρ) : WT (true, false, ec) (d + 4) 96 [vR 2 0, vI l, vI m, vI w] σ P := by
  refine WT_in fun K hK => ?_
  have hK : StpY (true, false, ec) cX5_cost RX5 (some .int) (WT (true, false, ec) (d + 3)) P K := hK
  have hM := hK.1
  have hC := hK.1.1
  show K 0 [some (vR 2 0), some (vI l), some (vI m), some (vI w), none, none] [] σ
  refine r_rngz hC (fun g0 => ?_)
  have r_l : -2147483648 ≤ l ∧ l ≤ 2147483647 := inR_le (g0 (vI l) (by simp))
  have r_m : -2147483648 ≤ m ∧ m ≤ 2147483647 := inR_le (g0 (vI m) (by simp))
  have r_w : -2147483648 ≤ w ∧ w ≤ 2147483647 := inR_le (g0 (vI w) (by simp))
  refine r_aload_n hC dX5_cost_0 rfl ?_
  refine r_iload_n hC dX5_cost_1 rfl ?_
  refine z_inv1 hM dX5_cost_2 vl_RX5_123 rfl rfl rfl (Nat.le_of_ble_eq_true rfl) (Nat.le_of_ble_eq_true rfl) ?_
  refine x_openLane (fun h1 => ?_) (fun h1 => ?_)
  · -- h1
    refine r_astore hC dX5_cost_5 rfl ?_
    refine r_aload hC dX5_cost_7 rfl ?_
    refine r_ifnullR hC dX5_cost_9 ?_
    refine r_iload_n hC dX5_cost_12 rfl ?_
    refine r_iconst hC dX5_cost_13 rfl ?_
    refine r_sipush hC dX5_cost_14 rfl ?_
    refine z_ins3 hM dX5_cost_17 tl_RX5_59 rfl (Nat.le_of_ble_eq_true rfl) (Nat.le_of_ble_eq_true rfl) ?_
    refine s_within (fun h3 => ?_) (fun h3 => ?_)
    · refine r_if_eq (tgt := 32) hC dX5_cost_20 rfl (fun h4 => by omega) (fun h4 => ?_)
      refine r_iload_n hC dX5_cost_23 rfl ?_
      refine r_iconst hC dX5_cost_24 rfl ?_
      refine r_iconst hC dX5_cost_25 rfl ?_
      refine z_ins3 hM dX5_cost_26 tl_RX5_59 rfl (Nat.le_of_ble_eq_true rfl) (Nat.le_of_ble_eq_true rfl) ?_
      refine s_within (fun h6 => ?_) (fun h6 => ?_)
      · refine r_if_ne (tgt := 34) hC dX5_cost_29 rfl (fun h7 => ?_) (fun h7 => by omega)
        have h6_l := hG.1.h7 (l := l) (by omega) (by omega)
        refine r_aload_n hC dX5_cost_34 rfl ?_
        refine z_getR hM dX5_cost_35 fl_RX5_47 rfl rfl (vld_of (n := 8) rfl (by omega) (by omega)) ?_
        refine r_aload hC dX5_cost_38 rfl ?_
        refine z_getR hM dX5_cost_40 fl_RX5_189 rfl rfl (vld_of (n := 8) rfl (by omega) (by omega)) ?_
        refine z_inv1 hM dX5_cost_43 vl_RX5_300 rfl rfl rfl (Nat.le_of_ble_eq_true rfl) (Nat.le_of_ble_eq_true rfl) ?_
        refine x_copyFrom (by omega) (by omega) (by omega) ?_
        refine r_aload_n hC dX5_cost_46 rfl ?_
        refine z_getR hM dX5_cost_47 fl_RX5_47 rfl rfl (vld_of (n := 8) rfl (by omega) (by omega)) ?_
        refine r_iconst hC dX5_cost_50 rfl ?_
        refine z_putIT (jz := 5) hM dX5_cost_51 fw_RX5_304 rfl rfl rfl ⟨Or.inr (by simp [DL]), Or.inr (by simp [DF])⟩ (by first | trivial | (simp only [Okv]; omega) | (simp [Okv]; try omega)) ?_
        refine r_aload_n hC dX5_cost_54 rfl ?_
        refine z_getR hM dX5_cost_55 fl_RX5_47 rfl rfl (vld_of (n := 8) rfl (by omega) (by omega)) ?_
        refine r_iconst hC dX5_cost_58 rfl ?_
        refine z_putIT (jz := 6) hM dX5_cost_59 fw_RX5_307 rfl rfl rfl ⟨Or.inr (by simp [DL]), Or.inr (by simp [DF])⟩ (by first | trivial | (simp only [Okv]; omega) | (simp [Okv]; try omega)) ?_
        refine r_iconst hC dX5_cost_62 rfl ?_
        refine r_istore hC dX5_cost_63 rfl ?_
        have L65 : ∀ (n65 : Nat) (w8 : Int) (ρ9 : Mm), 0 ≤ w8 ∧ w8 ≤ 200 → ((w8) ≤ m) → 200 - w8 < (n65 : Int) → (∀ (c : Nat) (x y : Int), ¬ (c = 11 ∧ x = 7) → ρ9 c x y = σ c x y) → (∀ y : Int, 0 ≤ y → y ≤ 6 → ρ9 11 7 y = cst (cs0 σ l) ((w8)).toNat y) → K 65 [some (vR 2 0), some (vI l), some (vI m), some (vI w), some (vR 7 l), some (vI w8)] [] ρ9 := by
          intro n65
          induction n65 with
          | zero => intro w8 ρ9 f_w8 i0_65 hm  m0_65 m1_65; omega
          | succ n65 ih65 =>
            intro w8 ρ9 f_w8 i0_65 hm65  m0_65 m1_65
            refine r_iload hC dX5_cost_65 rfl ?_
            refine r_iload_n hC dX5_cost_67 rfl ?_
            refine r_icmp_ge (tgt := 84) hC dX5_cost_68 rfl (fun h10 => ?_) (fun h10 => ?_)
            · refine r_iload_n hC dX5_cost_84 rfl ?_
              refine r_if_ne (tgt := 98) hC dX5_cost_85 rfl (fun h11 => ?_) (fun h11 => ?_)
              · refine r_aload_n hC dX5_cost_98 rfl ?_
                refine z_getR hM dX5_cost_99 fl_RX5_47 rfl rfl (vld_of (n := 8) rfl (by omega) (by omega)) ?_
                refine z_getI (jz := 6) hM dX5_cost_102 fl_RX5_307 rfl rfl rfl (fun v12 h_v12 o_v12 t_v12 => ?_)
                have w_v12 := ((t_v12 (Or.inl (by simp [Tb]))).trans (rfl)).symm
                subst w_v12
                refine y_iret hK rfl dX5_cost_105 ?_
                have hRr : csR σ l m w = (ρ9 11 7 6) := by
                  unfold csR
                  rw [if_pos ⟨by unfold opV; omega, by omega, by omega⟩, if_neg (by omega), show m.toNat = (w8).toNat from by omega]
                  exact (m1_65 6 (by omega) (by omega)).symm
                rw [hRr] at k
                exact k _ m0_65
              · refine r_aload_n hC dX5_cost_88 rfl ?_
                refine z_getR hM dX5_cost_89 fl_RX5_47 rfl rfl (vld_of (n := 8) rfl (by omega) (by omega)) ?_
                refine z_getI (jz := 5) hM dX5_cost_92 fl_RX5_304 rfl rfl rfl (fun v13 h_v13 o_v13 t_v13 => ?_)
                have w_v13 := ((t_v13 (Or.inl (by simp [Tb]))).trans (rfl)).symm
                subst w_v13
                refine r_goto (tgt := 105) hC dX5_cost_95 rfl ?_
                refine y_iret hK rfl dX5_cost_105 ?_
                have hRr : csR σ l m w = (ρ9 11 7 5) := by
                  unfold csR
                  rw [if_pos ⟨by unfold opV; omega, by omega, by omega⟩, if_pos (by omega), show m.toNat = (w8).toNat from by omega]
                  exact (m1_65 5 (by omega) (by omega)).symm
                rw [hRr] at k
                exact k _ m0_65
            · refine r_aload_n hC dX5_cost_71 rfl ?_
              refine z_getR hM dX5_cost_72 fl_RX5_47 rfl rfl (vld_of (n := 8) rfl (by omega) (by omega)) ?_
              refine z_inv0 hM dX5_cost_75 vl_RX5_192 rfl rfl rfl (Nat.le_of_ble_eq_true rfl) (Nat.le_of_ble_eq_true rfl) ?_
              have fw := FIW (cst_FI (cs0_FI (hG.1.2.1 l (by omega) (by omega))) (w8).toNat) (by omega)
              have a0 := m1_65 0 (by omega) (by omega)
              have a1 := m1_65 1 (by omega) (by omega)
              have a2 := m1_65 2 (by omega) (by omega)
              have a3 := m1_65 3 (by omega) (by omega)
              refine x_addW (by omega) (by rw [a0, a1, a2, a3]; omega) ?_
              refine r_iincE hC ((w8 + 1)) dX5_cost_78 rfl rfl (by omega) (by unfold inR; omega) ?_
              refine r_goto (tgt := 65) hC dX5_cost_81 rfl ?_
              exact ih65 ((w8 + 1)) (adM ρ9 7) (by omega) (by omega) (by omega)  (fun c x y q => (adM_ne (by omega)).trans (m0_65 c x y q)) (fun y a b => by rw [cst_s _ (by omega)]; exact (su_at).trans (adR_cg6 m1_65 y a b))
        exact L65 202 (0) (mu (mu (su σ 11 7 (r7 (σ 11 l 0) (σ 11 l 1) (σ 11 l 2) (σ 11 l 3) (σ 11 l 4) (σ 11 l 5) (σ 11 l 6) (σ 11 7))) 11 7 5 0) 11 7 6 0) (by omega) (by omega) (by omega)  (fun c x y q => (mu_ne (by omega)).trans ((mu_ne (by omega)).trans (su_ne (by omega)))) (fun y a b => by rcases (by omega : y = 0 ∨ y = 1 ∨ y = 2 ∨ y = 3 ∨ y = 4 ∨ y = 5 ∨ y = 6) with rfl | rfl | rfl | rfl | rfl | rfl | rfl <;> rfl)
      · refine r_if_ne (tgt := 34) hC dX5_cost_29 rfl (fun h14 => by omega) (fun h14 => ?_)
        refine r_iconst hC dX5_cost_32 rfl ?_
        refine y_iret hK rfl dX5_cost_33 ?_
        have hRr : csR σ l m w = -1 := if_neg (by unfold csC opV; omega)
        rw [hRr] at k
        exact k _ (fun _ _ _ _ => rfl)
    · refine r_if_eq (tgt := 32) hC dX5_cost_20 rfl (fun h15 => ?_) (fun h15 => by omega)
      refine r_iconst hC dX5_cost_32 rfl ?_
      refine y_iret hK rfl dX5_cost_33 ?_
      have hRr : csR σ l m w = -1 := if_neg (by unfold csC opV; omega)
      rw [hRr] at k
      exact k _ (fun _ _ _ _ => rfl)
  · -- h1
    refine r_astoreN hC dX5_cost_5 rfl ?_
    refine r_aloadN hC dX5_cost_7 rfl ?_
    refine r_ifnullN (tgt := 32) hC dX5_cost_9 rfl ?_
    refine r_iconst hC dX5_cost_32 rfl ?_
    refine y_iret hK rfl dX5_cost_33 ?_
    have hRr : csR σ l m w = -1 := if_neg (by unfold csC opV; omega)
    rw [hRr] at k
    exact k _ (fun _ _ _ _ => rfl)
