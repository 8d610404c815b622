-- B: the class: what is asked with a fold, II
theorem x_woven_S {eb : Bool} {d : Nat} {P : Option Vl → Mm → Prop} {σ : Mm} {l o w : Int}  (hI : InF σ) (hG : GI σ)  (k : ∀ ρ : Mm, (∀ (c : Nat) (x y : Int), ¬ Fo c → ρ c x y = σ c x y) → InF ρ → P (some (vI (wvR σ l o w))) ρ) : WT (true, true, eb) (d + 5) 87 [vR 2 0, vI l, vI o, vI w] σ P := by
  refine WT_in fun K hK => ?_
  have hK : StpY (true, true, eb) cX5_woven RX5 (some .int) (WT (true, true, eb) (d + 4)) P K := hK
  have hM := hK.1
  have hC := hK.1.1
  show K 0 [some (vR 2 0), some (vI l), some (vI o), some (vI w), none, none, none, none, none, none] [] σ
  refine z_ok hM (fun hok => ?_)
  refine r_rngz hC (fun g0 => ?_)
  have r_l : -2147483648 ≤ l ∧ l ≤ 2147483647 := inR_le (g0 (vI l) (by simp))
  have r_o : -2147483648 ≤ o ∧ o ≤ 2147483647 := inR_le (g0 (vI o) (by simp))
  have r_w : -2147483648 ≤ w ∧ w ≤ 2147483647 := inR_le (g0 (vI w) (by simp))
  have hcl := hG.2.1.2.2.2.2.2.2.2
  have hrow := hG.2.1.2.2.1
  refine r_aload_n hC dX5_woven_0 rfl ?_
  refine r_iload_n hC dX5_woven_1 rfl ?_
  refine r_iload_n hC dX5_woven_2 rfl ?_
  refine z_inv2 hM dX5_woven_3 vl_RX5_248 rfl rfl rfl (Nat.le_of_ble_eq_true rfl) (Nat.le_of_ble_eq_true rfl) ?_
  refine x_laneWith (fun hl_3 => ?_) (fun hl_3 => ?_)
  · have h6_3 := hG.1.h7 (l := l) (by omega) (by omega)
    have hN_3 := numF_rng (σ 7 l 2)
    have hO_3 := (hG.2.1.2.2.2.1 l (by omega) (by omega)).2
    refine r_astore hC dX5_woven_6 rfl ?_
    refine r_aload_n hC dX5_woven_8 rfl ?_
    refine r_iload_n hC dX5_woven_9 rfl ?_
    refine z_inv1 hM dX5_woven_10 vl_RX5_123 rfl rfl rfl (Nat.le_of_ble_eq_true rfl) (Nat.le_of_ble_eq_true rfl) ?_
    refine x_openLane (fun hl_10 => ?_) (fun hl_10 => ?_)
    · have h6_10 := hG.1.h7 (l := o) (by omega) (by omega)
      have hN_10 := numF_rng (σ 7 o 2)
      have hO_10 := (hG.2.1.2.2.2.1 o (by omega) (by omega)).2
      refine r_astore hC dX5_woven_13 rfl ?_
      refine r_aload hC dX5_woven_15 rfl ?_
      refine r_ifnullR hC dX5_woven_17 ?_
      refine r_aload hC dX5_woven_20 rfl ?_
      refine r_ifnullR hC dX5_woven_22 ?_
      refine r_aload hC dX5_woven_25 rfl ?_
      refine z_getI (jz := 2) hM dX5_woven_27 fl_RX5_98 rfl rfl rfl (fun v1 h_v1 o_v1 t_v1 => ?_)
      have w_v1 := ((t_v1 (Or.inl (by simp [Tb]))).trans (rfl)).symm
      subst w_v1
      have q_v1 : 0 ≤ (σ 7 l 2) ∧ (σ 7 l 2) ≤ 9 := o_v1.2.2 rfl
      refine r_aload hC dX5_woven_30 rfl ?_
      refine z_getI (jz := 2) hM dX5_woven_32 fl_RX5_98 rfl rfl rfl (fun v2 h_v2 o_v2 t_v2 => ?_)
      have w_v2 := ((t_v2 (Or.inl (by simp [Tb]))).trans (rfl)).symm
      subst w_v2
      have q_v2 : 0 ≤ (σ 7 o 2) ∧ (σ 7 o 2) ≤ 9 := o_v2.2.2 rfl
      refine r_icmp_eq (tgt := 41) hC dX5_woven_35 rfl (fun h3 => ?_) (fun h3 => ?_)
      · refine r_aload_n hC dX5_woven_41 rfl ?_
        refine z_getR hM dX5_woven_42 fl_RX5_40 rfl rfl (vld_of (n := 1) rfl (by omega) (by omega)) ?_
        refine r_aload hC dX5_woven_45 rfl ?_
        refine z_getI (jz := 2) hM dX5_woven_47 fl_RX5_98 rfl rfl rfl (fun v4 h_v4 o_v4 t_v4 => ?_)
        have w_v4 := ((t_v4 (Or.inl (by simp [Tb]))).trans (rfl)).symm
        subst w_v4
        have q_v4 : 0 ≤ (σ 7 l 2) ∧ (σ 7 l 2) ≤ 9 := o_v4.2.2 rfl
        refine z_inv1 hM dX5_woven_50 vl_RX5_251 rfl rfl rfl (Nat.le_of_ble_eq_true rfl) (Nat.le_of_ble_eq_true rfl) ?_
        refine x_begin (by omega) rfl rfl rfl rfl rfl rfl rfl rfl rfl rfl (fun ρ5 g_ρ5 z_ρ5 => ?_)
        have t_ρ5 : ∀ (c : Nat) (p q : Int), ¬ Fo c → ρ5 c p q = σ c p q := fun c p q hc => (g_ρ5 c p q (by omega)).trans ((fun _ _ _ _ => rfl) c p q hc)
        refine r_iconst hC dX5_woven_53 rfl ?_
        refine r_istore hC dX5_woven_54 rfl ?_
        refine r_iconst hC dX5_woven_56 rfl ?_
        refine r_istore hC dX5_woven_57 rfl ?_
        refine r_aload hC dX5_woven_59 rfl ?_
        refine z_getI (jz := 6) hM dX5_woven_61 fl_RX5_154 rfl rfl rfl (fun v6 h_v6 o_v6 t_v6 => ?_)
        have w_v6 := ((t_v6 (Or.inl (by simp [Tb]))).trans (t_ρ5 7 l 6 (by decide))).symm
        subst w_v6
        have q_v6 : 0 ≤ (σ 7 l 6) ∧ (σ 7 l 6) ≤ 121 := o_v6.1 rfl
        refine r_aload hC dX5_woven_64 rfl ?_
        refine z_getI (jz := 6) hM dX5_woven_66 fl_RX5_154 rfl rfl rfl (fun v7 h_v7 o_v7 t_v7 => ?_)
        have w_v7 := ((t_v7 (Or.inl (by simp [Tb]))).trans (t_ρ5 7 o 6 (by decide))).symm
        subst w_v7
        have q_v7 : 0 ≤ (σ 7 o 6) ∧ (σ 7 o 6) ≤ 121 := o_v7.1 rfl
        refine r_iaddE hC (((σ 7 l 6) + (σ 7 o 6))) dX5_woven_69 (by omega) (by unfold inR; omega) ?_
        refine r_istore hC dX5_woven_70 rfl ?_
        have L72 : ∀ (n72 : Nat) (w8 w9 w10 : Int) (ρ11 : Mm), 0 ≤ w8 ∧ w8 ≤ 121 → 0 ≤ w9 ∧ w9 ≤ 242 → 0 ≤ w10 ∧ w10 ≤ 121 → ((w8) = wvI σ l o ((w8) + (w10)).toNat) → ((w9) = σ 7 l 6 + σ 7 o 6 - (w8) - (w10)) → ((w8) ≤ σ 7 l 6) → ((w10) ≤ σ 7 o 6) → w9 < (n72 : Int) → (∀ (c : Nat) (p q : Int), ¬ Fo c → ρ11 c p q = σ c p q) → (FRc ρ11 (σ 7 l 2) (wvU σ l o) ((w8 + w10).toNat)) → K 72 [some (vR 2 0), some (vI l), some (vI o), some (vI w), some (vR 7 l), some (vR 7 o), some (vI w8), some (vI w10), some (vI w9), none] [] ρ11 := by
          intro n72
          induction n72 with
          | zero => intro w8 w9 w10 ρ11 f_w8 f_w9 f_w10 i0_72 i1_72 i2_72 i3_72 hm  m0_72 m1_72; omega
          | succ n72 ih72 =>
            intro w8 w9 w10 ρ11 f_w8 f_w9 f_w10 i0_72 i1_72 i2_72 i3_72 hm72  m0_72 m1_72
            refine r_iload hC dX5_woven_72 rfl ?_
            refine r_if_le (tgt := 190) hC dX5_woven_74 rfl (fun h12 => ?_) (fun h12 => ?_)
            · refine r_aload_n hC dX5_woven_190 rfl ?_
              refine z_getR hM dX5_woven_191 fl_RX5_40 rfl rfl (vld_of (n := 1) rfl (by omega) (by omega)) ?_
              refine r_iload_n hC dX5_woven_194 rfl ?_
              refine z_inv1 hM dX5_woven_195 vl_RX5_273 rfl rfl rfl (Nat.le_of_ble_eq_true rfl) (Nat.le_of_ble_eq_true rfl) ?_
              refine x_number (n := (w8 + w10).toNat) (by omega) m1_72.1 m1_72.2.1 (by omega) m1_72 ?_
              rw [show ρ11 16 0 = σ 16 0 from funext fun y => m0_72 16 0 y (by decide), show ρ11 15 0 = σ 15 0 from funext fun y => m0_72 15 0 y (by decide)]
              refine y_iret hK rfl dX5_woven_198 ?_
              have hR : wvR σ l o w = (cm (σ 16 0) (σ 15 0) (σ 7 l 2) (wvU σ l o) (w8 + w10).toNat w) := by
                unfold wvR
                rw [if_pos (by unfold lkC2 lwC opV; omega), show (σ 7 l 6 + σ 7 o 6).toNat = (w8 + w10).toNat from by omega]
              rw [hR] at k
              exact k _ (m0_72) (FRc.inF m1_72 (fun j h0 h1 => by rw [m0_72 15 0 j (by decide)]; exact hcl j h0 h1))
            · refine r_iload hC dX5_woven_77 rfl ?_
              refine r_aload hC dX5_woven_79 rfl ?_
              refine z_getI (jz := 6) hM dX5_woven_81 fl_RX5_154 rfl rfl rfl (fun v13 h_v13 o_v13 t_v13 => ?_)
              have w_v13 := ((t_v13 (Or.inl (by simp [Tb]))).trans (m0_72 7 o 6 (by decide))).symm
              subst w_v13
              have q_v13 : 0 ≤ (σ 7 o 6) ∧ (σ 7 o 6) ≤ 121 := o_v13.1 rfl
              refine r_icmp_ge (tgt := 116) hC dX5_woven_84 rfl (fun h14 => ?_) (fun h14 => ?_)
              · refine r_iconst hC dX5_woven_116 rfl ?_
                refine r_goto (tgt := 121) hC dX5_woven_117 rfl ?_
                refine r_istore hC dX5_woven_121 rfl ?_
                refine r_aload_n hC dX5_woven_123 rfl ?_
                refine z_getR hM dX5_woven_124 fl_RX5_40 rfl rfl (vld_of (n := 1) rfl (by omega) (by omega)) ?_
                refine r_iload hC dX5_woven_127 rfl ?_
                refine r_if_eq (tgt := 143) hC dX5_woven_129 rfl (fun h15 => by omega) (fun h15 => ?_)
                refine r_aload hC dX5_woven_132 rfl ?_
                refine z_getR hM dX5_woven_134 fl_RX5_176 rfl rfl (vld_of (n := 7) rfl (by omega) (by omega)) ?_
                refine r_iload hC dX5_woven_137 rfl ?_
                refine z_iald hM dX5_woven_139 rfl (by omega) (by omega) (fun v16 h_v16 o_v16 t_v16 => ?_)
                have w_v16 := ((t_v16 (Or.inl (by simp [Tb]))).trans (m0_72 9 l w8 (by decide))).symm
                subst w_v16
                have q_v16 : -1000 ≤ (σ 9 l w8) ∧ (σ 9 l w8) ≤ 1000 := o_v16
                refine r_goto (tgt := 151) hC dX5_woven_140 rfl ?_
                refine z_inv1 hM dX5_woven_151 vl_RX5_253 rfl rfl rfl (Nat.le_of_ble_eq_true rfl) (Nat.le_of_ble_eq_true rfl) ?_
                refine x_append2 (u := (wvU σ l o)) (n := (w8 + w10).toNat) (wvU_y (i := w8) (k := w10) (by omega) (i0_72.trans (congrArg (wvI σ l o) (by omega))) (by unfold wvC; omega)) (by omega) (by omega) (by omega) (fun j h0 h1 => wvU_b h6_3 h6_10 (fun y a b => (hrow l y (by omega) (by omega) a b).2) (fun y a b => (hrow o y (by omega) (by omega) a b).2) h0 (by omega)) m1_72 (fun j h0 h1 => by rw [m0_72 15 0 j (by decide)]; exact hcl j h0 h1) (fun ρ17 g_ρ17 r_ρ17 => ?_)
                have t_ρ17 : ∀ (c : Nat) (p q : Int), ¬ Fo c → ρ17 c p q = σ c p q := fun c p q hc => (g_ρ17 c p q (by omega)).trans (m0_72 c p q hc)
                refine r_iload hC dX5_woven_154 rfl ?_
                refine r_iload hC dX5_woven_156 rfl ?_
                refine r_if_eq (tgt := 165) hC dX5_woven_158 rfl (fun h18 => by omega) (fun h18 => ?_)
                refine r_iconst hC dX5_woven_161 rfl ?_
                refine r_goto (tgt := 166) hC dX5_woven_162 rfl ?_
                refine r_iaddE hC ((w8 + 1)) dX5_woven_166 (by omega) (by unfold inR; omega) ?_
                refine r_istore hC dX5_woven_167 rfl ?_
                refine r_iload hC dX5_woven_169 rfl ?_
                refine r_iload hC dX5_woven_171 rfl ?_
                refine r_if_eq (tgt := 180) hC dX5_woven_173 rfl (fun h19 => by omega) (fun h19 => ?_)
                refine r_iconst hC dX5_woven_176 rfl ?_
                refine r_goto (tgt := 181) hC dX5_woven_177 rfl ?_
                refine r_iaddE hC (w10) dX5_woven_181 (by omega) (by unfold inR; omega) ?_
                refine r_istore hC dX5_woven_182 rfl ?_
                show K _ [_, _, _, _, _, _, _, _, _, _] _ _
                refine r_iincE hC ((w9 - 1)) dX5_woven_184 rfl rfl (by omega) (by unfold inR; omega) ?_
                refine r_goto (tgt := 72) hC dX5_woven_187 rfl ?_
                refine r_forget hC (ls2 := [some (vR 2 0), some (vI l), some (vI o), some (vI w), some (vR 7 l), some (vR 7 o), some (vI (w8 + 1)), some (vI w10), some (vI (w9 - 1)), none]) (lsub_some (lsub_some (lsub_some (lsub_some (lsub_some (lsub_some (lsub_some (lsub_some (lsub_some (lsub_none lsub_nil)))))))))) ?_
                exact ih72 ((w8 + 1)) ((w9 - 1)) (w10) ρ17 (by omega) (by omega) (by omega) (by first | rfl | exact wvI_y (by omega) i0_72 (by unfold wvC; omega) | exact wvI_n (by omega) i0_72 (by unfold wvC; omega)) (by omega) (by omega) (by omega) (by omega)  (t_ρ17) (by rw [show ((((w8 + 1) + w10 : Int)).toNat : Nat) = ((w8 + w10).toNat + 1) from by omega]; exact r_ρ17)
              · refine r_iload hC dX5_woven_87 rfl ?_
                refine r_aload hC dX5_woven_89 rfl ?_
                refine z_getI (jz := 6) hM dX5_woven_91 fl_RX5_154 rfl rfl rfl (fun v20 h_v20 o_v20 t_v20 => ?_)
                have w_v20 := ((t_v20 (Or.inl (by simp [Tb]))).trans (m0_72 7 l 6 (by decide))).symm
                subst w_v20
                have q_v20 : 0 ≤ (σ 7 l 6) ∧ (σ 7 l 6) ≤ 121 := o_v20.1 rfl
                refine r_icmp_ge (tgt := 120) hC dX5_woven_94 rfl (fun h21 => ?_) (fun h21 => ?_)
                · refine r_iconst hC dX5_woven_120 rfl ?_
                  refine r_istore hC dX5_woven_121 rfl ?_
                  refine r_aload_n hC dX5_woven_123 rfl ?_
                  refine z_getR hM dX5_woven_124 fl_RX5_40 rfl rfl (vld_of (n := 1) rfl (by omega) (by omega)) ?_
                  refine r_iload hC dX5_woven_127 rfl ?_
                  refine r_if_eq (tgt := 143) hC dX5_woven_129 rfl (fun h22 => ?_) (fun h22 => by omega)
                  refine r_aload hC dX5_woven_143 rfl ?_
                  refine z_getR hM dX5_woven_145 fl_RX5_176 rfl rfl (vld_of (n := 7) rfl (by omega) (by omega)) ?_
                  refine r_iload hC dX5_woven_148 rfl ?_
                  refine z_iald hM dX5_woven_150 rfl (by omega) (by omega) (fun v23 h_v23 o_v23 t_v23 => ?_)
                  have w_v23 := ((t_v23 (Or.inl (by simp [Tb]))).trans (m0_72 9 o w10 (by decide))).symm
                  subst w_v23
                  have q_v23 : -1000 ≤ (σ 9 o w10) ∧ (σ 9 o w10) ≤ 1000 := o_v23
                  refine z_inv1 hM dX5_woven_151 vl_RX5_253 rfl rfl rfl (Nat.le_of_ble_eq_true rfl) (Nat.le_of_ble_eq_true rfl) ?_
                  refine x_append2 (u := (wvU σ l o)) (n := (w8 + w10).toNat) (wvU_n (i := w8) (k := w10) (by omega) (i0_72.trans (congrArg (wvI σ l o) (by omega))) (by unfold wvC; omega)) (by omega) (by omega) (by omega) (fun j h0 h1 => wvU_b h6_3 h6_10 (fun y a b => (hrow l y (by omega) (by omega) a b).2) (fun y a b => (hrow o y (by omega) (by omega) a b).2) h0 (by omega)) m1_72 (fun j h0 h1 => by rw [m0_72 15 0 j (by decide)]; exact hcl j h0 h1) (fun ρ24 g_ρ24 r_ρ24 => ?_)
                  have t_ρ24 : ∀ (c : Nat) (p q : Int), ¬ Fo c → ρ24 c p q = σ c p q := fun c p q hc => (g_ρ24 c p q (by omega)).trans (m0_72 c p q hc)
                  refine r_iload hC dX5_woven_154 rfl ?_
                  refine r_iload hC dX5_woven_156 rfl ?_
                  refine r_if_eq (tgt := 165) hC dX5_woven_158 rfl (fun h25 => ?_) (fun h25 => by omega)
                  refine r_iconst hC dX5_woven_165 rfl ?_
                  refine r_iaddE hC (w8) dX5_woven_166 (by omega) (by unfold inR; omega) ?_
                  refine r_istore hC dX5_woven_167 rfl ?_
                  refine r_iload hC dX5_woven_169 rfl ?_
                  refine r_iload hC dX5_woven_171 rfl ?_
                  refine r_if_eq (tgt := 180) hC dX5_woven_173 rfl (fun h26 => ?_) (fun h26 => by omega)
                  refine r_iconst hC dX5_woven_180 rfl ?_
                  refine r_iaddE hC ((w10 + 1)) dX5_woven_181 (by omega) (by unfold inR; omega) ?_
                  refine r_istore hC dX5_woven_182 rfl ?_
                  show K _ [_, _, _, _, _, _, _, _, _, _] _ _
                  refine r_iincE hC ((w9 - 1)) dX5_woven_184 rfl rfl (by omega) (by unfold inR; omega) ?_
                  refine r_goto (tgt := 72) hC dX5_woven_187 rfl ?_
                  refine r_forget hC (ls2 := [some (vR 2 0), some (vI l), some (vI o), some (vI w), some (vR 7 l), some (vR 7 o), some (vI w8), some (vI (w10 + 1)), some (vI (w9 - 1)), none]) (lsub_some (lsub_some (lsub_some (lsub_some (lsub_some (lsub_some (lsub_some (lsub_some (lsub_some (lsub_none lsub_nil)))))))))) ?_
                  exact ih72 (w8) ((w9 - 1)) ((w10 + 1)) ρ24 (by omega) (by omega) (by omega) (by first | rfl | exact wvI_y (by omega) i0_72 (by unfold wvC; omega) | exact wvI_n (by omega) i0_72 (by unfold wvC; omega)) (by omega) (by omega) (by omega) (by omega)  (t_ρ24) (by rw [show (((w8 + (w10 + 1) : Int)).toNat : Nat) = ((w8 + w10).toNat + 1) from by omega]; exact r_ρ24)
                · refine r_aload hC dX5_woven_97 rfl ?_
                  refine z_getR hM dX5_woven_99 fl_RX5_198 rfl rfl (vld_of (n := 7) rfl (by omega) (by omega)) ?_
                  refine r_iload hC dX5_woven_102 rfl ?_
                  refine z_iald hM dX5_woven_104 rfl (by omega) (by omega) (fun v27 h_v27 o_v27 t_v27 => ?_)
                  have w_v27 := ((t_v27 (Or.inl (by simp [Tb]))).trans (m0_72 8 l w8 (by decide))).symm
                  subst w_v27
                  refine r_aload hC dX5_woven_105 rfl ?_
                  refine z_getR hM dX5_woven_107 fl_RX5_198 rfl rfl (vld_of (n := 7) rfl (by omega) (by omega)) ?_
                  refine r_iload hC dX5_woven_110 rfl ?_
                  refine z_iald hM dX5_woven_112 rfl (by omega) (by omega) (fun v28 h_v28 o_v28 t_v28 => ?_)
                  have w_v28 := ((t_v28 (Or.inl (by simp [Tb]))).trans (m0_72 8 o w10 (by decide))).symm
                  subst w_v28
                  refine r_icmp_gt (tgt := 120) hC dX5_woven_113 rfl (fun h29 => ?_) (fun h29 => ?_)
                  · refine r_iconst hC dX5_woven_120 rfl ?_
                    refine r_istore hC dX5_woven_121 rfl ?_
                    refine r_aload_n hC dX5_woven_123 rfl ?_
                    refine z_getR hM dX5_woven_124 fl_RX5_40 rfl rfl (vld_of (n := 1) rfl (by omega) (by omega)) ?_
                    refine r_iload hC dX5_woven_127 rfl ?_
                    refine r_if_eq (tgt := 143) hC dX5_woven_129 rfl (fun h30 => ?_) (fun h30 => by omega)
                    refine r_aload hC dX5_woven_143 rfl ?_
                    refine z_getR hM dX5_woven_145 fl_RX5_176 rfl rfl (vld_of (n := 7) rfl (by omega) (by omega)) ?_
                    refine r_iload hC dX5_woven_148 rfl ?_
                    refine z_iald hM dX5_woven_150 rfl (by omega) (by omega) (fun v31 h_v31 o_v31 t_v31 => ?_)
                    have w_v31 := ((t_v31 (Or.inl (by simp [Tb]))).trans (m0_72 9 o w10 (by decide))).symm
                    subst w_v31
                    have q_v31 : -1000 ≤ (σ 9 o w10) ∧ (σ 9 o w10) ≤ 1000 := o_v31
                    refine z_inv1 hM dX5_woven_151 vl_RX5_253 rfl rfl rfl (Nat.le_of_ble_eq_true rfl) (Nat.le_of_ble_eq_true rfl) ?_
                    refine x_append2 (u := (wvU σ l o)) (n := (w8 + w10).toNat) (wvU_n (i := w8) (k := w10) (by omega) (i0_72.trans (congrArg (wvI σ l o) (by omega))) (by unfold wvC; omega)) (by omega) (by omega) (by omega) (fun j h0 h1 => wvU_b h6_3 h6_10 (fun y a b => (hrow l y (by omega) (by omega) a b).2) (fun y a b => (hrow o y (by omega) (by omega) a b).2) h0 (by omega)) m1_72 (fun j h0 h1 => by rw [m0_72 15 0 j (by decide)]; exact hcl j h0 h1) (fun ρ32 g_ρ32 r_ρ32 => ?_)
                    have t_ρ32 : ∀ (c : Nat) (p q : Int), ¬ Fo c → ρ32 c p q = σ c p q := fun c p q hc => (g_ρ32 c p q (by omega)).trans (m0_72 c p q hc)
                    refine r_iload hC dX5_woven_154 rfl ?_
                    refine r_iload hC dX5_woven_156 rfl ?_
                    refine r_if_eq (tgt := 165) hC dX5_woven_158 rfl (fun h33 => ?_) (fun h33 => by omega)
                    refine r_iconst hC dX5_woven_165 rfl ?_
                    refine r_iaddE hC (w8) dX5_woven_166 (by omega) (by unfold inR; omega) ?_
                    refine r_istore hC dX5_woven_167 rfl ?_
                    refine r_iload hC dX5_woven_169 rfl ?_
                    refine r_iload hC dX5_woven_171 rfl ?_
                    refine r_if_eq (tgt := 180) hC dX5_woven_173 rfl (fun h34 => ?_) (fun h34 => by omega)
                    refine r_iconst hC dX5_woven_180 rfl ?_
                    refine r_iaddE hC ((w10 + 1)) dX5_woven_181 (by omega) (by unfold inR; omega) ?_
                    refine r_istore hC dX5_woven_182 rfl ?_
                    show K _ [_, _, _, _, _, _, _, _, _, _] _ _
                    refine r_iincE hC ((w9 - 1)) dX5_woven_184 rfl rfl (by omega) (by unfold inR; omega) ?_
                    refine r_goto (tgt := 72) hC dX5_woven_187 rfl ?_
                    refine r_forget hC (ls2 := [some (vR 2 0), some (vI l), some (vI o), some (vI w), some (vR 7 l), some (vR 7 o), some (vI w8), some (vI (w10 + 1)), some (vI (w9 - 1)), none]) (lsub_some (lsub_some (lsub_some (lsub_some (lsub_some (lsub_some (lsub_some (lsub_some (lsub_some (lsub_none lsub_nil)))))))))) ?_
                    exact ih72 (w8) ((w9 - 1)) ((w10 + 1)) ρ32 (by omega) (by omega) (by omega) (by first | rfl | exact wvI_y (by omega) i0_72 (by unfold wvC; omega) | exact wvI_n (by omega) i0_72 (by unfold wvC; omega)) (by omega) (by omega) (by omega) (by omega)  (t_ρ32) (by rw [show (((w8 + (w10 + 1) : Int)).toNat : Nat) = ((w8 + w10).toNat + 1) from by omega]; exact r_ρ32)
                  · refine r_iconst hC dX5_woven_116 rfl ?_
                    refine r_goto (tgt := 121) hC dX5_woven_117 rfl ?_
                    refine r_istore hC dX5_woven_121 rfl ?_
                    refine r_aload_n hC dX5_woven_123 rfl ?_
                    refine z_getR hM dX5_woven_124 fl_RX5_40 rfl rfl (vld_of (n := 1) rfl (by omega) (by omega)) ?_
                    refine r_iload hC dX5_woven_127 rfl ?_
                    refine r_if_eq (tgt := 143) hC dX5_woven_129 rfl (fun h35 => by omega) (fun h35 => ?_)
                    refine r_aload hC dX5_woven_132 rfl ?_
                    refine z_getR hM dX5_woven_134 fl_RX5_176 rfl rfl (vld_of (n := 7) rfl (by omega) (by omega)) ?_
                    refine r_iload hC dX5_woven_137 rfl ?_
                    refine z_iald hM dX5_woven_139 rfl (by omega) (by omega) (fun v36 h_v36 o_v36 t_v36 => ?_)
                    have w_v36 := ((t_v36 (Or.inl (by simp [Tb]))).trans (m0_72 9 l w8 (by decide))).symm
                    subst w_v36
                    have q_v36 : -1000 ≤ (σ 9 l w8) ∧ (σ 9 l w8) ≤ 1000 := o_v36
                    refine r_goto (tgt := 151) hC dX5_woven_140 rfl ?_
                    refine z_inv1 hM dX5_woven_151 vl_RX5_253 rfl rfl rfl (Nat.le_of_ble_eq_true rfl) (Nat.le_of_ble_eq_true rfl) ?_
                    refine x_append2 (u := (wvU σ l o)) (n := (w8 + w10).toNat) (wvU_y (i := w8) (k := w10) (by omega) (i0_72.trans (congrArg (wvI σ l o) (by omega))) (by unfold wvC; omega)) (by omega) (by omega) (by omega) (fun j h0 h1 => wvU_b h6_3 h6_10 (fun y a b => (hrow l y (by omega) (by omega) a b).2) (fun y a b => (hrow o y (by omega) (by omega) a b).2) h0 (by omega)) m1_72 (fun j h0 h1 => by rw [m0_72 15 0 j (by decide)]; exact hcl j h0 h1) (fun ρ37 g_ρ37 r_ρ37 => ?_)
                    have t_ρ37 : ∀ (c : Nat) (p q : Int), ¬ Fo c → ρ37 c p q = σ c p q := fun c p q hc => (g_ρ37 c p q (by omega)).trans (m0_72 c p q hc)
                    refine r_iload hC dX5_woven_154 rfl ?_
                    refine r_iload hC dX5_woven_156 rfl ?_
                    refine r_if_eq (tgt := 165) hC dX5_woven_158 rfl (fun h38 => by omega) (fun h38 => ?_)
                    refine r_iconst hC dX5_woven_161 rfl ?_
                    refine r_goto (tgt := 166) hC dX5_woven_162 rfl ?_
                    refine r_iaddE hC ((w8 + 1)) dX5_woven_166 (by omega) (by unfold inR; omega) ?_
                    refine r_istore hC dX5_woven_167 rfl ?_
                    refine r_iload hC dX5_woven_169 rfl ?_
                    refine r_iload hC dX5_woven_171 rfl ?_
                    refine r_if_eq (tgt := 180) hC dX5_woven_173 rfl (fun h39 => by omega) (fun h39 => ?_)
                    refine r_iconst hC dX5_woven_176 rfl ?_
                    refine r_goto (tgt := 181) hC dX5_woven_177 rfl ?_
                    refine r_iaddE hC (w10) dX5_woven_181 (by omega) (by unfold inR; omega) ?_
                    refine r_istore hC dX5_woven_182 rfl ?_
                    show K _ [_, _, _, _, _, _, _, _, _, _] _ _
                    refine r_iincE hC ((w9 - 1)) dX5_woven_184 rfl rfl (by omega) (by unfold inR; omega) ?_
                    refine r_goto (tgt := 72) hC dX5_woven_187 rfl ?_
                    refine r_forget hC (ls2 := [some (vR 2 0), some (vI l), some (vI o), some (vI w), some (vR 7 l), some (vR 7 o), some (vI (w8 + 1)), some (vI w10), some (vI (w9 - 1)), none]) (lsub_some (lsub_some (lsub_some (lsub_some (lsub_some (lsub_some (lsub_some (lsub_some (lsub_some (lsub_none lsub_nil)))))))))) ?_
                    exact ih72 ((w8 + 1)) ((w9 - 1)) (w10) ρ37 (by omega) (by omega) (by omega) (by first | rfl | exact wvI_y (by omega) i0_72 (by unfold wvC; omega) | exact wvI_n (by omega) i0_72 (by unfold wvC; omega)) (by omega) (by omega) (by omega) (by omega)  (t_ρ37) (by rw [show ((((w8 + 1) + w10 : Int)).toNat : Nat) = ((w8 + w10).toNat + 1) from by omega]; exact r_ρ37)
        exact L72 244 (0) (((σ 7 l 6) + (σ 7 o 6))) (0) ρ5 (by omega) (by omega) (by omega) (by first | rfl | exact wvI_y (by omega) i0_72 (by unfold wvC; omega) | exact wvI_n (by omega) i0_72 (by unfold wvC; omega)) (by omega) (by omega) (by omega) (by omega)  (t_ρ5) (by rw [show (((0 + 0 : Int)).toNat : Nat) = 0 from by omega]; exact z_ρ5 (wvU σ l o))
      · refine r_ldc hC dX5_woven_38 co_RX5_175 rfl ?_
        refine y_iret hK rfl dX5_woven_40 ?_
        have hR : wvR σ l o w = (-2147483648) := by
          exact if_neg (by unfold lkC2 lwC opV; omega)
        rw [hR] at k
        exact k _ (fun _ _ _ _ => rfl) hI
    · refine r_astoreN hC dX5_woven_13 rfl ?_
      refine r_aload hC dX5_woven_15 rfl ?_
      refine r_ifnullR hC dX5_woven_17 ?_
      refine r_aloadN hC dX5_woven_20 rfl ?_
      refine r_ifnullN (tgt := 38) hC dX5_woven_22 rfl ?_
      refine r_ldc hC dX5_woven_38 co_RX5_175 rfl ?_
      refine y_iret hK rfl dX5_woven_40 ?_
      have hR : wvR σ l o w = (-2147483648) := by
        exact if_neg (by unfold lkC2 lwC opV; omega)
      rw [hR] at k
      exact k _ (fun _ _ _ _ => rfl) hI
  · refine r_astoreN hC dX5_woven_6 rfl ?_
    refine r_aload_n hC dX5_woven_8 rfl ?_
    refine r_iload_n hC dX5_woven_9 rfl ?_
    refine z_inv1 hM dX5_woven_10 vl_RX5_123 rfl rfl rfl (Nat.le_of_ble_eq_true rfl) (Nat.le_of_ble_eq_true rfl) ?_
    refine x_openLane (fun hl_10 => ?_) (fun hl_10 => ?_)
    · have h6_10 := hG.1.h7 (l := o) (by omega) (by omega)
      have hN_10 := numF_rng (σ 7 o 2)
      have hO_10 := (hG.2.1.2.2.2.1 o (by omega) (by omega)).2
      refine r_astore hC dX5_woven_13 rfl ?_
      refine r_aloadN hC dX5_woven_15 rfl ?_
      refine r_ifnullN (tgt := 38) hC dX5_woven_17 rfl ?_
      refine r_ldc hC dX5_woven_38 co_RX5_175 rfl ?_
      refine y_iret hK rfl dX5_woven_40 ?_
      have hR : wvR σ l o w = (-2147483648) := by
        exact if_neg (by unfold lkC2 lwC opV; omega)
      rw [hR] at k
      exact k _ (fun _ _ _ _ => rfl) hI
    · refine r_astoreN hC dX5_woven_13 rfl ?_
      refine r_aloadN hC dX5_woven_15 rfl ?_
      refine r_ifnullN (tgt := 38) hC dX5_woven_17 rfl ?_
      refine r_ldc hC dX5_woven_38 co_RX5_175 rfl ?_
      refine y_iret hK rfl dX5_woven_40 ?_
      have hR : wvR σ l o w = (-2147483648) := by
        exact if_neg (by unfold lkC2 lwC opV; omega)
      rw [hR] at k
      exact k _ (fun _ _ _ _ => rfl) hI
theorem x_woven {eb : Bool} {d : Nat} {P : Option Vl → Mm → Prop} {σ : Mm} {l o w : Int} (hG : GI σ) (k : P (some (vI (wvR σ l o w))) σ) : WT (true, false, eb) (d + 5) 87 [vR 2 0, vI l, vI o, vI w] σ P := WT_fold fun ρ e hI => x_woven_S hI (hG.fo e) (fun ρ2 gq hI2 => ⟨hI2, σ, by
    have hc : wvR ρ l o w = wvR σ l o w := by (delta wvR wvU wvI lkC2 lwC opV; simp only [e 7 (by decide), e 8 (by decide), e 9 (by decide), e 15 (by decide), e 16 (by decide)])
    rw [hc]
    exact k, fun c x y hc => (gq c x y hc).trans (by rw [e c hc])⟩)
theorem x_session_S {eb : Bool} {d : Nat} {P : Option Vl → Mm → Prop} {σ : Mm} {l g s w : Int}  (hI : InF σ) (hG : GI σ)  (k : ∀ ρ : Mm, (∀ (c : Nat) (x y : Int), ¬ Fo c → ρ c x y = σ c x y) → InF ρ → P (some (vI (seR σ l g s w))) ρ) : WT (true, true, eb) (d + 5) 92 [vR 2 0, vI l, vI g, vI s, vI w] σ P := by
  refine WT_in fun K hK => ?_
  have hK : StpY (true, true, eb) cX5_session RX5 (some .int) (WT (true, true, eb) (d + 4)) P K := hK
  have hM := hK.1
  have hC := hK.1.1
  show K 0 [some (vR 2 0), some (vI l), some (vI g), some (vI s), some (vI w), none, none, none] [] σ
  refine z_ok hM (fun hok => ?_)
  refine r_rngz hC (fun g0 => ?_)
  have r_l : -2147483648 ≤ l ∧ l ≤ 2147483647 := inR_le (g0 (vI l) (by simp))
  have r_g : -2147483648 ≤ g ∧ g ≤ 2147483647 := inR_le (g0 (vI g) (by simp))
  have r_s : -2147483648 ≤ s ∧ s ≤ 2147483647 := inR_le (g0 (vI s) (by simp))
  have r_w : -2147483648 ≤ w ∧ w ≤ 2147483647 := inR_le (g0 (vI w) (by simp))
  have hcl := hG.2.1.2.2.2.2.2.2.2
  have hrow := hG.2.1.2.2.1
  refine r_aload_n hC dX5_session_0 rfl ?_
  refine r_iload_n hC dX5_session_1 rfl ?_
  refine r_iload hC dX5_session_2 rfl ?_
  refine z_inv2 hM dX5_session_4 vl_RX5_248 rfl rfl rfl (Nat.le_of_ble_eq_true rfl) (Nat.le_of_ble_eq_true rfl) ?_
  refine x_laneWith (fun hl_4 => ?_) (fun hl_4 => ?_)
  · have h6_4 := hG.1.h7 (l := l) (by omega) (by omega)
    have hN_4 := numF_rng (σ 7 l 2)
    have hO_4 := (hG.2.1.2.2.2.1 l (by omega) (by omega)).2
    refine r_astore hC dX5_session_7 rfl ?_
    refine r_aload hC dX5_session_9 rfl ?_
    refine r_ifnullR hC dX5_session_11 ?_
    refine r_iload_n hC dX5_session_14 rfl ?_
    refine z_ins1 hM dX5_session_15 tl_RX5_285 rfl (Nat.le_of_ble_eq_true rfl) (Nat.le_of_ble_eq_true rfl) ?_
    refine s_isGap (fun h2 => ?_) (fun h2 => ?_)
    · refine r_if_eq (tgt := 25) hC dX5_session_18 rfl (fun h3 => by omega) (fun h3 => ?_)
      refine r_iload_n hC dX5_session_21 rfl ?_
      refine r_if_ge (tgt := 28) hC dX5_session_22 rfl (fun h4 => ?_) (fun h4 => ?_)
      · refine r_aload_n hC dX5_session_28 rfl ?_
        refine z_getR hM dX5_session_29 fl_RX5_40 rfl rfl (vld_of (n := 1) rfl (by omega) (by omega)) ?_
        refine r_aload hC dX5_session_32 rfl ?_
        refine z_getI (jz := 2) hM dX5_session_34 fl_RX5_98 rfl rfl rfl (fun v5 h_v5 o_v5 t_v5 => ?_)
        have w_v5 := ((t_v5 (Or.inl (by simp [Tb]))).trans (rfl)).symm
        subst w_v5
        have q_v5 : 0 ≤ (σ 7 l 2) ∧ (σ 7 l 2) ≤ 9 := o_v5.2.2 rfl
        refine z_inv1 hM dX5_session_37 vl_RX5_251 rfl rfl rfl (Nat.le_of_ble_eq_true rfl) (Nat.le_of_ble_eq_true rfl) ?_
        refine x_begin (by omega) rfl rfl rfl rfl rfl rfl rfl rfl rfl rfl (fun ρ6 g_ρ6 z_ρ6 => ?_)
        have t_ρ6 : ∀ (c : Nat) (p q : Int), ¬ Fo c → ρ6 c p q = σ c p q := fun c p q hc => (g_ρ6 c p q (by omega)).trans ((fun _ _ _ _ => rfl) c p q hc)
        refine r_iconst hC dX5_session_40 rfl ?_
        refine r_istore hC dX5_session_41 rfl ?_
        refine r_iconst hC dX5_session_43 rfl ?_
        refine r_istore hC dX5_session_44 rfl ?_
        have L46 : ∀ (n46 : Nat) (w7 w8 : Int) (ρ9 : Mm), -1 ≤ w7 ∧ w7 ≤ 121 → 0 ≤ w8 ∧ w8 ≤ 121 → ((w7) = (sst (σ 8 l) g s ((w8)).toNat).1 - 1) → ((w8) ≤ σ 7 l 6) → 121 - w8 < (n46 : Int) → (∀ (c : Nat) (p q : Int), ¬ Fo c → ρ9 c p q = σ c p q) → (FRc ρ9 (σ 7 l 2) (fun j => σ 9 l ((sst (σ 8 l) g s (w8).toNat).2.1 + j)) ((sst (σ 8 l) g s (w8).toNat).2.2.toNat)) → K 46 [some (vR 2 0), some (vI l), some (vI g), some (vI s), some (vI w), some (vR 7 l), some (vI w7), some (vI w8)] [] ρ9 := by
          intro n46
          induction n46 with
          | zero => intro w7 w8 ρ9 f_w7 f_w8 i0_46 i1_46 hm  m0_46 m1_46; omega
          | succ n46 ih46 =>
            intro w7 w8 ρ9 f_w7 f_w8 i0_46 i1_46 hm46  m0_46 m1_46
            refine r_iload hC dX5_session_46 rfl ?_
            refine r_aload hC dX5_session_48 rfl ?_
            refine z_getI (jz := 6) hM dX5_session_50 fl_RX5_154 rfl rfl rfl (fun v10 h_v10 o_v10 t_v10 => ?_)
            have w_v10 := ((t_v10 (Or.inl (by simp [Tb]))).trans (m0_46 7 l 6 (by decide))).symm
            subst w_v10
            have q_v10 : 0 ≤ (σ 7 l 6) ∧ (σ 7 l 6) ≤ 121 := o_v10.1 rfl
            refine r_icmp_ge (tgt := 104) hC dX5_session_53 rfl (fun h11 => ?_) (fun h11 => ?_)
            · refine r_aload_n hC dX5_session_104 rfl ?_
              refine z_getR hM dX5_session_105 fl_RX5_40 rfl rfl (vld_of (n := 1) rfl (by omega) (by omega)) ?_
              refine r_iload hC dX5_session_108 rfl ?_
              have sb := sst_b (T := σ 8 l) (g := g) (s := s) (by omega) (w8).toNat
              refine z_inv1 hM dX5_session_110 vl_RX5_273 rfl rfl rfl (Nat.le_of_ble_eq_true rfl) (Nat.le_of_ble_eq_true rfl) ?_
              refine x_number (n := (sst (σ 8 l) g s (w8).toNat).2.2.toNat) (by omega) m1_46.1 m1_46.2.1 (by omega) m1_46 ?_
              rw [show ρ9 16 0 = σ 16 0 from funext fun y => m0_46 16 0 y (by decide), show ρ9 15 0 = σ 15 0 from funext fun y => m0_46 15 0 y (by decide)]
              refine y_iret hK rfl dX5_session_113 ?_
              have hR : seR σ l g s w = (cm (σ 16 0) (σ 15 0) (σ 7 l 2) (fun j => σ 9 l ((sst (σ 8 l) g s (w8).toNat).2.1 + j)) (sst (σ 8 l) g s (w8).toNat).2.2.toNat w) := by
                unfold seR sstV
                rw [if_pos (by unfold seC lwC opV; omega), show (σ 7 l 6).toNat = (w8).toNat from by omega]
              rw [hR] at k
              exact k _ (m0_46) (FRc.inF m1_46 (fun j h0 h1 => by rw [m0_46 15 0 j (by decide)]; exact hcl j h0 h1))
            · refine r_iload hC dX5_session_56 rfl ?_
              refine r_aload hC dX5_session_58 rfl ?_
              refine r_iload hC dX5_session_60 rfl ?_
              refine r_iload_n hC dX5_session_62 rfl ?_
              refine z_inv2 hM dX5_session_63 vl_RX5_221 rfl rfl rfl (Nat.le_of_ble_eq_true rfl) (Nat.le_of_ble_eq_true rfl) ?_
              refine x_startsSession (by omega) (by omega) (fun hs_63 => ?_) (fun hs_63 => ?_)
              · rw [show ρ9 8 l = σ 8 l from funext fun y => m0_46 8 l y (by decide)] at hs_63
                have sb := sst_b (T := σ 8 l) (g := g) (s := s) (by omega) (w8).toNat
                obtain ⟨s1, s2, s3, s4, s5⟩ := sst_y (s := s) (by omega) hs_63
                refine r_if_eq (tgt := 73) hC dX5_session_66 rfl (fun h12 => by omega) (fun h12 => ?_)
                refine r_iconst hC dX5_session_69 rfl ?_
                refine r_goto (tgt := 74) hC dX5_session_70 rfl ?_
                refine r_iaddE hC ((w7 + 1)) dX5_session_74 (by omega) (by unfold inR; omega) ?_
                refine r_istore hC dX5_session_75 rfl ?_
                refine r_iload hC dX5_session_77 rfl ?_
                refine r_iload_n hC dX5_session_79 rfl ?_
                refine r_icmp_ne (tgt := 98) hC dX5_session_80 rfl (fun h13 => ?_) (fun h13 => ?_)
                · refine r_iincE hC ((w8 + 1)) dX5_session_98 rfl rfl (by omega) (by unfold inR; omega) ?_
                  refine r_goto (tgt := 46) hC dX5_session_101 rfl ?_
                  exact ih46 ((w7 + 1)) ((w8 + 1)) ρ9 (by omega) (by omega) (by first | rfl | omega) (by omega) (by omega)  (m0_46) (by rw [show (sst (σ 8 l) g s ((w8 + 1)).toNat).2.2.toNat = (sst (σ 8 l) g s (w8).toNat).2.2.toNat from by rw [s5 (by omega)], show (sst (σ 8 l) g s ((w8 + 1)).toNat).2.1 = (sst (σ 8 l) g s (w8).toNat).2.1 from s3 (by omega)]; exact m1_46)
                · refine r_aload_n hC dX5_session_83 rfl ?_
                  refine z_getR hM dX5_session_84 fl_RX5_40 rfl rfl (vld_of (n := 1) rfl (by omega) (by omega)) ?_
                  refine r_aload hC dX5_session_87 rfl ?_
                  refine z_getR hM dX5_session_89 fl_RX5_176 rfl rfl (vld_of (n := 7) rfl (by omega) (by omega)) ?_
                  refine r_iload hC dX5_session_92 rfl ?_
                  refine z_iald hM dX5_session_94 rfl (by omega) (by omega) (fun v14 h_v14 o_v14 t_v14 => ?_)
                  have w_v14 := ((t_v14 (Or.inl (by simp [Tb]))).trans (m0_46 9 l w8 (by decide))).symm
                  subst w_v14
                  have q_v14 : -1000 ≤ (σ 9 l w8) ∧ (σ 9 l w8) ≤ 1000 := o_v14
                  have fq : FRc ρ9 (σ 7 l 2) (fun j => σ 9 l ((sst (σ 8 l) g s ((w8 + 1)).toNat).2.1 + j)) ((sst (σ 8 l) g s (w8).toNat).2.2.toNat) := FRc.cg m1_46 (fun j a b => congrArg (fun z => σ 9 l (z + j)) (s3 (by omega)))
                  refine z_inv1 hM dX5_session_95 vl_RX5_253 rfl rfl rfl (Nat.le_of_ble_eq_true rfl) (Nat.le_of_ble_eq_true rfl) ?_
                  refine x_append2 (u := (fun j => σ 9 l ((sst (σ 8 l) g s ((w8 + 1)).toNat).2.1 + j))) (n := (sst (σ 8 l) g s (w8).toNat).2.2.toNat) (show (σ 9 l w8) = σ 9 l ((sst (σ 8 l) g s ((w8 + 1)).toNat).2.1 + (((sst (σ 8 l) g s (w8).toNat).2.2.toNat : Nat) : Int)) from congrArg (σ 9 l) (by omega)) (by omega) (by omega) (by omega) (fun j h0 h1 => (hrow l ((sst (σ 8 l) g s ((w8 + 1)).toNat).2.1 + j) (by omega) (by omega) (by omega) (by omega)).2) fq (fun j h0 h1 => by rw [m0_46 15 0 j (by decide)]; exact hcl j h0 h1) (fun ρ15 g_ρ15 r_ρ15 => ?_)
                  have t_ρ15 : ∀ (c : Nat) (p q : Int), ¬ Fo c → ρ15 c p q = σ c p q := fun c p q hc => (g_ρ15 c p q (by omega)).trans (m0_46 c p q hc)
                  refine r_iincE hC ((w8 + 1)) dX5_session_98 rfl rfl (by omega) (by unfold inR; omega) ?_
                  refine r_goto (tgt := 46) hC dX5_session_101 rfl ?_
                  exact ih46 ((w7 + 1)) ((w8 + 1)) ρ15 (by omega) (by omega) (by first | rfl | omega) (by omega) (by omega)  (t_ρ15) (by rw [show (sst (σ 8 l) g s ((w8 + 1)).toNat).2.2.toNat = ((sst (σ 8 l) g s (w8).toNat).2.2.toNat + 1) from by omega]; exact r_ρ15)
              · rw [show ρ9 8 l = σ 8 l from funext fun y => m0_46 8 l y (by decide)] at hs_63
                have sb := sst_b (T := σ 8 l) (g := g) (s := s) (by omega) (w8).toNat
                obtain ⟨s1, s2, s3, s4, s5⟩ := sst_n (s := s) (by omega) hs_63
                refine r_if_eq (tgt := 73) hC dX5_session_66 rfl (fun h16 => ?_) (fun h16 => by omega)
                refine r_iconst hC dX5_session_73 rfl ?_
                refine r_iaddE hC (w7) dX5_session_74 (by omega) (by unfold inR; omega) ?_
                refine r_istore hC dX5_session_75 rfl ?_
                refine r_iload hC dX5_session_77 rfl ?_
                refine r_iload_n hC dX5_session_79 rfl ?_
                refine r_icmp_ne (tgt := 98) hC dX5_session_80 rfl (fun h17 => ?_) (fun h17 => ?_)
                · refine r_iincE hC ((w8 + 1)) dX5_session_98 rfl rfl (by omega) (by unfold inR; omega) ?_
                  refine r_goto (tgt := 46) hC dX5_session_101 rfl ?_
                  exact ih46 (w7) ((w8 + 1)) ρ9 (by omega) (by omega) (by first | rfl | omega) (by omega) (by omega)  (m0_46) (by rw [show (sst (σ 8 l) g s ((w8 + 1)).toNat).2.2.toNat = (sst (σ 8 l) g s (w8).toNat).2.2.toNat from by rw [s5 (by omega)], show (sst (σ 8 l) g s ((w8 + 1)).toNat).2.1 = (sst (σ 8 l) g s (w8).toNat).2.1 from s3 (by omega)]; exact m1_46)
                · refine r_aload_n hC dX5_session_83 rfl ?_
                  refine z_getR hM dX5_session_84 fl_RX5_40 rfl rfl (vld_of (n := 1) rfl (by omega) (by omega)) ?_
                  refine r_aload hC dX5_session_87 rfl ?_
                  refine z_getR hM dX5_session_89 fl_RX5_176 rfl rfl (vld_of (n := 7) rfl (by omega) (by omega)) ?_
                  refine r_iload hC dX5_session_92 rfl ?_
                  refine z_iald hM dX5_session_94 rfl (by omega) (by omega) (fun v18 h_v18 o_v18 t_v18 => ?_)
                  have w_v18 := ((t_v18 (Or.inl (by simp [Tb]))).trans (m0_46 9 l w8 (by decide))).symm
                  subst w_v18
                  have q_v18 : -1000 ≤ (σ 9 l w8) ∧ (σ 9 l w8) ≤ 1000 := o_v18
                  have fq : FRc ρ9 (σ 7 l 2) (fun j => σ 9 l ((sst (σ 8 l) g s ((w8 + 1)).toNat).2.1 + j)) ((sst (σ 8 l) g s (w8).toNat).2.2.toNat) := FRc.cg m1_46 (fun j a b => congrArg (fun z => σ 9 l (z + j)) (s3 (by omega)))
                  refine z_inv1 hM dX5_session_95 vl_RX5_253 rfl rfl rfl (Nat.le_of_ble_eq_true rfl) (Nat.le_of_ble_eq_true rfl) ?_
                  refine x_append2 (u := (fun j => σ 9 l ((sst (σ 8 l) g s ((w8 + 1)).toNat).2.1 + j))) (n := (sst (σ 8 l) g s (w8).toNat).2.2.toNat) (show (σ 9 l w8) = σ 9 l ((sst (σ 8 l) g s ((w8 + 1)).toNat).2.1 + (((sst (σ 8 l) g s (w8).toNat).2.2.toNat : Nat) : Int)) from congrArg (σ 9 l) (by omega)) (by omega) (by omega) (by omega) (fun j h0 h1 => (hrow l ((sst (σ 8 l) g s ((w8 + 1)).toNat).2.1 + j) (by omega) (by omega) (by omega) (by omega)).2) fq (fun j h0 h1 => by rw [m0_46 15 0 j (by decide)]; exact hcl j h0 h1) (fun ρ19 g_ρ19 r_ρ19 => ?_)
                  have t_ρ19 : ∀ (c : Nat) (p q : Int), ¬ Fo c → ρ19 c p q = σ c p q := fun c p q hc => (g_ρ19 c p q (by omega)).trans (m0_46 c p q hc)
                  refine r_iincE hC ((w8 + 1)) dX5_session_98 rfl rfl (by omega) (by unfold inR; omega) ?_
                  refine r_goto (tgt := 46) hC dX5_session_101 rfl ?_
                  exact ih46 (w7) ((w8 + 1)) ρ19 (by omega) (by omega) (by first | rfl | omega) (by omega) (by omega)  (t_ρ19) (by rw [show (sst (σ 8 l) g s ((w8 + 1)).toNat).2.2.toNat = ((sst (σ 8 l) g s (w8).toNat).2.2.toNat + 1) from by omega]; exact r_ρ19)
        exact L46 123 ((-1)) (0) ρ6 (by omega) (by omega) (by first | rfl | omega) (by omega) (by omega)  (t_ρ6) (z_ρ6 _)
      · refine r_ldc hC dX5_session_25 co_RX5_175 rfl ?_
        refine y_iret hK rfl dX5_session_27 ?_
        have hR : seR σ l g s w = (-2147483648) := by
          exact if_neg (by unfold seC lwC opV; omega)
        rw [hR] at k
        exact k _ (fun _ _ _ _ => rfl) hI
    · refine r_if_eq (tgt := 25) hC dX5_session_18 rfl (fun h20 => ?_) (fun h20 => by omega)
      refine r_ldc hC dX5_session_25 co_RX5_175 rfl ?_
      refine y_iret hK rfl dX5_session_27 ?_
      have hR : seR σ l g s w = (-2147483648) := by
        exact if_neg (by unfold seC lwC opV; omega)
      rw [hR] at k
      exact k _ (fun _ _ _ _ => rfl) hI
  · refine r_astoreN hC dX5_session_7 rfl ?_
    refine r_aloadN hC dX5_session_9 rfl ?_
    refine r_ifnullN (tgt := 25) hC dX5_session_11 rfl ?_
    refine r_ldc hC dX5_session_25 co_RX5_175 rfl ?_
    refine y_iret hK rfl dX5_session_27 ?_
    have hR : seR σ l g s w = (-2147483648) := by
      exact if_neg (by unfold seC lwC opV; omega)
    rw [hR] at k
    exact k _ (fun _ _ _ _ => rfl) hI
theorem x_session {eb : Bool} {d : Nat} {P : Option Vl → Mm → Prop} {σ : Mm} {l g s w : Int} (hG : GI σ) (k : P (some (vI (seR σ l g s w))) σ) : WT (true, false, eb) (d + 5) 92 [vR 2 0, vI l, vI g, vI s, vI w] σ P := WT_fold fun ρ e hI => x_session_S hI (hG.fo e) (fun ρ2 gq hI2 => ⟨hI2, σ, by
    have hc : seR ρ l g s w = seR σ l g s w := by (delta seR sstV seC lwC opV; simp only [e 7 (by decide), e 8 (by decide), e 9 (by decide), e 15 (by decide), e 16 (by decide)])
    rw [hc]
    exact k, fun c x y hc => (gq c x y hc).trans (by rw [e c hc])⟩)
theorem x_noteNumbers {eb : Bool} {o : Int} {u : Int → Int} {n : Nat} {d : Nat} {P : Option Vl → Mm → Prop} {σ : Mm}  (hF : FRc σ o u n)  (k : ∀ ρ : Mm, Gx (fun c x y => c = 18 ∨ (c = 14 ∧ y = 4)) σ ρ → NT ρ o u n → P none ρ) : WT (true, true, eb) (d + 1) 12 [vR 14 0] σ P := by
  refine WT_in fun K hK => ?_
  have hK : StpY (true, true, eb) cX1_noteNumbers RX1 (none) (WT (true, true, eb) (d + 0)) P K := hK
  have hM := hK.1
  have hC := hK.1.1
  show K 0 [some (vR 14 0)] [] σ
  refine z_ok hM (fun hok => ?_)
  refine r_aload_n hC dX1_noteNumbers_0 rfl ?_
  refine z_getR hM dX1_noteNumbers_1 fl_RX1_24 rfl rfl (vld_of (n := 1) rfl (by omega) (by omega)) ?_
  refine r_iconst hC dX1_noteNumbers_4 rfl ?_
  refine r_aload_n hC dX1_noteNumbers_5 rfl ?_
  refine z_getR hM dX1_noteNumbers_6 fl_RX1_27 rfl rfl (vld_of (n := 1) rfl (by omega) (by omega)) ?_
  refine r_iconst hC dX1_noteNumbers_9 rfl ?_
  refine r_bipush hC dX1_noteNumbers_10 rfl ?_
  refine z_copyT hM dX1_noteNumbers_12 ac_RX1_48 rfl rfl (by omega) (by omega) (by omega) (by omega) (by omega) (Nat.le_of_ble_eq_true rfl) (fun _ => ⟨by simp [DL], by simp [DF]⟩) (fun _ _ _ h => by simp [Okv] at *; try exact h) (fun x _ _ _ => (tk17 rfl rfl)) ?_
  refine r_aload_n hC dX1_noteNumbers_15 rfl ?_
  refine r_aload_n hC dX1_noteNumbers_16 rfl ?_
  refine z_getI (jz := 6) hM dX1_noteNumbers_17 fl_RX1_34 rfl rfl rfl (fun v1 h_v1 o_v1 t_v1 => ?_)
  have w_v1 := ((t_v1 (Or.inr (Or.inr (Or.inl ⟨rfl, by simp [DF, DX]⟩)))).trans ((cpy_ne (by omega)).trans (rfl))).symm
  subst w_v1
  refine z_putIT (jz := 4) hM dX1_noteNumbers_20 fw_RX1_54 rfl rfl rfl ⟨Or.inr (by simp [DL]), Or.inl rfl⟩ (by first | trivial | (simp only [Okv]; omega) | (simp [Okv]; try omega)) ?_
  refine y_vret hK rfl dX1_noteNumbers_23 ?_
  refine k _ (fun c x y hc => ?_) ⟨(mu_self _ _ _ _ _).trans hF.2.1, fun k a b => ?_⟩
  · rw [mu_ne (by omega), cpy_ne (by omega)]
  · have b7 := numF_rng o
    rw [mu_ne (by omega), cpy_in (by omega), show (0 : Int) + (k - 0) = k from by omega, show mu (cpy σ 17 0 0 18 0 0 7) 14 0 4 (σ 14 0 6) 16 0 = σ 16 0 from funext fun y => (mu_ne (by omega)).trans (cpy_ne (by omega)), show mu (cpy σ 17 0 0 18 0 0 7) 14 0 4 (σ 14 0 6) 15 0 = σ 15 0 from funext fun y => (mu_ne (by omega)).trans (cpy_ne (by omega))]
    exact hF.2.2.2 k a b
theorem x_isAsNoted {eb : Bool} {u v : Int → Int} {n m : Nat} {d : Nat} {P : Option Vl → Mm → Prop} {σ : Mm} {o : Int} (b_o : 0 ≤ o ∧ o ≤ 9) (qg0 : σ 14 0 5 = o) (qg1 : σ 14 0 6 = (m : Int)) (qg2 : σ 14 0 4 = (n : Int)) (hF : FRc σ o v m) (hT : NT σ o u n)  (k1 : alk σ o u v n m → P (some (vI 1)) σ) (k0 : ¬ alk σ o u v n m → P (some (vI 0)) σ) : WT (true, true, eb) (d + 1) 13 [vR 14 0] σ P := by
  refine WT_in fun K hK => ?_
  have hK : StpY (true, true, eb) cX1_isAsNoted RX1 (some .boolean) (WT (true, true, eb) (d + 0)) P K := hK
  have hM := hK.1
  have hC := hK.1.1
  show K 0 [some (vR 14 0), none] [] σ
  refine r_aload_n hC dX1_isAsNoted_0 rfl ?_
  refine z_getI (jz := 6) hM dX1_isAsNoted_1 fl_RX1_34 rfl rfl rfl (fun v1 h_v1 o_v1 t_v1 => ?_)
  have e_v1 : (m : Int) = v1 := ((t_v1 ((by simp [Tk, Tb, DL, DF, DX]))).trans qg1).symm
  subst e_v1
  refine r_if_eq (tgt := 14) hC dX1_isAsNoted_4 rfl (fun h2 => ?_) (fun h2 => ?_)
  · refine r_aload_n hC dX1_isAsNoted_14 rfl ?_
    refine z_getI (jz := 6) hM dX1_isAsNoted_15 fl_RX1_34 rfl rfl rfl (fun v3 h_v3 o_v3 t_v3 => ?_)
    have e_v3 : (m : Int) = v3 := ((t_v3 ((by simp [Tk, Tb, DL, DF, DX]))).trans qg1).symm
    subst e_v3
    refine r_aload_n hC dX1_isAsNoted_18 rfl ?_
    refine z_getI (jz := 4) hM dX1_isAsNoted_19 fl_RX1_54 rfl rfl rfl (fun v4 h_v4 o_v4 t_v4 => ?_)
    have e_v4 : (n : Int) = v4 := ((t_v4 ((by simp [Tk, Tb, DL, DF, DX]))).trans qg2).symm
    subst e_v4
    refine r_icmp_ne (tgt := 29) hC dX1_isAsNoted_22 rfl (fun h5 => ?_) (fun h5 => ?_)
    · refine r_iconst hC dX1_isAsNoted_29 rfl ?_
      refine y_zret hK rfl dX1_isAsNoted_30 (by omega) ?_
      exact k0 (by unfold alk; rw [if_pos (by omega)]; omega)
    · refine r_iconst hC dX1_isAsNoted_25 rfl ?_
      refine r_goto (tgt := 30) hC dX1_isAsNoted_26 rfl ?_
      refine y_zret hK rfl dX1_isAsNoted_30 (by omega) ?_
      exact k1 (by unfold alk; rw [if_pos (by omega)]; omega)
  · refine r_aload_n hC dX1_isAsNoted_7 rfl ?_
    refine z_getI (jz := 4) hM dX1_isAsNoted_8 fl_RX1_54 rfl rfl rfl (fun v6 h_v6 o_v6 t_v6 => ?_)
    have e_v6 : (n : Int) = v6 := ((t_v6 ((by simp [Tk, Tb, DL, DF, DX]))).trans qg2).symm
    subst e_v6
    refine r_if_ne (tgt := 31) hC dX1_isAsNoted_11 rfl (fun h7 => ?_) (fun h7 => ?_)
    · refine r_iconst hC dX1_isAsNoted_31 rfl ?_
      refine r_istore_n hC dX1_isAsNoted_32 rfl ?_
      have L33 : ∀ (n33 : Nat) (w8 : Int), 0 ≤ w8 ∧ w8 ≤ 7 → (∀ k : Int, 0 ≤ k → k < (w8) → cmN (σ 16 0) (σ 15 0) o v m k = cmN (σ 16 0) (σ 15 0) o u n k) → 7 - w8 < (n33 : Int) → K 33 [some (vR 14 0), some (vI w8)] [] σ := by
        intro n33
        induction n33 with
        | zero => intro w8  f_w8 i0_33 hm  ; omega
        | succ n33 ih33 =>
          intro w8  f_w8 i0_33 hm33  
          refine r_iload_n hC dX1_isAsNoted_33 rfl ?_
          refine z_nums hM dX1_isAsNoted_34 sl_RX1_41 ?_
          refine r_aload_n hC dX1_isAsNoted_37 rfl ?_
          refine z_getI (jz := 5) hM dX1_isAsNoted_38 fl_RX1_30 rfl rfl rfl (fun v9 h_v9 o_v9 t_v9 => ?_)
          have e_v9 : o = v9 := ((t_v9 ((by simp [Tk, Tb, DL, DF, DX]))).trans qg0).symm
          subst e_v9
          refine z_nald hM dX1_isAsNoted_41 (by omega) (by omega) ?_
          have q_v10 := numF_rng o
          refine r_icmp_ge (tgt := 68) hC dX1_isAsNoted_42 rfl (fun h11 => ?_) (fun h11 => ?_)
          · refine r_iconst hC dX1_isAsNoted_68 rfl ?_
            refine y_zret hK rfl dX1_isAsNoted_69 (by omega) ?_
            refine k1 ?_
            unfold alk
            rw [if_neg (by omega)]
            exact fun k a b => i0_33 k a (by omega)
          · refine r_aload_n hC dX1_isAsNoted_45 rfl ?_
            refine z_getR hM dX1_isAsNoted_46 fl_RX1_24 rfl rfl (vld_of (n := 1) rfl (by omega) (by omega)) ?_
            refine r_iload_n hC dX1_isAsNoted_49 rfl ?_
            refine z_iald hM dX1_isAsNoted_50 rfl (by omega) (by omega) (fun v12 h_v12 o_v12 t_v12 => ?_)
            have w_v12 := (t_v12 (tk17 rfl rfl)).symm
            subst w_v12
            refine r_aload_n hC dX1_isAsNoted_51 rfl ?_
            refine z_getR hM dX1_isAsNoted_52 fl_RX1_27 rfl rfl (vld_of (n := 1) rfl (by omega) (by omega)) ?_
            refine r_iload_n hC dX1_isAsNoted_55 rfl ?_
            refine z_iald hM dX1_isAsNoted_56 rfl (by omega) (by omega) (fun v13 h_v13 o_v13 t_v13 => ?_)
            have w_v13 := (t_v13 (Or.inr (Or.inr (Or.inl ⟨rfl, Or.inr rfl⟩)))).symm
            subst w_v13
            have e17 := hF.2.2.2 w8 (by omega) (by omega)
            have e18 := hT.2 w8 (by omega) (by omega)
            refine r_icmp_eq (tgt := 62) hC dX1_isAsNoted_57 rfl (fun h14 => ?_) (fun h14 => ?_)
            · refine r_iincE hC ((w8 + 1)) dX1_isAsNoted_62 rfl rfl (by omega) (by unfold inR; omega) ?_
              refine r_goto (tgt := 33) hC dX1_isAsNoted_65 rfl ?_
              exact ih33 ((w8 + 1))  (by omega) (by intro k a b; first | omega | (rcases (by omega : k < w8 ∨ k = w8) with z | z; exact i0_33 k a z; subst z; omega)) (by omega)  
            · refine r_iconst hC dX1_isAsNoted_60 rfl ?_
              refine y_zret hK rfl dX1_isAsNoted_61 (by omega) ?_
              refine k0 ?_
              unfold alk
              rw [if_neg (by omega)]
              intro q
              have := q w8 (by omega) (by omega)
              omega
      exact L33 9 (0)  (by omega) (by intro k a b; first | omega | (rcases (by omega : k < w8 ∨ k = w8) with z | z; exact i0_33 k a z; subst z; omega)) (by omega)  
    · refine r_aload_n hC dX1_isAsNoted_14 rfl ?_
      refine z_getI (jz := 6) hM dX1_isAsNoted_15 fl_RX1_34 rfl rfl rfl (fun v15 h_v15 o_v15 t_v15 => ?_)
      have e_v15 : (m : Int) = v15 := ((t_v15 ((by simp [Tk, Tb, DL, DF, DX]))).trans qg1).symm
      subst e_v15
      refine r_aload_n hC dX1_isAsNoted_18 rfl ?_
      refine z_getI (jz := 4) hM dX1_isAsNoted_19 fl_RX1_54 rfl rfl rfl (fun v16 h_v16 o_v16 t_v16 => ?_)
      have e_v16 : (n : Int) = v16 := ((t_v16 ((by simp [Tk, Tb, DL, DF, DX]))).trans qg2).symm
      subst e_v16
      refine r_icmp_ne (tgt := 29) hC dX1_isAsNoted_22 rfl (fun h17 => ?_) (fun h17 => by omega)
      refine r_iconst hC dX1_isAsNoted_29 rfl ?_
      refine y_zret hK rfl dX1_isAsNoted_30 (by omega) ?_
      exact k0 (by unfold alk; rw [if_pos (by omega)]; omega)
theorem alk_c {V W : Mm} {o : Int} {u v : Int → Int} {n m : Nat} (h16 : W 16 0 = V 16 0) (h15 : W 15 0 = V 15 0) : alk W o u v n m = alk V o u v n m := by
  unfold alk
  rw [h16, h15]
theorem alk_t {V : Mm} {o : Int} {u v u2 v2 : Int → Int} {n m n2 m2 : Nat} (hn : n2 = n) (hm : m2 = m) (hu : ∀ j : Int, 0 ≤ j → j < n → u j = u2 j) (hv : ∀ j : Int, 0 ≤ j → j < m → v j = v2 j) : alk V o u v n m = alk V o u2 v2 n2 m2 := by
  subst hn hm
  unfold alk
  simp only [cmN_c hu, cmN_c hv]
theorem x_same_S {eb : Bool} {d : Nat} {P : Option Vl → Mm → Prop} {σ : Mm} {l o : Int}  (hI : InF σ) (hG : GI σ)  (k : ∀ (r : Int) (ρ : Mm), saA σ l o r → (∀ (c : Nat) (x y : Int), ¬ Fo c → ρ c x y = σ c x y) → InF ρ → P (some (vI r)) ρ) : WT (true, true, eb) (d + 5) 88 [vR 2 0, vI l, vI o] σ P := by
  refine WT_in fun K hK => ?_
  have hK : StpY (true, true, eb) cX5_same RX5 (some .int) (WT (true, true, eb) (d + 4)) P K := hK
  have hM := hK.1
  have hC := hK.1.1
  show K 0 [some (vR 2 0), some (vI l), some (vI o), none, none] [] σ
  refine z_ok hM (fun hok => ?_)
  refine r_rngz hC (fun g0 => ?_)
  have r_l : -2147483648 ≤ l ∧ l ≤ 2147483647 := inR_le (g0 (vI l) (by simp))
  have r_o : -2147483648 ≤ o ∧ o ≤ 2147483647 := inR_le (g0 (vI o) (by simp))
  have hcl := hG.2.1.2.2.2.2.2.2.2
  have hrow := hG.2.1.2.2.1
  refine r_aload_n hC dX5_same_0 rfl ?_
  refine r_iload_n hC dX5_same_1 rfl ?_
  refine z_inv1 hM dX5_same_2 vl_RX5_123 rfl rfl rfl (Nat.le_of_ble_eq_true rfl) (Nat.le_of_ble_eq_true rfl) ?_
  refine x_openLane (fun hl_2 => ?_) (fun hl_2 => ?_)
  · have h6_2 := hG.1.h7 (l := l) (by omega) (by omega)
    have hN_2 := numF_rng (σ 7 l 2)
    have hO_2 := (hG.2.1.2.2.2.1 l (by omega) (by omega)).2
    refine r_astore_n hC dX5_same_5 rfl ?_
    refine r_aload_n hC dX5_same_6 rfl ?_
    refine r_iload_n hC dX5_same_7 rfl ?_
    refine z_inv1 hM dX5_same_8 vl_RX5_123 rfl rfl rfl (Nat.le_of_ble_eq_true rfl) (Nat.le_of_ble_eq_true rfl) ?_
    refine x_openLane (fun hl_8 => ?_) (fun hl_8 => ?_)
    · have h6_8 := hG.1.h7 (l := o) (by omega) (by omega)
      have hN_8 := numF_rng (σ 7 o 2)
      have hO_8 := (hG.2.1.2.2.2.1 o (by omega) (by omega)).2
      refine r_astore hC dX5_same_11 rfl ?_
      refine r_aload_n hC dX5_same_13 rfl ?_
      refine r_ifnullR hC dX5_same_14 ?_
      refine r_aload hC dX5_same_17 rfl ?_
      refine r_ifnullR hC dX5_same_19 ?_
      refine r_aload_n hC dX5_same_22 rfl ?_
      refine z_getI (jz := 2) hM dX5_same_23 fl_RX5_98 rfl rfl rfl (fun v1 h_v1 o_v1 t_v1 => ?_)
      have w_v1 := ((t_v1 (Or.inl (by simp [Tb]))).trans (rfl)).symm
      subst w_v1
      have q_v1 : 0 ≤ (σ 7 l 2) ∧ (σ 7 l 2) ≤ 9 := o_v1.2.2 rfl
      refine r_aload hC dX5_same_26 rfl ?_
      refine z_getI (jz := 2) hM dX5_same_28 fl_RX5_98 rfl rfl rfl (fun v2 h_v2 o_v2 t_v2 => ?_)
      have w_v2 := ((t_v2 (Or.inl (by simp [Tb]))).trans (rfl)).symm
      subst w_v2
      have q_v2 : 0 ≤ (σ 7 o 2) ∧ (σ 7 o 2) ≤ 9 := o_v2.2.2 rfl
      refine r_icmp_eq (tgt := 36) hC dX5_same_31 rfl (fun h3 => ?_) (fun h3 => ?_)
      · refine r_aload_n hC dX5_same_36 rfl ?_
        refine r_aload_n hC dX5_same_37 rfl ?_
        refine r_iconst hC dX5_same_38 rfl ?_
        refine r_aload_n hC dX5_same_39 rfl ?_
        refine z_getI (jz := 6) hM dX5_same_40 fl_RX5_154 rfl rfl rfl (fun v4 h_v4 o_v4 t_v4 => ?_)
        have w_v4 := ((t_v4 (Or.inl (by simp [Tb]))).trans (rfl)).symm
        subst w_v4
        have q_v4 : 0 ≤ (σ 7 l 6) ∧ (σ 7 l 6) ≤ 121 := o_v4.1 rfl
        refine z_inv3 hM dX5_same_43 vl_RX5_259 rfl rfl rfl (Nat.le_of_ble_eq_true rfl) (Nat.le_of_ble_eq_true rfl) ?_
        refine x_foldPart (i := l) (f := 0) (z := (σ 7 l 6)) (by omega) (by omega) (by omega) (fun ρ5 g_ρ5 r_ρ5 => ?_)
        have t_ρ5 : ∀ (c : Nat) (p q : Int), ¬ Fo c → ρ5 c p q = σ c p q := fun c p q hc => (g_ρ5 c p q (by omega)).trans ((fun _ _ _ _ => rfl) c p q hc)
        refine r_aload_n hC dX5_same_46 rfl ?_
        refine z_getR hM dX5_same_47 fl_RX5_40 rfl rfl (vld_of (n := 1) rfl (by omega) (by omega)) ?_
        refine z_inv0 hM dX5_same_50 vl_RX5_275 rfl rfl rfl (Nat.le_of_ble_eq_true rfl) (Nat.le_of_ble_eq_true rfl) ?_
        refine x_noteNumbers (o := (σ 7 l 2)) (u := (fun j => σ 9 l (0 + j))) (n := ((σ 7 l 6) - 0).toNat) r_ρ5 (fun ρ6 g_ρ6 n_ρ6 => ?_)
        have t_ρ6 : ∀ (c : Nat) (p q : Int), ¬ Fo c → ρ6 c p q = σ c p q := fun c p q hc => (g_ρ6 c p q (by omega)).trans (t_ρ5 c p q hc)
        have r_ρ6 : FRc ρ6 (σ 7 l 2) (fun j => σ 9 l (0 + j)) (((σ 7 l 6) - 0).toNat) := FRc.ext r_ρ5 (fun j hj => g_ρ6 14 0 j (by omega)) (fun j => g_ρ6 17 0 j (by omega)) (funext fun y => g_ρ6 16 0 y (by omega)) (funext fun y => g_ρ6 15 0 y (by omega))
        refine r_aload_n hC dX5_same_53 rfl ?_
        refine r_aload hC dX5_same_54 rfl ?_
        refine r_iconst hC dX5_same_56 rfl ?_
        refine r_aload hC dX5_same_57 rfl ?_
        refine z_getI (jz := 6) hM dX5_same_59 fl_RX5_154 rfl rfl rfl (fun v7 h_v7 o_v7 t_v7 => ?_)
        have w_v7 := ((t_v7 (Or.inl (by simp [Tb]))).trans (t_ρ6 7 o 6 (by decide))).symm
        subst w_v7
        have q_v7 : 0 ≤ (σ 7 o 6) ∧ (σ 7 o 6) ≤ 121 := o_v7.1 rfl
        refine z_inv3 hM dX5_same_62 vl_RX5_259 rfl rfl rfl (Nat.le_of_ble_eq_true rfl) (Nat.le_of_ble_eq_true rfl) ?_
        refine x_foldPart (i := o) (f := 0) (z := (σ 7 o 6)) (by omega) (by omega) (by omega) (fun ρ8 g_ρ8 r_ρ8 => ?_)
        have t_ρ8 : ∀ (c : Nat) (p q : Int), ¬ Fo c → ρ8 c p q = σ c p q := fun c p q hc => (g_ρ8 c p q (by omega)).trans (t_ρ6 c p q hc)
        have n_ρ8 := NT.e n_ρ6 (g_ρ8 14 0 4 (by omega)) (fun y => g_ρ8 18 0 y (by omega)) (funext fun y => g_ρ8 16 0 y (by omega)) (funext fun y => g_ρ8 15 0 y (by omega))
        rw [show ρ6 7 o 2 = σ 7 o 2 from t_ρ6 7 o 2 (by decide), show ρ6 9 o = σ 9 o from funext fun y => t_ρ6 9 o y (by decide)] at r_ρ8
        refine r_aload_n hC dX5_same_65 rfl ?_
        refine z_getR hM dX5_same_66 fl_RX5_40 rfl rfl (vld_of (n := 1) rfl (by omega) (by omega)) ?_
        refine z_inv0 hM dX5_same_69 vl_RX5_278 rfl rfl rfl (Nat.le_of_ble_eq_true rfl) (Nat.le_of_ble_eq_true rfl) ?_
        have hF_ := r_ρ8
        rw [show (σ 7 o 2) = (σ 7 l 2) from by omega] at hF_
        refine x_isAsNoted (o := (σ 7 l 2)) (u := (fun j => σ 9 l (0 + j))) (v := (fun j => σ 9 o (0 + j))) (n := ((σ 7 l 6) - 0).toNat) (m := ((σ 7 o 6) - 0).toNat) (by omega) hF_.1 hF_.2.1 n_ρ8.1 hF_ n_ρ8 (fun hn_69 => ?_) (fun hn_69 => ?_)
        · rw [alk_c (V := σ) (funext fun y => t_ρ8 16 0 y (by decide)) (funext fun y => t_ρ8 15 0 y (by decide))] at hn_69
          refine r_if_eq (tgt := 79) hC dX5_same_72 rfl (fun h9 => by omega) (fun h9 => ?_)
          refine r_iconst hC dX5_same_75 rfl ?_
          refine r_goto (tgt := 80) hC dX5_same_76 rfl ?_
          refine y_iret hK rfl dX5_same_80 ?_
          have hA : saA σ l o 1 := by
            have q := hn_69
            rw [alk_t (u2 := σ 9 l) (v2 := σ 9 o) (n2 := (σ 7 l 6).toNat) (m2 := (σ 7 o 6).toNat) (by omega) (by omega) (fun j a b => by rw [Int.zero_add]) (fun j a b => by rw [Int.zero_add])] at q
            exact ⟨fun z => absurd (by unfold saC opV; omega) z, fun _ => ⟨fun _ => rfl, fun z => absurd q z⟩⟩
          exact k _ _ hA (t_ρ8) (FRc.inF r_ρ8 (fun j h0 h1 => by rw [t_ρ8 15 0 j (by decide)]; exact hcl j h0 h1))
        · rw [alk_c (V := σ) (funext fun y => t_ρ8 16 0 y (by decide)) (funext fun y => t_ρ8 15 0 y (by decide))] at hn_69
          refine r_if_eq (tgt := 79) hC dX5_same_72 rfl (fun h10 => ?_) (fun h10 => by omega)
          refine r_iconst hC dX5_same_79 rfl ?_
          refine y_iret hK rfl dX5_same_80 ?_
          have hA : saA σ l o 0 := by
            have q := hn_69
            rw [alk_t (u2 := σ 9 l) (v2 := σ 9 o) (n2 := (σ 7 l 6).toNat) (m2 := (σ 7 o 6).toNat) (by omega) (by omega) (fun j a b => by rw [Int.zero_add]) (fun j a b => by rw [Int.zero_add])] at q
            exact ⟨fun z => absurd (by unfold saC opV; omega) z, fun _ => ⟨fun z => absurd z q, fun _ => rfl⟩⟩
          exact k _ _ hA (t_ρ8) (FRc.inF r_ρ8 (fun j h0 h1 => by rw [t_ρ8 15 0 j (by decide)]; exact hcl j h0 h1))
      · refine r_iconst hC dX5_same_34 rfl ?_
        refine y_iret hK rfl dX5_same_35 ?_
        have hA : saA σ l o (-1) := by
          exact ⟨fun _ => rfl, fun q => by unfold saC opV at q; omega⟩
        exact k _ _ hA (fun _ _ _ _ => rfl) hI
    · refine r_astoreN hC dX5_same_11 rfl ?_
      refine r_aload_n hC dX5_same_13 rfl ?_
      refine r_ifnullR hC dX5_same_14 ?_
      refine r_aloadN hC dX5_same_17 rfl ?_
      refine r_ifnullN (tgt := 34) hC dX5_same_19 rfl ?_
      refine r_iconst hC dX5_same_34 rfl ?_
      refine y_iret hK rfl dX5_same_35 ?_
      have hA : saA σ l o (-1) := by
        exact ⟨fun _ => rfl, fun q => by unfold saC opV at q; omega⟩
      exact k _ _ hA (fun _ _ _ _ => rfl) hI
  · refine r_astoreN_n hC dX5_same_5 rfl ?_
    refine r_aload_n hC dX5_same_6 rfl ?_
    refine r_iload_n hC dX5_same_7 rfl ?_
    refine z_inv1 hM dX5_same_8 vl_RX5_123 rfl rfl rfl (Nat.le_of_ble_eq_true rfl) (Nat.le_of_ble_eq_true rfl) ?_
    refine x_openLane (fun hl_8 => ?_) (fun hl_8 => ?_)
    · have h6_8 := hG.1.h7 (l := o) (by omega) (by omega)
      have hN_8 := numF_rng (σ 7 o 2)
      have hO_8 := (hG.2.1.2.2.2.1 o (by omega) (by omega)).2
      refine r_astore hC dX5_same_11 rfl ?_
      refine r_aloadN_n hC dX5_same_13 rfl ?_
      refine r_ifnullN (tgt := 34) hC dX5_same_14 rfl ?_
      refine r_iconst hC dX5_same_34 rfl ?_
      refine y_iret hK rfl dX5_same_35 ?_
      have hA : saA σ l o (-1) := by
        exact ⟨fun _ => rfl, fun q => by unfold saC opV at q; omega⟩
      exact k _ _ hA (fun _ _ _ _ => rfl) hI
    · refine r_astoreN hC dX5_same_11 rfl ?_
      refine r_aloadN_n hC dX5_same_13 rfl ?_
      refine r_ifnullN (tgt := 34) hC dX5_same_14 rfl ?_
      refine r_iconst hC dX5_same_34 rfl ?_
      refine y_iret hK rfl dX5_same_35 ?_
      have hA : saA σ l o (-1) := by
        exact ⟨fun _ => rfl, fun q => by unfold saC opV at q; omega⟩
      exact k _ _ hA (fun _ _ _ _ => rfl) hI
theorem x_same {eb : Bool} {d : Nat} {P : Option Vl → Mm → Prop} {σ : Mm} {l o : Int} (hG : GI σ) (k : ∀ r : Int, saA σ l o r → P (some (vI r)) σ) : WT (true, false, eb) (d + 5) 88 [vR 2 0, vI l, vI o] σ P := WT_fold fun ρ e hI => x_same_S hI (hG.fo e) (fun r ρ2 hA gq hI2 => ⟨hI2, σ, k r (by
    have hc : saA ρ l o r = saA σ l o r := by (delta saA YN alk saC opV; simp only [e 7 (by decide), e 8 (by decide), e 9 (by decide), e 15 (by decide), e 16 (by decide)])
    rw [← hc]
    exact hA), fun c x y hc => (gq c x y hc).trans (by rw [e c hc])⟩)
theorem x_commutes_S {eb : Bool} {d : Nat} {P : Option Vl → Mm → Prop} {σ : Mm} {l x : Int}  (hI : InF σ) (hG : GI σ)  (k : ∀ (r : Int) (ρ : Mm), comA σ l x r → (∀ (c : Nat) (x y : Int), ¬ Fo c → ρ c x y = σ c x y) → InF ρ → P (some (vI r)) ρ) : WT (true, true, eb) (d + 5) 84 [vR 2 0, vI l, vI x] σ P := by
  refine WT_in fun K hK => ?_
  have hK : StpY (true, true, eb) cX5_commutes RX5 (some .int) (WT (true, true, eb) (d + 4)) P K := hK
  have hM := hK.1
  have hC := hK.1.1
  show K 0 [some (vR 2 0), some (vI l), some (vI x), none, none, none] [] σ
  refine z_ok hM (fun hok => ?_)
  refine r_rngz hC (fun g0 => ?_)
  have r_l : -2147483648 ≤ l ∧ l ≤ 2147483647 := inR_le (g0 (vI l) (by simp))
  have r_x : -2147483648 ≤ x ∧ x ≤ 2147483647 := inR_le (g0 (vI x) (by simp))
  have hcl := hG.2.1.2.2.2.2.2.2.2
  have hrow := hG.2.1.2.2.1
  refine r_aload_n hC dX5_commutes_0 rfl ?_
  refine r_iload_n hC dX5_commutes_1 rfl ?_
  refine r_iload_n hC dX5_commutes_2 rfl ?_
  refine z_inv2 hM dX5_commutes_3 vl_RX5_171 rfl rfl rfl (Nat.le_of_ble_eq_true rfl) (Nat.le_of_ble_eq_true rfl) ?_
  refine x_laneHolding (fun hl_3 => ?_) (fun hl_3 => ?_)
  · have h6_3 := hG.1.h7 (l := l) (by omega) (by omega)
    have hN_3 := numF_rng (σ 7 l 2)
    have hO_3 := (hG.2.1.2.2.2.1 l (by omega) (by omega)).2
    refine r_astore_n hC dX5_commutes_6 rfl ?_
    refine r_aload_n hC dX5_commutes_7 rfl ?_
    refine r_ifnullR hC dX5_commutes_8 ?_
    refine r_iload_n hC dX5_commutes_11 rfl ?_
    refine r_aload_n hC dX5_commutes_12 rfl ?_
    refine z_getI (jz := 6) hM dX5_commutes_13 fl_RX5_154 rfl rfl rfl (fun v1 h_v1 o_v1 t_v1 => ?_)
    have w_v1 := ((t_v1 (Or.inl (by simp [Tb]))).trans (rfl)).symm
    subst w_v1
    have q_v1 : 0 ≤ (σ 7 l 6) ∧ (σ 7 l 6) ≤ 121 := o_v1.1 rfl
    refine r_iconst hC dX5_commutes_16 rfl ?_
    refine r_isubE hC (((σ 7 l 6) - 1)) dX5_commutes_17 (by omega) (by unfold inR; omega) ?_
    refine r_icmp_ne (tgt := 23) hC dX5_commutes_18 rfl (fun h2 => ?_) (fun h2 => ?_)
    · refine r_aload_n hC dX5_commutes_23 rfl ?_
      refine r_aload_n hC dX5_commutes_24 rfl ?_
      refine r_iconst hC dX5_commutes_25 rfl ?_
      refine r_aload_n hC dX5_commutes_26 rfl ?_
      refine z_getI (jz := 6) hM dX5_commutes_27 fl_RX5_154 rfl rfl rfl (fun v3 h_v3 o_v3 t_v3 => ?_)
      have w_v3 := ((t_v3 (Or.inl (by simp [Tb]))).trans (rfl)).symm
      subst w_v3
      have q_v3 : 0 ≤ (σ 7 l 6) ∧ (σ 7 l 6) ≤ 121 := o_v3.1 rfl
      refine z_inv3 hM dX5_commutes_30 vl_RX5_259 rfl rfl rfl (Nat.le_of_ble_eq_true rfl) (Nat.le_of_ble_eq_true rfl) ?_
      refine x_foldPart (i := l) (f := 0) (z := (σ 7 l 6)) (by omega) (by omega) (by omega) (fun ρ4 g_ρ4 r_ρ4 => ?_)
      have t_ρ4 : ∀ (c : Nat) (p q : Int), ¬ Fo c → ρ4 c p q = σ c p q := fun c p q hc => (g_ρ4 c p q (by omega)).trans ((fun _ _ _ _ => rfl) c p q hc)
      refine r_aload_n hC dX5_commutes_33 rfl ?_
      refine z_getR hM dX5_commutes_34 fl_RX5_40 rfl rfl (vld_of (n := 1) rfl (by omega) (by omega)) ?_
      refine z_inv0 hM dX5_commutes_37 vl_RX5_275 rfl rfl rfl (Nat.le_of_ble_eq_true rfl) (Nat.le_of_ble_eq_true rfl) ?_
      refine x_noteNumbers (o := (σ 7 l 2)) (u := (fun j => σ 9 l (0 + j))) (n := ((σ 7 l 6) - 0).toNat) r_ρ4 (fun ρ5 g_ρ5 n_ρ5 => ?_)
      have t_ρ5 : ∀ (c : Nat) (p q : Int), ¬ Fo c → ρ5 c p q = σ c p q := fun c p q hc => (g_ρ5 c p q (by omega)).trans (t_ρ4 c p q hc)
      have r_ρ5 : FRc ρ5 (σ 7 l 2) (fun j => σ 9 l (0 + j)) (((σ 7 l 6) - 0).toNat) := FRc.ext r_ρ4 (fun j hj => g_ρ5 14 0 j (by omega)) (fun j => g_ρ5 17 0 j (by omega)) (funext fun y => g_ρ5 16 0 y (by omega)) (funext fun y => g_ρ5 15 0 y (by omega))
      refine r_aload_n hC dX5_commutes_40 rfl ?_
      refine z_getR hM dX5_commutes_41 fl_RX5_40 rfl rfl (vld_of (n := 1) rfl (by omega) (by omega)) ?_
      refine r_aload_n hC dX5_commutes_44 rfl ?_
      refine z_getI (jz := 2) hM dX5_commutes_45 fl_RX5_98 rfl rfl rfl (fun v6 h_v6 o_v6 t_v6 => ?_)
      have w_v6 := ((t_v6 (Or.inl (by simp [Tb]))).trans (t_ρ5 7 l 2 (by decide))).symm
      subst w_v6
      have q_v6 : 0 ≤ (σ 7 l 2) ∧ (σ 7 l 2) ≤ 9 := o_v6.2.2 rfl
      refine z_inv1 hM dX5_commutes_48 vl_RX5_251 rfl rfl rfl (Nat.le_of_ble_eq_true rfl) (Nat.le_of_ble_eq_true rfl) ?_
      refine x_begin (by omega) rfl rfl rfl rfl rfl rfl rfl rfl rfl rfl (fun ρ7 g_ρ7 z_ρ7 => ?_)
      have t_ρ7 : ∀ (c : Nat) (p q : Int), ¬ Fo c → ρ7 c p q = σ c p q := fun c p q hc => (g_ρ7 c p q (by omega)).trans (t_ρ5 c p q hc)
      have n_ρ7 := NT.e n_ρ5 (g_ρ7 14 0 4 (by omega)) (fun y => g_ρ7 18 0 y (by omega)) (funext fun y => g_ρ7 16 0 y (by omega)) (funext fun y => g_ρ7 15 0 y (by omega))
      refine r_iconst hC dX5_commutes_51 rfl ?_
      refine r_istore hC dX5_commutes_52 rfl ?_
      have L54 : ∀ (n54 : Nat) (w8 : Int) (ρ9 : Mm), 0 ≤ w8 ∧ w8 ≤ 121 → ((w8) ≤ σ 7 l 6) → 121 - w8 < (n54 : Int) → (∀ (c : Nat) (p q : Int), ¬ Fo c → ρ9 c p q = σ c p q) → (FRc ρ9 (σ 7 l 2) (coU σ l x) ((w8).toNat)) → (NT ρ9 (σ 7 l 2) (fun j => σ 9 l (0 + j)) ((σ 7 l 6 - 0).toNat)) → K 54 [some (vR 2 0), some (vI l), some (vI x), some (vR 7 l), some (vI w8), none] [] ρ9 := by
        intro n54
        induction n54 with
        | zero => intro w8 ρ9 f_w8 i0_54 hm  m0_54 m1_54 m2_54; omega
        | succ n54 ih54 =>
          intro w8 ρ9 f_w8 i0_54 hm54  m0_54 m1_54 m2_54
          refine r_iload hC dX5_commutes_54 rfl ?_
          refine r_aload_n hC dX5_commutes_56 rfl ?_
          refine z_getI (jz := 6) hM dX5_commutes_57 fl_RX5_154 rfl rfl rfl (fun v10 h_v10 o_v10 t_v10 => ?_)
          have w_v10 := ((t_v10 (Or.inl (by simp [Tb]))).trans (m0_54 7 l 6 (by decide))).symm
          subst w_v10
          have q_v10 : 0 ≤ (σ 7 l 6) ∧ (σ 7 l 6) ≤ 121 := o_v10.1 rfl
          refine r_icmp_ge (tgt := 111) hC dX5_commutes_60 rfl (fun h11 => ?_) (fun h11 => ?_)
          · refine r_aload_n hC dX5_commutes_111 rfl ?_
            refine z_getR hM dX5_commutes_112 fl_RX5_40 rfl rfl (vld_of (n := 1) rfl (by omega) (by omega)) ?_
            refine z_inv0 hM dX5_commutes_115 vl_RX5_278 rfl rfl rfl (Nat.le_of_ble_eq_true rfl) (Nat.le_of_ble_eq_true rfl) ?_
            refine x_isAsNoted (o := (σ 7 l 2)) (u := (fun j => σ 9 l (0 + j))) (v := (coU σ l x)) (n := (σ 7 l 6 - 0).toNat) (m := (w8).toNat) (by omega) m1_54.1 m1_54.2.1 m2_54.1 m1_54 m2_54 (fun hn_115 => ?_) (fun hn_115 => ?_)
            · rw [alk_c (V := σ) (funext fun y => m0_54 16 0 y (by decide)) (funext fun y => m0_54 15 0 y (by decide))] at hn_115
              refine r_if_eq (tgt := 125) hC dX5_commutes_118 rfl (fun h12 => by omega) (fun h12 => ?_)
              refine r_iconst hC dX5_commutes_121 rfl ?_
              refine r_goto (tgt := 126) hC dX5_commutes_122 rfl ?_
              refine y_iret hK rfl dX5_commutes_126 ?_
              have hA : comA σ l x 1 := by
                have q := hn_115
                rw [alk_t (u2 := σ 9 l) (v2 := coU σ l x) (n2 := (σ 7 l 6).toNat) (m2 := (σ 7 l 6).toNat) (by omega) (by omega) (fun j a b => by rw [Int.zero_add]) (fun j a b => rfl)] at q
                exact ⟨fun z => absurd (by unfold comC opV; omega) z, fun _ => ⟨fun _ => rfl, fun z => absurd q z⟩⟩
              exact k _ _ hA (m0_54) (FRc.inF m1_54 (fun j h0 h1 => by rw [m0_54 15 0 j (by decide)]; exact hcl j h0 h1))
            · rw [alk_c (V := σ) (funext fun y => m0_54 16 0 y (by decide)) (funext fun y => m0_54 15 0 y (by decide))] at hn_115
              refine r_if_eq (tgt := 125) hC dX5_commutes_118 rfl (fun h13 => ?_) (fun h13 => by omega)
              refine r_iconst hC dX5_commutes_125 rfl ?_
              refine y_iret hK rfl dX5_commutes_126 ?_
              have hA : comA σ l x 0 := by
                have q := hn_115
                rw [alk_t (u2 := σ 9 l) (v2 := coU σ l x) (n2 := (σ 7 l 6).toNat) (m2 := (σ 7 l 6).toNat) (by omega) (by omega) (fun j a b => by rw [Int.zero_add]) (fun j a b => rfl)] at q
                exact ⟨fun z => absurd (by unfold comC opV; omega) z, fun _ => ⟨fun z => absurd z q, fun _ => rfl⟩⟩
              exact k _ _ hA (m0_54) (FRc.inF m1_54 (fun j h0 h1 => by rw [m0_54 15 0 j (by decide)]; exact hcl j h0 h1))
          · refine r_iload hC dX5_commutes_63 rfl ?_
            refine r_iload_n hC dX5_commutes_65 rfl ?_
            refine r_icmp_ne (tgt := 75) hC dX5_commutes_66 rfl (fun h14 => ?_) (fun h14 => ?_)
            · refine r_iload hC dX5_commutes_75 rfl ?_
              refine r_iload_n hC dX5_commutes_77 rfl ?_
              refine r_iconst hC dX5_commutes_78 rfl ?_
              refine r_iaddE hC ((x + 1)) dX5_commutes_79 (by omega) (by unfold inR; omega) ?_
              refine r_icmp_ne (tgt := 87) hC dX5_commutes_80 rfl (fun h15 => ?_) (fun h15 => ?_)
              · refine r_iload hC dX5_commutes_87 rfl ?_
                refine r_istore hC dX5_commutes_89 rfl ?_
                refine r_aload_n hC dX5_commutes_91 rfl ?_
                refine z_getR hM dX5_commutes_92 fl_RX5_40 rfl rfl (vld_of (n := 1) rfl (by omega) (by omega)) ?_
                refine r_aload_n hC dX5_commutes_95 rfl ?_
                refine z_getR hM dX5_commutes_96 fl_RX5_176 rfl rfl (vld_of (n := 7) rfl (by omega) (by omega)) ?_
                refine r_iload hC dX5_commutes_99 rfl ?_
                refine z_iald hM dX5_commutes_101 rfl (by omega) (by omega) (fun v16 h_v16 o_v16 t_v16 => ?_)
                have w_v16 := ((t_v16 (Or.inl (by simp [Tb]))).trans (m0_54 9 l w8 (by decide))).symm
                subst w_v16
                have q_v16 : -1000 ≤ (σ 9 l w8) ∧ (σ 9 l w8) ≤ 1000 := o_v16
                refine z_inv1 hM dX5_commutes_102 vl_RX5_253 rfl rfl rfl (Nat.le_of_ble_eq_true rfl) (Nat.le_of_ble_eq_true rfl) ?_
                refine x_append2 (u := (coU σ l x)) (n := (w8).toNat) (by show (σ 9 l w8) = coU σ l x (((w8).toNat : Nat) : Int); unfold coU; refine congrArg (σ 9 l) ?_; (repeat' split) <;> omega) (by omega) (by omega) (by omega) (fun j h0 h1 => by unfold coU; exact (hrow l _ (by omega) (by omega) (by (repeat' split) <;> omega) (by (repeat' split) <;> omega)).2) m1_54 (fun j h0 h1 => by rw [m0_54 15 0 j (by decide)]; exact hcl j h0 h1) (fun ρ17 g_ρ17 r_ρ17 => ?_)
                have t_ρ17 : ∀ (c : Nat) (p q : Int), ¬ Fo c → ρ17 c p q = σ c p q := fun c p q hc => (g_ρ17 c p q (by omega)).trans (m0_54 c p q hc)
                have n_ρ17 := NT.e m2_54 (g_ρ17 14 0 4 (by omega)) (fun y => g_ρ17 18 0 y (by omega)) (funext fun y => g_ρ17 16 0 y (by omega)) (funext fun y => g_ρ17 15 0 y (by omega))
                refine r_iincE hC ((w8 + 1)) dX5_commutes_105 rfl rfl (by omega) (by unfold inR; omega) ?_
                refine r_goto (tgt := 54) hC dX5_commutes_108 rfl ?_
                refine r_forget hC (ls2 := [some (vR 2 0), some (vI l), some (vI x), some (vR 7 l), some (vI (w8 + 1)), none]) (lsub_some (lsub_some (lsub_some (lsub_some (lsub_some (lsub_none lsub_nil)))))) ?_
                exact ih54 ((w8 + 1)) ρ17 (by omega) (by omega) (by omega)  (t_ρ17) (by rw [show ((((w8 + 1) : Int)).toNat : Nat) = ((w8).toNat + 1) from by omega]; exact r_ρ17) (n_ρ17)
              · refine r_iload_n hC dX5_commutes_83 rfl ?_
                refine r_goto (tgt := 89) hC dX5_commutes_84 rfl ?_
                refine r_istore hC dX5_commutes_89 rfl ?_
                refine r_aload_n hC dX5_commutes_91 rfl ?_
                refine z_getR hM dX5_commutes_92 fl_RX5_40 rfl rfl (vld_of (n := 1) rfl (by omega) (by omega)) ?_
                refine r_aload_n hC dX5_commutes_95 rfl ?_
                refine z_getR hM dX5_commutes_96 fl_RX5_176 rfl rfl (vld_of (n := 7) rfl (by omega) (by omega)) ?_
                refine r_iload hC dX5_commutes_99 rfl ?_
                refine z_iald hM dX5_commutes_101 rfl (by omega) (by omega) (fun v18 h_v18 o_v18 t_v18 => ?_)
                have w_v18 := ((t_v18 (Or.inl (by simp [Tb]))).trans (m0_54 9 l x (by decide))).symm
                subst w_v18
                have q_v18 : -1000 ≤ (σ 9 l x) ∧ (σ 9 l x) ≤ 1000 := o_v18
                refine z_inv1 hM dX5_commutes_102 vl_RX5_253 rfl rfl rfl (Nat.le_of_ble_eq_true rfl) (Nat.le_of_ble_eq_true rfl) ?_
                refine x_append2 (u := (coU σ l x)) (n := (w8).toNat) (by show (σ 9 l x) = coU σ l x (((w8).toNat : Nat) : Int); unfold coU; refine congrArg (σ 9 l) ?_; (repeat' split) <;> omega) (by omega) (by omega) (by omega) (fun j h0 h1 => by unfold coU; exact (hrow l _ (by omega) (by omega) (by (repeat' split) <;> omega) (by (repeat' split) <;> omega)).2) m1_54 (fun j h0 h1 => by rw [m0_54 15 0 j (by decide)]; exact hcl j h0 h1) (fun ρ19 g_ρ19 r_ρ19 => ?_)
                have t_ρ19 : ∀ (c : Nat) (p q : Int), ¬ Fo c → ρ19 c p q = σ c p q := fun c p q hc => (g_ρ19 c p q (by omega)).trans (m0_54 c p q hc)
                have n_ρ19 := NT.e m2_54 (g_ρ19 14 0 4 (by omega)) (fun y => g_ρ19 18 0 y (by omega)) (funext fun y => g_ρ19 16 0 y (by omega)) (funext fun y => g_ρ19 15 0 y (by omega))
                refine r_iincE hC ((w8 + 1)) dX5_commutes_105 rfl rfl (by omega) (by unfold inR; omega) ?_
                refine r_goto (tgt := 54) hC dX5_commutes_108 rfl ?_
                refine r_forget hC (ls2 := [some (vR 2 0), some (vI l), some (vI x), some (vR 7 l), some (vI (w8 + 1)), none]) (lsub_some (lsub_some (lsub_some (lsub_some (lsub_some (lsub_none lsub_nil)))))) ?_
                exact ih54 ((w8 + 1)) ρ19 (by omega) (by omega) (by omega)  (t_ρ19) (by rw [show ((((w8 + 1) : Int)).toNat : Nat) = ((w8).toNat + 1) from by omega]; exact r_ρ19) (n_ρ19)
            · refine r_iload_n hC dX5_commutes_69 rfl ?_
              refine r_iconst hC dX5_commutes_70 rfl ?_
              refine r_iaddE hC ((x + 1)) dX5_commutes_71 (by omega) (by unfold inR; omega) ?_
              refine r_goto (tgt := 89) hC dX5_commutes_72 rfl ?_
              refine r_istore hC dX5_commutes_89 rfl ?_
              refine r_aload_n hC dX5_commutes_91 rfl ?_
              refine z_getR hM dX5_commutes_92 fl_RX5_40 rfl rfl (vld_of (n := 1) rfl (by omega) (by omega)) ?_
              refine r_aload_n hC dX5_commutes_95 rfl ?_
              refine z_getR hM dX5_commutes_96 fl_RX5_176 rfl rfl (vld_of (n := 7) rfl (by omega) (by omega)) ?_
              refine r_iload hC dX5_commutes_99 rfl ?_
              refine z_iald hM dX5_commutes_101 rfl (by omega) (by omega) (fun v20 h_v20 o_v20 t_v20 => ?_)
              have w_v20 := ((t_v20 (Or.inl (by simp [Tb]))).trans (m0_54 9 l (x + 1) (by decide))).symm
              subst w_v20
              have q_v20 : -1000 ≤ (σ 9 l (x + 1)) ∧ (σ 9 l (x + 1)) ≤ 1000 := o_v20
              refine z_inv1 hM dX5_commutes_102 vl_RX5_253 rfl rfl rfl (Nat.le_of_ble_eq_true rfl) (Nat.le_of_ble_eq_true rfl) ?_
              refine x_append2 (u := (coU σ l x)) (n := (w8).toNat) (by show (σ 9 l (x + 1)) = coU σ l x (((w8).toNat : Nat) : Int); unfold coU; refine congrArg (σ 9 l) ?_; (repeat' split) <;> omega) (by omega) (by omega) (by omega) (fun j h0 h1 => by unfold coU; exact (hrow l _ (by omega) (by omega) (by (repeat' split) <;> omega) (by (repeat' split) <;> omega)).2) m1_54 (fun j h0 h1 => by rw [m0_54 15 0 j (by decide)]; exact hcl j h0 h1) (fun ρ21 g_ρ21 r_ρ21 => ?_)
              have t_ρ21 : ∀ (c : Nat) (p q : Int), ¬ Fo c → ρ21 c p q = σ c p q := fun c p q hc => (g_ρ21 c p q (by omega)).trans (m0_54 c p q hc)
              have n_ρ21 := NT.e m2_54 (g_ρ21 14 0 4 (by omega)) (fun y => g_ρ21 18 0 y (by omega)) (funext fun y => g_ρ21 16 0 y (by omega)) (funext fun y => g_ρ21 15 0 y (by omega))
              refine r_iincE hC ((w8 + 1)) dX5_commutes_105 rfl rfl (by omega) (by unfold inR; omega) ?_
              refine r_goto (tgt := 54) hC dX5_commutes_108 rfl ?_
              refine r_forget hC (ls2 := [some (vR 2 0), some (vI l), some (vI x), some (vR 7 l), some (vI (w8 + 1)), none]) (lsub_some (lsub_some (lsub_some (lsub_some (lsub_some (lsub_none lsub_nil)))))) ?_
              exact ih54 ((w8 + 1)) ρ21 (by omega) (by omega) (by omega)  (t_ρ21) (by rw [show ((((w8 + 1) : Int)).toNat : Nat) = ((w8).toNat + 1) from by omega]; exact r_ρ21) (n_ρ21)
      exact L54 123 (0) ρ7 (by omega) (by omega) (by omega)  (t_ρ7) (by rw [show (((0 : Int)).toNat : Nat) = 0 from by omega]; exact z_ρ7 (coU σ l x)) (n_ρ7)
    · refine r_iconst hC dX5_commutes_21 rfl ?_
      refine y_iret hK rfl dX5_commutes_22 ?_
      have hA : comA σ l x (-1) := by
        exact ⟨fun _ => rfl, fun q => by unfold comC opV at q; omega⟩
      exact k _ _ hA (fun _ _ _ _ => rfl) hI
  · refine r_astoreN_n hC dX5_commutes_6 rfl ?_
    refine r_aloadN_n hC dX5_commutes_7 rfl ?_
    refine r_ifnullN (tgt := 21) hC dX5_commutes_8 rfl ?_
    refine r_iconst hC dX5_commutes_21 rfl ?_
    refine y_iret hK rfl dX5_commutes_22 ?_
    have hA : comA σ l x (-1) := by
      exact ⟨fun _ => rfl, fun q => by unfold comC opV at q; omega⟩
    exact k _ _ hA (fun _ _ _ _ => rfl) hI
theorem x_commutes {eb : Bool} {d : Nat} {P : Option Vl → Mm → Prop} {σ : Mm} {l x : Int} (hG : GI σ) (k : ∀ r : Int, comA σ l x r → P (some (vI r)) σ) : WT (true, false, eb) (d + 5) 84 [vR 2 0, vI l, vI x] σ P := WT_fold fun ρ e hI => x_commutes_S hI (hG.fo e) (fun r ρ2 hA gq hI2 => ⟨hI2, σ, k r (by
    have hc : comA ρ l x r = comA σ l x r := by (delta comA YN alk coU comC opV; simp only [e 7 (by decide), e 8 (by decide), e 9 (by decide), e 15 (by decide), e 16 (by decide)])
    rw [← hc]
    exact hA), fun c x y hc => (gq c x y hc).trans (by rw [e c hc])⟩)
theorem x_shortest_S {eb : Bool} {d : Nat} {P : Option Vl → Mm → Prop} {σ : Mm} {l w b u : Int}  (hI : InF σ) (hG : GI σ)  (k : ∀ (r : Int) (ρ : Mm), stA σ l w b u r → (∀ (c : Nat) (x y : Int), ¬ Fo c → ρ c x y = σ c x y) → InF ρ → P (some (vI r)) ρ) : WT (true, true, eb) (d + 5) 109 [vR 2 0, vI l, vI w, vI b, vI u] σ P := by
  refine WT_in fun K hK => ?_
  have hK : StpY (true, true, eb) cX5_shortest RX5 (some .int) (WT (true, true, eb) (d + 4)) P K := hK
  have hM := hK.1
  have hC := hK.1.1
  show K 0 [some (vR 2 0), some (vI l), some (vI w), some (vI b), some (vI u), none, none, none, none, none] [] σ
  refine z_ok hM (fun hok => ?_)
  refine r_rngz hC (fun g0 => ?_)
  have r_l : -2147483648 ≤ l ∧ l ≤ 2147483647 := inR_le (g0 (vI l) (by simp))
  have r_w : -2147483648 ≤ w ∧ w ≤ 2147483647 := inR_le (g0 (vI w) (by simp))
  have r_b : -2147483648 ≤ b ∧ b ≤ 2147483647 := inR_le (g0 (vI b) (by simp))
  have r_u : -2147483648 ≤ u ∧ u ≤ 2147483647 := inR_le (g0 (vI u) (by simp))
  have hcl := hG.2.1.2.2.2.2.2.2.2
  have hrow := hG.2.1.2.2.1
  refine r_aload_n hC dX5_shortest_0 rfl ?_
  refine r_iload_n hC dX5_shortest_1 rfl ?_
  refine r_iload_n hC dX5_shortest_2 rfl ?_
  refine z_inv2 hM dX5_shortest_3 vl_RX5_248 rfl rfl rfl (Nat.le_of_ble_eq_true rfl) (Nat.le_of_ble_eq_true rfl) ?_
  refine x_laneWith (fun hl_3 => ?_) (fun hl_3 => ?_)
  · have h6_3 := hG.1.h7 (l := l) (by omega) (by omega)
    have hN_3 := numF_rng (σ 7 l 2)
    have hO_3 := (hG.2.1.2.2.2.1 l (by omega) (by omega)).2
    refine r_astore hC dX5_shortest_6 rfl ?_
    refine r_aload hC dX5_shortest_8 rfl ?_
    refine r_ifnullR hC dX5_shortest_10 ?_
    refine r_iload hC dX5_shortest_13 rfl ?_
    refine r_iconst hC dX5_shortest_15 rfl ?_
    refine r_iconst hC dX5_shortest_16 rfl ?_
    refine z_ins3 hM dX5_shortest_17 tl_RX5_59 rfl (Nat.le_of_ble_eq_true rfl) (Nat.le_of_ble_eq_true rfl) ?_
    refine s_within (fun h2 => ?_) (fun h2 => ?_)
    · refine r_if_ne (tgt := 25) hC dX5_shortest_20 rfl (fun h3 => ?_) (fun h3 => by omega)
      refine r_aload hC dX5_shortest_25 rfl ?_
      refine z_getI (jz := 6) hM dX5_shortest_27 fl_RX5_154 rfl rfl rfl (fun v4 h_v4 o_v4 t_v4 => ?_)
      have w_v4 := ((t_v4 (Or.inl (by simp [Tb]))).trans (rfl)).symm
      subst w_v4
      have q_v4 : 0 ≤ (σ 7 l 6) ∧ (σ 7 l 6) ≤ 121 := o_v4.1 rfl
      refine r_iconst hC dX5_shortest_30 rfl ?_
      refine r_iaddE hC (((σ 7 l 6) + 1)) dX5_shortest_31 (by omega) (by unfold inR; omega) ?_
      refine r_istore hC dX5_shortest_32 rfl ?_
      refine r_iconst hC dX5_shortest_34 rfl ?_
      refine r_istore hC dX5_shortest_35 rfl ?_
      refine r_iconst hC dX5_shortest_37 rfl ?_
      refine r_istore hC dX5_shortest_38 rfl ?_
      have L40 : ∀ (n40 : Nat) (w5 w6 w7 : Int) (ρ8 : Mm), 1 ≤ w5 ∧ w5 ≤ 122 → -1 ≤ w6 ∧ w6 ≤ 120 → 0 ≤ w7 ∧ w7 ≤ 121 → (ShP (fun f m => rchV σ l f (f + m) w b) (σ 7 l 6) (w7) (w5) (w6)) → ((w7) ≤ σ 7 l 6) → 121 - w7 < (n40 : Int) → (∀ (c : Nat) (p q : Int), ¬ Fo c → ρ8 c p q = σ c p q) → (InF ρ8) → K 40 [some (vR 2 0), some (vI l), some (vI w), some (vI b), some (vI u), some (vR 7 l), some (vI w5), some (vI w6), some (vI w7), none] [] ρ8 := by
        intro n40
        induction n40 with
        | zero => intro w5 w6 w7 ρ8 f_w5 f_w6 f_w7 i0_40 i1_40 hm  m0_40 m1_40; omega
        | succ n40 ih40 =>
          intro w5 w6 w7 ρ8 f_w5 f_w6 f_w7 i0_40 i1_40 hm40  m0_40 m1_40
          refine r_iload hC dX5_shortest_40 rfl ?_
          refine r_aload hC dX5_shortest_42 rfl ?_
          refine z_getI (jz := 6) hM dX5_shortest_44 fl_RX5_154 rfl rfl rfl (fun v9 h_v9 o_v9 t_v9 => ?_)
          have w_v9 := ((t_v9 (Or.inl (by simp [Tb]))).trans (m0_40 7 l 6 (by decide))).symm
          subst w_v9
          have q_v9 : 0 ≤ (σ 7 l 6) ∧ (σ 7 l 6) ≤ 121 := o_v9.1 rfl
          refine r_icmp_ge (tgt := 140) hC dX5_shortest_47 rfl (fun h10 => ?_) (fun h10 => ?_)
          · refine r_iload hC dX5_shortest_140 rfl ?_
            refine r_iconst hC dX5_shortest_142 rfl ?_
            refine r_icmp_ne (tgt := 150) hC dX5_shortest_143 rfl (fun h11 => ?_) (fun h11 => ?_)
            · refine r_iload hC dX5_shortest_150 rfl ?_
              refine r_if_ne (tgt := 160) hC dX5_shortest_152 rfl (fun h12 => ?_) (fun h12 => ?_)
              · refine r_iload hC dX5_shortest_160 rfl ?_
                refine y_iret hK rfl dX5_shortest_162 ?_
                have hA : stA σ l w b u w6 := by
                  have p := i0_40.done (by omega)
                  exact ⟨fun z => absurd (by unfold shC2 lwC opV; omega) z, fun _ => ⟨_, _, p, by (repeat' split) <;> omega⟩⟩
                exact k _ _ hA (m0_40) m1_40
              · refine r_iload hC dX5_shortest_155 rfl ?_
                refine r_goto (tgt := 162) hC dX5_shortest_157 rfl ?_
                refine y_iret hK rfl dX5_shortest_162 ?_
                have hA : stA σ l w b u w5 := by
                  have p := i0_40.done (by omega)
                  exact ⟨fun z => absurd (by unfold shC2 lwC opV; omega) z, fun _ => ⟨_, _, p, by (repeat' split) <;> omega⟩⟩
                exact k _ _ hA (m0_40) m1_40
            · refine r_iconst hC dX5_shortest_146 rfl ?_
              refine r_goto (tgt := 162) hC dX5_shortest_147 rfl ?_
              refine y_iret hK rfl dX5_shortest_162 ?_
              have hA : stA σ l w b u (-1) := by
                have p := i0_40.done (by omega)
                exact ⟨fun z => absurd (by unfold shC2 lwC opV; omega) z, fun _ => ⟨_, _, p, by (repeat' split) <;> omega⟩⟩
              exact k _ _ hA (m0_40) m1_40
          · refine r_aload_n hC dX5_shortest_50 rfl ?_
            refine z_getR hM dX5_shortest_51 fl_RX5_40 rfl rfl (vld_of (n := 1) rfl (by omega) (by omega)) ?_
            refine r_aload hC dX5_shortest_54 rfl ?_
            refine z_getI (jz := 2) hM dX5_shortest_56 fl_RX5_98 rfl rfl rfl (fun v13 h_v13 o_v13 t_v13 => ?_)
            have w_v13 := ((t_v13 (Or.inl (by simp [Tb]))).trans (m0_40 7 l 2 (by decide))).symm
            subst w_v13
            have q_v13 : 0 ≤ (σ 7 l 2) ∧ (σ 7 l 2) ≤ 9 := o_v13.2.2 rfl
            refine z_inv1 hM dX5_shortest_59 vl_RX5_251 rfl rfl rfl (Nat.le_of_ble_eq_true rfl) (Nat.le_of_ble_eq_true rfl) ?_
            refine x_begin (by omega) rfl rfl rfl rfl rfl rfl rfl rfl rfl rfl (fun ρ14 g_ρ14 z_ρ14 => ?_)
            have t_ρ14 : ∀ (c : Nat) (p q : Int), ¬ Fo c → ρ14 c p q = σ c p q := fun c p q hc => (g_ρ14 c p q (by omega)).trans (m0_40 c p q hc)
            refine r_iload hC dX5_shortest_62 rfl ?_
            refine r_istore hC dX5_shortest_64 rfl ?_
            have L66 : ∀ (n66 : Nat) (w15 w16 w17 : Int) (ρ18 : Mm), 1 ≤ w15 ∧ w15 ≤ 122 → -1 ≤ w16 ∧ w16 ≤ 120 → 0 ≤ w17 ∧ w17 ≤ 121 → ((w7) ≤ (w17)) → ((ShP (fun f m => rchV σ l f (f + m) w b) (σ 7 l 6) (w7) (w15) (w16) ∧ ∀ m : Int, 1 ≤ m → m ≤ (w17) - (w7) → ¬ rchV σ l (w7) ((w7) + m) w b) ∨ ((w15) = (w17) - (w7) ∧ ShP (fun f m => rchV σ l f (f + m) w b) (σ 7 l 6) ((w7) + 1) (w15) (w16))) → ((w17) ≤ σ 7 l 6) → 121 - w17 < (n66 : Int) → (∀ (c : Nat) (p q : Int), ¬ Fo c → ρ18 c p q = σ c p q) → (FRc ρ18 (σ 7 l 2) (fun j => σ 9 l (w7 + j)) ((w17 - w7).toNat)) → K 66 [some (vR 2 0), some (vI l), some (vI w), some (vI b), some (vI u), some (vR 7 l), some (vI w15), some (vI w16), some (vI w7), some (vI w17)] [] ρ18 := by
              intro n66
              induction n66 with
              | zero => intro w15 w16 w17 ρ18 f_w15 f_w16 f_w17 i0_66 i1_66 i2_66 hm  m0_66 m1_66; omega
              | succ n66 ih66 =>
                intro w15 w16 w17 ρ18 f_w15 f_w16 f_w17 i0_66 i1_66 i2_66 hm66  m0_66 m1_66
                refine r_iload hC dX5_shortest_66 rfl ?_
                refine r_aload hC dX5_shortest_68 rfl ?_
                refine z_getI (jz := 6) hM dX5_shortest_70 fl_RX5_154 rfl rfl rfl (fun v19 h_v19 o_v19 t_v19 => ?_)
                have w_v19 := ((t_v19 (Or.inl (by simp [Tb]))).trans (m0_66 7 l 6 (by decide))).symm
                subst w_v19
                have q_v19 : 0 ≤ (σ 7 l 6) ∧ (σ 7 l 6) ≤ 121 := o_v19.1 rfl
                refine r_icmp_ge (tgt := 134) hC dX5_shortest_73 rfl (fun h20 => ?_) (fun h20 => ?_)
                · refine r_iincE hC ((w7 + 1)) dX5_shortest_134 rfl rfl (by omega) (by unfold inR; omega) ?_
                  refine r_goto (tgt := 40) hC dX5_shortest_137 rfl ?_
                  refine r_forget hC (ls2 := [some (vR 2 0), some (vI l), some (vI w), some (vI b), some (vI u), some (vR 7 l), some (vI w15), some (vI w16), some (vI (w7 + 1)), none]) (lsub_some (lsub_some (lsub_some (lsub_some (lsub_some (lsub_some (lsub_some (lsub_some (lsub_some (lsub_none lsub_nil)))))))))) ?_
                  exact ih40 (w15) (w16) ((w7 + 1)) ρ18 (by omega) (by omega) (by omega) (by first | exact ShP.zero rfl | (rcases i1_66 with ⟨p1, p2⟩ | ⟨p1, p2⟩; exact p1.next (fun m a b c => p2 m a (by omega)) (by omega); exact p2)) (by omega) (by omega)  (m0_66) ((FRc.inF m1_66 (fun j h0 h1 => by rw [m0_66 15 0 j (by decide)]; exact hcl j h0 h1)))
                · refine r_iload hC dX5_shortest_76 rfl ?_
                  refine r_iload hC dX5_shortest_78 rfl ?_
                  refine r_isubE hC ((w17 - w7)) dX5_shortest_80 (by omega) (by unfold inR; omega) ?_
                  refine r_iconst hC dX5_shortest_81 rfl ?_
                  refine r_iaddE hC (((w17 - w7) + 1)) dX5_shortest_82 (by omega) (by unfold inR; omega) ?_
                  refine r_iload hC dX5_shortest_83 rfl ?_
                  refine r_icmp_ge (tgt := 134) hC dX5_shortest_85 rfl (fun h21 => ?_) (fun h21 => ?_)
                  · refine r_iincE hC ((w7 + 1)) dX5_shortest_134 rfl rfl (by omega) (by unfold inR; omega) ?_
                    refine r_goto (tgt := 40) hC dX5_shortest_137 rfl ?_
                    refine r_forget hC (ls2 := [some (vR 2 0), some (vI l), some (vI w), some (vI b), some (vI u), some (vR 7 l), some (vI w15), some (vI w16), some (vI (w7 + 1)), none]) (lsub_some (lsub_some (lsub_some (lsub_some (lsub_some (lsub_some (lsub_some (lsub_some (lsub_some (lsub_none lsub_nil)))))))))) ?_
                    exact ih40 (w15) (w16) ((w7 + 1)) ρ18 (by omega) (by omega) (by omega) (by first | exact ShP.zero rfl | (rcases i1_66 with ⟨p1, p2⟩ | ⟨p1, p2⟩; exact p1.next (fun m a b c => p2 m a (by omega)) (by omega); exact p2)) (by omega) (by omega)  (m0_66) ((FRc.inF m1_66 (fun j h0 h1 => by rw [m0_66 15 0 j (by decide)]; exact hcl j h0 h1)))
                  · refine r_aload_n hC dX5_shortest_88 rfl ?_
                    refine z_getR hM dX5_shortest_89 fl_RX5_40 rfl rfl (vld_of (n := 1) rfl (by omega) (by omega)) ?_
                    refine r_aload hC dX5_shortest_92 rfl ?_
                    refine z_getR hM dX5_shortest_94 fl_RX5_176 rfl rfl (vld_of (n := 7) rfl (by omega) (by omega)) ?_
                    refine r_iload hC dX5_shortest_97 rfl ?_
                    refine z_iald hM dX5_shortest_99 rfl (by omega) (by omega) (fun v22 h_v22 o_v22 t_v22 => ?_)
                    have w_v22 := ((t_v22 (Or.inl (by simp [Tb]))).trans (m0_66 9 l w17 (by decide))).symm
                    subst w_v22
                    have q_v22 : -1000 ≤ (σ 9 l w17) ∧ (σ 9 l w17) ≤ 1000 := o_v22
                    refine z_inv1 hM dX5_shortest_100 vl_RX5_253 rfl rfl rfl (Nat.le_of_ble_eq_true rfl) (Nat.le_of_ble_eq_true rfl) ?_
                    refine x_append2 (u := (fun j => σ 9 l (w7 + j))) (n := (w17 - w7).toNat) (show (σ 9 l w17) = σ 9 l (w7 + (((w17 - w7).toNat : Nat) : Int)) from congrArg (σ 9 l) (by omega)) (by omega) (by omega) (by omega) (fun j h0 h1 => (hrow l (w7 + j) (by omega) (by omega) (by omega) (by omega)).2) m1_66 (fun j h0 h1 => by rw [m0_66 15 0 j (by decide)]; exact hcl j h0 h1) (fun ρ23 g_ρ23 r_ρ23 => ?_)
                    have t_ρ23 : ∀ (c : Nat) (p q : Int), ¬ Fo c → ρ23 c p q = σ c p q := fun c p q hc => (g_ρ23 c p q (by omega)).trans (m0_66 c p q hc)
                    refine r_aload_n hC dX5_shortest_103 rfl ?_
                    refine z_getR hM dX5_shortest_104 fl_RX5_40 rfl rfl (vld_of (n := 1) rfl (by omega) (by omega)) ?_
                    refine r_iload_n hC dX5_shortest_107 rfl ?_
                    refine r_iload_n hC dX5_shortest_108 rfl ?_
                    refine z_inv2 hM dX5_shortest_109 vl_RX5_256 rfl rfl rfl (Nat.le_of_ble_eq_true rfl) (Nat.le_of_ble_eq_true rfl) ?_
                    refine x_reaches (o := (σ 7 l 2)) (u := (fun j => σ 9 l (w7 + j))) (n := ((w17 - w7).toNat + 1)) (by omega) (by omega) r_ρ23 (fun hr_109 => ?_) (fun hr_109 => ?_)
                    · rw [show ρ23 16 0 = σ 16 0 from funext fun y => t_ρ23 16 0 y (by decide), show ρ23 15 0 = σ 15 0 from funext fun y => t_ρ23 15 0 y (by decide)] at hr_109
                      refine r_if_eq (tgt := 128) hC dX5_shortest_112 rfl (fun h24 => by omega) (fun h24 => ?_)
                      refine r_iload hC dX5_shortest_115 rfl ?_
                      refine r_iload hC dX5_shortest_117 rfl ?_
                      refine r_isubE hC ((w17 - w7)) dX5_shortest_119 (by omega) (by unfold inR; omega) ?_
                      refine r_iconst hC dX5_shortest_120 rfl ?_
                      refine r_iaddE hC (((w17 - w7) + 1)) dX5_shortest_121 (by omega) (by unfold inR; omega) ?_
                      refine r_istore hC dX5_shortest_122 rfl ?_
                      refine r_iload hC dX5_shortest_124 rfl ?_
                      refine r_istore hC dX5_shortest_126 rfl ?_
                      refine r_iincE hC ((w17 + 1)) dX5_shortest_128 rfl rfl (by omega) (by unfold inR; omega) ?_
                      show K _ [_, _, _, _, _, _, _, _, _, _] _ _
                      refine r_goto (tgt := 66) hC dX5_shortest_131 rfl ?_
                      exact ih66 (((w17 - w7) + 1)) (w7) ((w17 + 1)) ρ23 (by omega) (by omega) (by omega) (by omega) (by first | exact Or.inl ⟨i0_40, fun m a b => by omega⟩ | (rcases i1_66 with ⟨p1, p2⟩ | ⟨p1, p2⟩ <;> first | (exfalso; omega) | (have q := hr_109; rw [show (w17 - w7).toNat + 1 = (w7 + ((w17 - w7) + 1) - w7).toNat from by omega] at q; first | exact Or.inr ⟨by omega, p1.hit (by omega) (by omega) (by omega) (by omega) q (fun k a b => p2 k a (by omega))⟩ | exact Or.inl ⟨p1, fun m a b => by rcases (by omega : m ≤ w17 - w7 ∨ m = (w17 - w7) + 1) with z | z; exact p2 m a z; subst z; exact q⟩))) (by omega) (by omega)  (t_ρ23) (by rw [show ((((w17 + 1) - w7 : Int)).toNat : Nat) = ((w17 - w7).toNat + 1) from by omega]; exact r_ρ23)
                    · rw [show ρ23 16 0 = σ 16 0 from funext fun y => t_ρ23 16 0 y (by decide), show ρ23 15 0 = σ 15 0 from funext fun y => t_ρ23 15 0 y (by decide)] at hr_109
                      refine r_if_eq (tgt := 128) hC dX5_shortest_112 rfl (fun h25 => ?_) (fun h25 => by omega)
                      refine r_iincE hC ((w17 + 1)) dX5_shortest_128 rfl rfl (by omega) (by unfold inR; omega) ?_
                      refine r_goto (tgt := 66) hC dX5_shortest_131 rfl ?_
                      exact ih66 (w15) (w16) ((w17 + 1)) ρ23 (by omega) (by omega) (by omega) (by omega) (by first | exact Or.inl ⟨i0_40, fun m a b => by omega⟩ | (rcases i1_66 with ⟨p1, p2⟩ | ⟨p1, p2⟩ <;> first | (exfalso; omega) | (have q := hr_109; rw [show (w17 - w7).toNat + 1 = (w7 + ((w17 - w7) + 1) - w7).toNat from by omega] at q; first | exact Or.inr ⟨by omega, p1.hit (by omega) (by omega) (by omega) (by omega) q (fun k a b => p2 k a (by omega))⟩ | exact Or.inl ⟨p1, fun m a b => by rcases (by omega : m ≤ w17 - w7 ∨ m = (w17 - w7) + 1) with z | z; exact p2 m a z; subst z; exact q⟩))) (by omega) (by omega)  (t_ρ23) (by rw [show ((((w17 + 1) - w7 : Int)).toNat : Nat) = ((w17 - w7).toNat + 1) from by omega]; exact r_ρ23)
            exact L66 123 (w5) (w6) (w7) ρ14 (by omega) (by omega) (by omega) (by omega) (by first | exact Or.inl ⟨i0_40, fun m a b => by omega⟩ | (rcases i1_66 with ⟨p1, p2⟩ | ⟨p1, p2⟩ <;> first | (exfalso; omega) | (have q := hr_109; rw [show (w17 - w7).toNat + 1 = (w7 + ((w17 - w7) + 1) - w7).toNat from by omega] at q; first | exact Or.inr ⟨by omega, p1.hit (by omega) (by omega) (by omega) (by omega) q (fun k a b => p2 k a (by omega))⟩ | exact Or.inl ⟨p1, fun m a b => by rcases (by omega : m ≤ w17 - w7 ∨ m = (w17 - w7) + 1) with z | z; exact p2 m a z; subst z; exact q⟩))) (by omega) (by omega)  (t_ρ14) (by rw [show (((w7 - w7 : Int)).toNat : Nat) = 0 from by omega]; exact z_ρ14 (fun j => σ 9 l (w7 + j)))
      exact L40 123 (((σ 7 l 6) + 1)) ((-1)) (0) σ (by omega) (by omega) (by omega) (by first | exact ShP.zero rfl | (rcases i1_66 with ⟨p1, p2⟩ | ⟨p1, p2⟩; exact p1.next (fun m a b c => p2 m a (by omega)) (by omega); exact p2)) (by omega) (by omega)  ((fun _ _ _ _ => rfl)) (hI)
    · refine r_if_ne (tgt := 25) hC dX5_shortest_20 rfl (fun h26 => by omega) (fun h26 => ?_)
      refine r_iconst hC dX5_shortest_23 rfl ?_
      refine y_iret hK rfl dX5_shortest_24 ?_
      have hA : stA σ l w b u (-1) := by
        exact ⟨fun _ => rfl, fun q => by unfold shC2 lwC opV at q; omega⟩
      exact k _ _ hA (fun _ _ _ _ => rfl) hI
  · refine r_astoreN hC dX5_shortest_6 rfl ?_
    refine r_aloadN hC dX5_shortest_8 rfl ?_
    refine r_ifnullN (tgt := 23) hC dX5_shortest_10 rfl ?_
    refine r_iconst hC dX5_shortest_23 rfl ?_
    refine y_iret hK rfl dX5_shortest_24 ?_
    have hA : stA σ l w b u (-1) := by
      exact ⟨fun _ => rfl, fun q => by unfold shC2 lwC opV at q; omega⟩
    exact k _ _ hA (fun _ _ _ _ => rfl) hI
theorem x_shortest {eb : Bool} {d : Nat} {P : Option Vl → Mm → Prop} {σ : Mm} {l w b u : Int} (hG : GI σ) (k : ∀ r : Int, stA σ l w b u r → P (some (vI r)) σ) : WT (true, false, eb) (d + 5) 109 [vR 2 0, vI l, vI w, vI b, vI u] σ P := WT_fold fun ρ e hI => x_shortest_S hI (hG.fo e) (fun r ρ2 hA gq hI2 => ⟨hI2, σ, k r (by
    have hc : stA ρ l w b u r = stA σ l w b u r := by (delta stA ShB rchV ptV shC2 lwC opV; simp only [e 7 (by decide), e 8 (by decide), e 9 (by decide), e 15 (by decide), e 16 (by decide)])
    rw [← hc]
    exact hA), fun c x y hc => (gq c x y hc).trans (by rw [e c hc])⟩)
theorem wnS_cg {V W : Mm} (e : ∀ c : Nat, ¬ Fo c → W c = V c) (l w a b : Int) : ∀ n : Nat, wnS W l w a b n = wnS V l w a b n
  | 0 => rfl
  | n + 1 => by
    show wnS W l w a b n + wnR (fun k => ptV W l n (n + k + 1) w) a b (W 7 l 6 - n).toNat = wnS V l w a b n + wnR (fun k => ptV V l n (n + k + 1) w) a b (V 7 l 6 - n).toNat
    rw [wnS_cg e l w a b n]
    simp only [ptV, e 7 (by decide), e 9 (by decide), e 15 (by decide), e 16 (by decide)]
theorem x_windows_S {eb : Bool} {d : Nat} {P : Option Vl → Mm → Prop} {σ : Mm} {l w x y : Int}  (hI : InF σ) (hG : GI σ)  (k : ∀ ρ : Mm, (∀ (c : Nat) (x y : Int), ¬ Fo c → ρ c x y = σ c x y) → InF ρ → P (some (vI (wnQ σ l w x y))) ρ) : WT (true, true, eb) (d + 5) 110 [vR 2 0, vI l, vI w, vI x, vI y] σ P := by
  refine WT_in fun K hK => ?_
  have hK : StpY (true, true, eb) cX5_windows RX5 (some .int) (WT (true, true, eb) (d + 4)) P K := hK
  have hM := hK.1
  have hC := hK.1.1
  show K 0 [some (vR 2 0), some (vI l), some (vI w), some (vI x), some (vI y), none, none, none, none, none] [] σ
  refine z_ok hM (fun hok => ?_)
  refine r_rngz hC (fun g0 => ?_)
  have r_l : -2147483648 ≤ l ∧ l ≤ 2147483647 := inR_le (g0 (vI l) (by simp))
  have r_w : -2147483648 ≤ w ∧ w ≤ 2147483647 := inR_le (g0 (vI w) (by simp))
  have r_x : -2147483648 ≤ x ∧ x ≤ 2147483647 := inR_le (g0 (vI x) (by simp))
  have r_y : -2147483648 ≤ y ∧ y ≤ 2147483647 := inR_le (g0 (vI y) (by simp))
  have hcl := hG.2.1.2.2.2.2.2.2.2
  have hrow := hG.2.1.2.2.1
  refine r_aload_n hC dX5_windows_0 rfl ?_
  refine r_iload_n hC dX5_windows_1 rfl ?_
  refine r_iload_n hC dX5_windows_2 rfl ?_
  refine z_inv2 hM dX5_windows_3 vl_RX5_248 rfl rfl rfl (Nat.le_of_ble_eq_true rfl) (Nat.le_of_ble_eq_true rfl) ?_
  refine x_laneWith (fun hl_3 => ?_) (fun hl_3 => ?_)
  · have h6_3 := hG.1.h7 (l := l) (by omega) (by omega)
    have hN_3 := numF_rng (σ 7 l 2)
    have hO_3 := (hG.2.1.2.2.2.1 l (by omega) (by omega)).2
    refine r_astore hC dX5_windows_6 rfl ?_
    refine r_aload hC dX5_windows_8 rfl ?_
    refine r_ifnonnullR (tgt := 15) hC dX5_windows_10 rfl ?_
    refine r_iconst hC dX5_windows_15 rfl ?_
    refine r_istore hC dX5_windows_16 rfl ?_
    refine r_iconst hC dX5_windows_18 rfl ?_
    refine r_istore hC dX5_windows_19 rfl ?_
    have L21 : ∀ (n21 : Nat) (w1 w2 : Int) (ρ3 : Mm), 0 ≤ w1 ∧ w1 ≤ 14400 → 0 ≤ w2 ∧ w2 ≤ 121 → ((w1) = wnS σ l w x y ((w2)).toNat) → ((w2) ≤ σ 7 l 6) → 121 - w2 < (n21 : Int) → (∀ (c : Nat) (p q : Int), ¬ Fo c → ρ3 c p q = σ c p q) → (InF ρ3) → K 21 [some (vR 2 0), some (vI l), some (vI w), some (vI x), some (vI y), some (vR 7 l), some (vI w1), some (vI w2), none, none] [] ρ3 := by
      intro n21
      induction n21 with
      | zero => intro w1 w2 ρ3 f_w1 f_w2 i0_21 i1_21 hm  m0_21 m1_21; omega
      | succ n21 ih21 =>
        intro w1 w2 ρ3 f_w1 f_w2 i0_21 i1_21 hm21  m0_21 m1_21
        refine r_iload hC dX5_windows_21 rfl ?_
        refine r_aload hC dX5_windows_23 rfl ?_
        refine z_getI (jz := 6) hM dX5_windows_25 fl_RX5_154 rfl rfl rfl (fun v4 h_v4 o_v4 t_v4 => ?_)
        have w_v4 := ((t_v4 (Or.inl (by simp [Tb]))).trans (m0_21 7 l 6 (by decide))).symm
        subst w_v4
        have q_v4 : 0 ≤ (σ 7 l 6) ∧ (σ 7 l 6) ≤ 121 := o_v4.1 rfl
        refine r_icmp_ge (tgt := 122) hC dX5_windows_28 rfl (fun h5 => ?_) (fun h5 => ?_)
        · refine r_iload hC dX5_windows_122 rfl ?_
          refine y_iret hK rfl dX5_windows_124 ?_
          have hR : wnQ σ l w x y = w1 := by
            unfold wnQ
            rw [if_pos (by unfold lwC opV; omega), show (σ 7 l 6).toNat = (w2).toNat from by omega]
            exact i0_21.symm
          rw [hR] at k
          exact k _ (m0_21) m1_21
        · refine r_aload_n hC dX5_windows_31 rfl ?_
          refine z_getR hM dX5_windows_32 fl_RX5_40 rfl rfl (vld_of (n := 1) rfl (by omega) (by omega)) ?_
          refine r_aload hC dX5_windows_35 rfl ?_
          refine z_getI (jz := 2) hM dX5_windows_37 fl_RX5_98 rfl rfl rfl (fun v6 h_v6 o_v6 t_v6 => ?_)
          have w_v6 := ((t_v6 (Or.inl (by simp [Tb]))).trans (m0_21 7 l 2 (by decide))).symm
          subst w_v6
          have q_v6 : 0 ≤ (σ 7 l 2) ∧ (σ 7 l 2) ≤ 9 := o_v6.2.2 rfl
          refine z_inv1 hM dX5_windows_40 vl_RX5_251 rfl rfl rfl (Nat.le_of_ble_eq_true rfl) (Nat.le_of_ble_eq_true rfl) ?_
          refine x_begin (by omega) rfl rfl rfl rfl rfl rfl rfl rfl rfl rfl (fun ρ7 g_ρ7 z_ρ7 => ?_)
          have t_ρ7 : ∀ (c : Nat) (p q : Int), ¬ Fo c → ρ7 c p q = σ c p q := fun c p q hc => (g_ρ7 c p q (by omega)).trans (m0_21 c p q hc)
          refine r_iload hC dX5_windows_43 rfl ?_
          refine r_istore hC dX5_windows_45 rfl ?_
          have L47 : ∀ (n47 : Nat) (w8 w9 : Int) (ρ10 : Mm), 0 ≤ w8 ∧ w8 ≤ 121 → 0 ≤ w9 ∧ w9 ≤ 14520 → ((w2) ≤ (w8)) → ((w9) = wnS σ l w x y ((w2)).toNat + wnR (fun k => ptV σ l (w2) ((w2) + k + 1) w) x y ((w8) - (w2)).toNat) → ((w8) ≤ σ 7 l 6) → 121 - w8 < (n47 : Int) → (∀ (c : Nat) (p q : Int), ¬ Fo c → ρ10 c p q = σ c p q) → (FRc ρ10 (σ 7 l 2) (fun j => σ 9 l (w2 + j)) ((w8 - w2).toNat)) → K 47 [some (vR 2 0), some (vI l), some (vI w), some (vI x), some (vI y), some (vR 7 l), some (vI w9), some (vI w2), some (vI w8), none] [] ρ10 := by
            intro n47
            induction n47 with
            | zero => intro w8 w9 ρ10 f_w8 f_w9 i0_47 i1_47 i2_47 hm  m0_47 m1_47; omega
            | succ n47 ih47 =>
              intro w8 w9 ρ10 f_w8 f_w9 i0_47 i1_47 i2_47 hm47  m0_47 m1_47
              refine r_iload hC dX5_windows_47 rfl ?_
              refine r_aload hC dX5_windows_49 rfl ?_
              refine z_getI (jz := 6) hM dX5_windows_51 fl_RX5_154 rfl rfl rfl (fun v11 h_v11 o_v11 t_v11 => ?_)
              have w_v11 := ((t_v11 (Or.inl (by simp [Tb]))).trans (m0_47 7 l 6 (by decide))).symm
              subst w_v11
              have q_v11 : 0 ≤ (σ 7 l 6) ∧ (σ 7 l 6) ≤ 121 := o_v11.1 rfl
              refine r_icmp_ge (tgt := 116) hC dX5_windows_54 rfl (fun h12 => ?_) (fun h12 => ?_)
              · have eS := wnS_I (V := σ) (l := l) (w := w) (a := x) (b := y) (i := w2) (by omega)
                rw [show (σ 7 l 6 - w2).toNat = (w8 - w2).toNat from by omega] at eS
                have bw := wnS_b (V := σ) (l := l) (w := w) (a := x) (b := y) h6_3.2 (w2).toNat
                have br := wnR_b (fun k => ptV σ l w2 (w2 + k + 1) w) x y (w8 - w2).toNat
                refine r_iincE hC ((w2 + 1)) dX5_windows_116 rfl rfl (by omega) (by unfold inR; omega) ?_
                refine r_goto (tgt := 21) hC dX5_windows_119 rfl ?_
                refine r_forget hC (ls2 := [some (vR 2 0), some (vI l), some (vI w), some (vI x), some (vI y), some (vR 7 l), some (vI w9), some (vI (w2 + 1)), none, none]) (lsub_some (lsub_some (lsub_some (lsub_some (lsub_some (lsub_some (lsub_some (lsub_some (lsub_none (lsub_none lsub_nil)))))))))) ?_
                exact ih21 (w9) ((w2 + 1)) ρ10 (by omega) (by omega) (by first | rfl | omega) (by omega) (by omega)  (m0_47) ((FRc.inF m1_47 (fun j h0 h1 => by rw [m0_47 15 0 j (by decide)]; exact hcl j h0 h1)))
              · refine r_aload_n hC dX5_windows_57 rfl ?_
                refine z_getR hM dX5_windows_58 fl_RX5_40 rfl rfl (vld_of (n := 1) rfl (by omega) (by omega)) ?_
                refine r_aload hC dX5_windows_61 rfl ?_
                refine z_getR hM dX5_windows_63 fl_RX5_176 rfl rfl (vld_of (n := 7) rfl (by omega) (by omega)) ?_
                refine r_iload hC dX5_windows_66 rfl ?_
                refine z_iald hM dX5_windows_68 rfl (by omega) (by omega) (fun v13 h_v13 o_v13 t_v13 => ?_)
                have w_v13 := ((t_v13 (Or.inl (by simp [Tb]))).trans (m0_47 9 l w8 (by decide))).symm
                subst w_v13
                have q_v13 : -1000 ≤ (σ 9 l w8) ∧ (σ 9 l w8) ≤ 1000 := o_v13
                refine z_inv1 hM dX5_windows_69 vl_RX5_253 rfl rfl rfl (Nat.le_of_ble_eq_true rfl) (Nat.le_of_ble_eq_true rfl) ?_
                refine x_append2 (u := (fun j => σ 9 l (w2 + j))) (n := (w8 - w2).toNat) (show (σ 9 l w8) = σ 9 l (w2 + (((w8 - w2).toNat : Nat) : Int)) from congrArg (σ 9 l) (by omega)) (by omega) (by omega) (by omega) (fun j h0 h1 => (hrow l (w2 + j) (by omega) (by omega) (by omega) (by omega)).2) m1_47 (fun j h0 h1 => by rw [m0_47 15 0 j (by decide)]; exact hcl j h0 h1) (fun ρ14 g_ρ14 r_ρ14 => ?_)
                have t_ρ14 : ∀ (c : Nat) (p q : Int), ¬ Fo c → ρ14 c p q = σ c p q := fun c p q hc => (g_ρ14 c p q (by omega)).trans (m0_47 c p q hc)
                refine r_aload_n hC dX5_windows_72 rfl ?_
                refine z_getR hM dX5_windows_73 fl_RX5_40 rfl rfl (vld_of (n := 1) rfl (by omega) (by omega)) ?_
                refine r_iload_n hC dX5_windows_76 rfl ?_
                refine z_inv1 hM dX5_windows_77 vl_RX5_273 rfl rfl rfl (Nat.le_of_ble_eq_true rfl) (Nat.le_of_ble_eq_true rfl) ?_
                refine x_number (n := ((w8 - w2).toNat + 1)) (by omega) r_ρ14.1 r_ρ14.2.1 (by omega) r_ρ14 ?_
                rw [show ρ14 16 0 = σ 16 0 from funext fun y => t_ρ14 16 0 y (by decide), show ρ14 15 0 = σ 15 0 from funext fun y => t_ρ14 15 0 y (by decide)]
                have e2 : ptV σ l w2 (w2 + (w8 - w2) + 1) w = (cm (σ 16 0) (σ 15 0) (σ 7 l 2) (fun j => σ 9 l (w2 + j)) ((w8 - w2).toNat + 1) w) := by show cm _ _ _ _ (w2 + (w8 - w2) + 1 - w2).toNat w = _; rw [show (w2 + (w8 - w2) + 1 - w2).toNat = (w8 - w2).toNat + 1 from by omega]
                have e1 := wnR_I (f := (fun k => ptV σ l w2 (w2 + k + 1) w)) (a := x) (b := y) (i := w8 - w2) (by omega)
                rw [show (w8 - w2 + 1).toNat = (w8 + 1 - w2).toNat from by omega, e2] at e1
                unfold NO at e1
                have bw := wnS_b (l := l) (w := w) (a := x) (b := y) h6_3.2 (w2).toNat
                have br := wnR_b (fun k => ptV σ l w2 (w2 + k + 1) w) x y (w8 - w2).toNat
                refine r_istore hC dX5_windows_80 rfl ?_
                refine r_iload hC dX5_windows_82 rfl ?_
                refine r_iload hC dX5_windows_84 rfl ?_
                refine r_ldc hC dX5_windows_86 co_RX5_175 rfl ?_
                refine r_icmp_eq (tgt := 106) hC dX5_windows_88 rfl (fun h15 => ?_) (fun h15 => ?_)
                · refine r_iconst hC dX5_windows_106 rfl ?_
                  refine r_iaddE hC (w9) dX5_windows_107 (by omega) (by unfold inR; omega) ?_
                  refine r_istore hC dX5_windows_108 rfl ?_
                  refine r_iincE hC ((w8 + 1)) dX5_windows_110 rfl rfl (by omega) (by unfold inR; omega) ?_
                  refine r_goto (tgt := 47) hC dX5_windows_113 rfl ?_
                  refine r_forget hC (ls2 := [some (vR 2 0), some (vI l), some (vI w), some (vI x), some (vI y), some (vR 7 l), some (vI w9), some (vI w2), some (vI (w8 + 1)), none]) (lsub_some (lsub_some (lsub_some (lsub_some (lsub_some (lsub_some (lsub_some (lsub_some (lsub_some (lsub_none lsub_nil)))))))))) ?_
                  exact ih47 ((w8 + 1)) (w9) ρ14 (by omega) (by omega) (by omega) (by first | (rw [show (w2 - w2).toNat = 0 from by omega]; show _ = _ + (0 : Int); omega) | (rw [if_pos (by omega)] at e1; omega) | (rw [if_neg (by omega)] at e1; omega)) (by omega) (by omega)  (t_ρ14) (by rw [show ((((w8 + 1) - w2 : Int)).toNat : Nat) = ((w8 - w2).toNat + 1) from by omega]; exact r_ρ14)
                · refine r_iload hC dX5_windows_91 rfl ?_
                  refine r_iload_n hC dX5_windows_93 rfl ?_
                  refine r_iload hC dX5_windows_94 rfl ?_
                  refine z_ins3 hM dX5_windows_96 tl_RX5_59 rfl (Nat.le_of_ble_eq_true rfl) (Nat.le_of_ble_eq_true rfl) ?_
                  refine s_within (fun h17 => ?_) (fun h17 => ?_)
                  · refine r_if_eq (tgt := 106) hC dX5_windows_99 rfl (fun h18 => by omega) (fun h18 => ?_)
                    refine r_iconst hC dX5_windows_102 rfl ?_
                    refine r_goto (tgt := 107) hC dX5_windows_103 rfl ?_
                    refine r_iaddE hC ((w9 + 1)) dX5_windows_107 (by omega) (by unfold inR; omega) ?_
                    refine r_istore hC dX5_windows_108 rfl ?_
                    refine r_iincE hC ((w8 + 1)) dX5_windows_110 rfl rfl (by omega) (by unfold inR; omega) ?_
                    refine r_goto (tgt := 47) hC dX5_windows_113 rfl ?_
                    refine r_forget hC (ls2 := [some (vR 2 0), some (vI l), some (vI w), some (vI x), some (vI y), some (vR 7 l), some (vI (w9 + 1)), some (vI w2), some (vI (w8 + 1)), none]) (lsub_some (lsub_some (lsub_some (lsub_some (lsub_some (lsub_some (lsub_some (lsub_some (lsub_some (lsub_none lsub_nil)))))))))) ?_
                    exact ih47 ((w8 + 1)) ((w9 + 1)) ρ14 (by omega) (by omega) (by omega) (by first | (rw [show (w2 - w2).toNat = 0 from by omega]; show _ = _ + (0 : Int); omega) | (rw [if_pos (by omega)] at e1; omega) | (rw [if_neg (by omega)] at e1; omega)) (by omega) (by omega)  (t_ρ14) (by rw [show ((((w8 + 1) - w2 : Int)).toNat : Nat) = ((w8 - w2).toNat + 1) from by omega]; exact r_ρ14)
                  · refine r_if_eq (tgt := 106) hC dX5_windows_99 rfl (fun h19 => ?_) (fun h19 => by omega)
                    refine r_iconst hC dX5_windows_106 rfl ?_
                    refine r_iaddE hC (w9) dX5_windows_107 (by omega) (by unfold inR; omega) ?_
                    refine r_istore hC dX5_windows_108 rfl ?_
                    refine r_iincE hC ((w8 + 1)) dX5_windows_110 rfl rfl (by omega) (by unfold inR; omega) ?_
                    refine r_goto (tgt := 47) hC dX5_windows_113 rfl ?_
                    refine r_forget hC (ls2 := [some (vR 2 0), some (vI l), some (vI w), some (vI x), some (vI y), some (vR 7 l), some (vI w9), some (vI w2), some (vI (w8 + 1)), none]) (lsub_some (lsub_some (lsub_some (lsub_some (lsub_some (lsub_some (lsub_some (lsub_some (lsub_some (lsub_none lsub_nil)))))))))) ?_
                    exact ih47 ((w8 + 1)) (w9) ρ14 (by omega) (by omega) (by omega) (by first | (rw [show (w2 - w2).toNat = 0 from by omega]; show _ = _ + (0 : Int); omega) | (rw [if_pos (by omega)] at e1; omega) | (rw [if_neg (by omega)] at e1; omega)) (by omega) (by omega)  (t_ρ14) (by rw [show ((((w8 + 1) - w2 : Int)).toNat : Nat) = ((w8 - w2).toNat + 1) from by omega]; exact r_ρ14)
          exact L47 123 (w2) (w1) ρ7 (by omega) (by omega) (by omega) (by first | (rw [show (w2 - w2).toNat = 0 from by omega]; show _ = _ + (0 : Int); omega) | (rw [if_pos (by omega)] at e1; omega) | (rw [if_neg (by omega)] at e1; omega)) (by omega) (by omega)  (t_ρ7) (by rw [show (((w2 - w2 : Int)).toNat : Nat) = 0 from by omega]; exact z_ρ7 (fun j => σ 9 l (w2 + j)))
    exact L21 123 (0) (0) σ (by omega) (by omega) (by first | rfl | omega) (by omega) (by omega)  ((fun _ _ _ _ => rfl)) (hI)
  · refine r_astoreN hC dX5_windows_6 rfl ?_
    refine r_aloadN hC dX5_windows_8 rfl ?_
    refine r_ifnonnullN hC dX5_windows_10 ?_
    refine r_iconst hC dX5_windows_13 rfl ?_
    refine y_iret hK rfl dX5_windows_14 ?_
    have hR : wnQ σ l w x y = (-1) := by
      exact if_neg (by unfold lwC opV; omega)
    rw [hR] at k
    exact k _ (fun _ _ _ _ => rfl) hI
theorem x_windows {eb : Bool} {d : Nat} {P : Option Vl → Mm → Prop} {σ : Mm} {l w x y : Int} (hG : GI σ) (k : P (some (vI (wnQ σ l w x y))) σ) : WT (true, false, eb) (d + 5) 110 [vR 2 0, vI l, vI w, vI x, vI y] σ P := WT_fold fun ρ e hI => x_windows_S hI (hG.fo e) (fun ρ2 gq hI2 => ⟨hI2, σ, by
    have hc : wnQ ρ l w x y = wnQ σ l w x y := by (delta wnQ lwC opV; simp only [wnS_cg e, e 7 (by decide), e 8 (by decide), e 9 (by decide), e 15 (by decide), e 16 (by decide)])
    rw [hc]
    exact k, fun c x y hc => (gq c x y hc).trans (by rw [e c hc])⟩)
