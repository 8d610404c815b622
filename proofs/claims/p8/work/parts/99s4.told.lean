-- B: the class: were
theorem x_were_S {eb : Bool} {d : Nat} {P : Option Vl → Mm → Prop} {σ : Mm} {l z v w : Int}  (hI : InF σ) (hG : GI σ)  (k : ∀ ρ : Mm, (∀ (c : Nat) (x y : Int), ¬ Fo c → ρ c x y = σ c x y) → InF ρ → P (some (vI (weR σ l z v w))) ρ) : WT (true, true, eb) (d + 5) 111 [vR 2 0, vI l, vI z, vI v, vI w] σ P := by
  refine WT_in fun K hK => ?_
  have hK : StpY (true, true, eb) cX5_were RX5 (some .int) (WT (true, true, eb) (d + 4)) P K := hK
  have hM := hK.1
  have hC := hK.1.1
  show K 0 [some (vR 2 0), some (vI l), some (vI z), some (vI v), some (vI w), none, none, none, none, none, none] [] σ
  refine z_ok hM (fun hok => ?_)
  refine r_rngz hC (fun g0 => ?_)
  have r_l : -2147483648 ≤ l ∧ l ≤ 2147483647 := inR_le (g0 (vI l) (by simp))
  have r_z : -2147483648 ≤ z ∧ z ≤ 2147483647 := inR_le (g0 (vI z) (by simp))
  have r_v : -2147483648 ≤ v ∧ v ≤ 2147483647 := inR_le (g0 (vI v) (by simp))
  have r_w : -2147483648 ≤ w ∧ w ≤ 2147483647 := inR_le (g0 (vI w) (by simp))
  have hcl := hG.2.1.2.2.2.2.2.2.2
  have hrow := hG.2.1.2.2.1
  refine r_aload_n hC dX5_were_0 rfl ?_
  refine r_iload_n hC dX5_were_1 rfl ?_
  refine r_iload hC dX5_were_2 rfl ?_
  refine z_inv2 hM dX5_were_4 vl_RX5_248 rfl rfl rfl (Nat.le_of_ble_eq_true rfl) (Nat.le_of_ble_eq_true rfl) ?_
  refine x_laneWith (fun hl_4 => ?_) (fun hl_4 => ?_)
  · have h6_4 := hG.1.h7 (l := l) (by omega) (by omega)
    have hN_4 := numF_rng (σ 7 l 2)
    have hO_4 := (hG.2.1.2.2.2.1 l (by omega) (by omega)).2
    refine r_astore hC dX5_were_7 rfl ?_
    refine r_aload hC dX5_were_9 rfl ?_
    refine r_ifnullR hC dX5_were_11 ?_
    refine r_iload_n hC dX5_were_14 rfl ?_
    refine z_ins1 hM dX5_were_15 tl_RX5_127 rfl (Nat.le_of_ble_eq_true rfl) (Nat.le_of_ble_eq_true rfl) ?_
    refine s_isTime (fun h2 => ?_) (fun h2 => ?_)
    · refine r_if_eq (tgt := 45) hC dX5_were_18 rfl (fun h3 => by omega) (fun h3 => ?_)
      refine r_iload_n hC dX5_were_21 rfl ?_
      refine z_ins1 hM dX5_were_22 tl_RX5_130 rfl (Nat.le_of_ble_eq_true rfl) (Nat.le_of_ble_eq_true rfl) ?_
      refine s_isValue (fun h5 => ?_) (fun h5 => ?_)
      · refine r_if_eq (tgt := 45) hC dX5_were_25 rfl (fun h6 => by omega) (fun h6 => ?_)
        refine r_aload hC dX5_were_28 rfl ?_
        refine r_iload_n hC dX5_were_30 rfl ?_
        refine z_inv1 hM dX5_were_31 vl_RX5_133 rfl rfl rfl (Nat.le_of_ble_eq_true rfl) (Nat.le_of_ble_eq_true rfl) ?_
        refine x_isTooLate (by omega) (fun h7 => ?_) (fun h7 => ?_)
        · have y5_h7 : σ 7 l 5 = (σ 7 l 5) := (rfl)
          have y10_h7 : σ 7 l 10 = (σ 7 l 10) := (rfl)
          refine r_if_ne (tgt := 45) hC dX5_were_34 rfl (fun h8 => ?_) (fun h8 => by omega)
          refine r_ldc hC dX5_were_45 co_RX5_175 rfl ?_
          refine y_iret hK rfl dX5_were_47 ?_
          have hR : weR σ l z v w = (-2147483648) := by
            have hnw_ : 0 ≤ l → l ≤ 3 → -1 ≤ σ 7 l 10 ∧ 0 ≤ σ 7 l 5 ∧ σ 7 l 5 ≤ 10000 := fun a b => by have := hG.2.1.2.1 l a (by omega); omega
            have hlt_ : σ 7 l 10 = -1 → 0 ≤ σ 7 l 5 ∧ σ 7 l 5 ≤ 10000 → 0 ≤ z → ¬ z < wr (σ 7 l 10 - σ 7 l 5) := fun a b c => lt_neg a b c
            exact if_neg (by unfold wrC lwC opV; omega)
          rw [hR] at k
          exact k _ (fun _ _ _ _ => rfl) hI
        · have y5_h7 : σ 7 l 5 = (σ 7 l 5) := (rfl)
          have y10_h7 : σ 7 l 10 = (σ 7 l 10) := (rfl)
          refine r_if_ne (tgt := 45) hC dX5_were_34 rfl (fun h9 => by omega) (fun h9 => ?_)
          refine r_aload hC dX5_were_37 rfl ?_
          refine z_inv0 hM dX5_were_39 vl_RX5_139 rfl rfl rfl (Nat.le_of_ble_eq_true rfl) (Nat.le_of_ble_eq_true rfl) ?_
          refine x_isFull (by omega) (fun h10 => ?_) (fun h10 => ?_)
          · have y3_h10 : σ 7 l 3 = (σ 7 l 3) := (rfl)
            have y6_h10 : σ 7 l 6 = (σ 7 l 6) := (rfl)
            refine r_if_eq (tgt := 48) hC dX5_were_42 rfl (fun h11 => by omega) (fun h11 => ?_)
            refine r_ldc hC dX5_were_45 co_RX5_175 rfl ?_
            refine y_iret hK rfl dX5_were_47 ?_
            have hR : weR σ l z v w = (-2147483648) := by
              have hnw_ : 0 ≤ l → l ≤ 3 → -1 ≤ σ 7 l 10 ∧ 0 ≤ σ 7 l 5 ∧ σ 7 l 5 ≤ 10000 := fun a b => by have := hG.2.1.2.1 l a (by omega); omega
              have hlt_ : σ 7 l 10 = -1 → 0 ≤ σ 7 l 5 ∧ σ 7 l 5 ≤ 10000 → 0 ≤ z → ¬ z < wr (σ 7 l 10 - σ 7 l 5) := fun a b c => lt_neg a b c
              exact if_neg (by unfold wrC lwC opV; omega)
            rw [hR] at k
            exact k _ (fun _ _ _ _ => rfl) hI
          · have y3_h10 : σ 7 l 3 = (σ 7 l 3) := (rfl)
            have y6_h10 : σ 7 l 6 = (σ 7 l 6) := (rfl)
            refine r_if_eq (tgt := 48) hC dX5_were_42 rfl (fun h12 => ?_) (fun h12 => by omega)
            refine r_aload hC dX5_were_48 rfl ?_
            refine r_iload_n hC dX5_were_50 rfl ?_
            refine r_i2l hC dX5_were_51 ?_
            refine z_inv1 hM dX5_were_52 vl_RX5_167 rfl rfl rfl (Nat.le_of_ble_eq_true rfl) (Nat.le_of_ble_eq_true rfl) ?_
            refine x_heldUntil (by omega) (fun hub_ => ?_)
            have hKb_ := (weK_s (V := σ) (l := l) (z := z) hG (by omega)).1
            refine r_istore hC dX5_were_55 rfl ?_
            refine r_aload hC dX5_were_57 rfl ?_
            refine z_getI (jz := 10) hM dX5_were_59 fl_RX5_157 rfl rfl rfl (fun v13 h_v13 o_v13 t_v13 => ?_)
            have w_v13 := ((t_v13 (Or.inl (by simp [Tb]))).trans (rfl)).symm
            subst w_v13
            refine r_iload_n hC dX5_were_62 rfl ?_
            refine z_ins2 hM dX5_were_63 tl_RX5_239 rfl (Nat.le_of_ble_eq_true rfl) (Nat.le_of_ble_eq_true rfl) ?_
            refine x_maxE ?_
            refine r_istore hC dX5_were_66 rfl ?_
            refine r_aload_n hC dX5_were_68 rfl ?_
            refine z_getR hM dX5_were_69 fl_RX5_40 rfl rfl (vld_of (n := 1) rfl (by omega) (by omega)) ?_
            refine r_aload hC dX5_were_72 rfl ?_
            refine z_getI (jz := 2) hM dX5_were_74 fl_RX5_98 rfl rfl rfl (fun v14 h_v14 o_v14 t_v14 => ?_)
            have w_v14 := ((t_v14 (Or.inl (by simp [Tb]))).trans (rfl)).symm
            subst w_v14
            have q_v14 : 0 ≤ (σ 7 l 2) ∧ (σ 7 l 2) ≤ 9 := o_v14.2.2 rfl
            refine z_inv1 hM dX5_were_77 vl_RX5_251 rfl rfl rfl (Nat.le_of_ble_eq_true rfl) (Nat.le_of_ble_eq_true rfl) ?_
            refine x_begin (by omega) rfl rfl rfl rfl rfl rfl rfl rfl rfl rfl (fun ρ15 g_ρ15 z_ρ15 => ?_)
            have t_ρ15 : ∀ (c : Nat) (p q : Int), ¬ Fo c → ρ15 c p q = σ c p q := fun c p q hc => (g_ρ15 c p q (by omega)).trans ((fun _ _ _ _ => rfl) c p q hc)
            refine r_iconst hC dX5_were_80 rfl ?_
            refine r_istore hC dX5_were_81 rfl ?_
            have L83 : ∀ (n83 : Nat) (w16 : Int) (ρ17 : Mm), 0 ≤ w16 ∧ w16 ≤ 121 → ((w16) ≤ σ 7 l 6 + 1) → 122 - w16 < (n83 : Int) → (∀ (c : Nat) (p q : Int), ¬ Fo c → ρ17 c p q = σ c p q) → (FRc ρ17 (σ 7 l 2) (fun j => weU σ l z v (weK σ l z + j)) ((w16 - weK σ l z).toNat)) → K 83 [some (vR 2 0), some (vI l), some (vI z), some (vI v), some (vI w), some (vR 7 l), some (vI (hU σ l z)), some (vI (max (σ 7 l 10) z)), some (vI w16), none, none] [] ρ17 := by
              intro n83
              induction n83 with
              | zero => intro w16 ρ17 f_w16 i0_83 hm  m0_83 m1_83; omega
              | succ n83 ih83 =>
                intro w16 ρ17 f_w16 i0_83 hm83  m0_83 m1_83
                refine r_iload hC dX5_were_83 rfl ?_
                refine r_aload hC dX5_were_85 rfl ?_
                refine z_getI (jz := 6) hM dX5_were_87 fl_RX5_154 rfl rfl rfl (fun v18 h_v18 o_v18 t_v18 => ?_)
                have w_v18 := ((t_v18 (Or.inl (by simp [Tb]))).trans (m0_83 7 l 6 (by decide))).symm
                subst w_v18
                have q_v18 : 0 ≤ (σ 7 l 6) ∧ (σ 7 l 6) ≤ 121 := o_v18.1 rfl
                refine r_icmp_gt (tgt := 186) hC dX5_were_90 rfl (fun h19 => ?_) (fun h19 => ?_)
                · refine r_aload_n hC dX5_were_186 rfl ?_
                  refine z_getR hM dX5_were_187 fl_RX5_40 rfl rfl (vld_of (n := 1) rfl (by omega) (by omega)) ?_
                  refine r_iload hC dX5_were_190 rfl ?_
                  refine z_inv1 hM dX5_were_192 vl_RX5_273 rfl rfl rfl (Nat.le_of_ble_eq_true rfl) (Nat.le_of_ble_eq_true rfl) ?_
                  refine x_number (n := (w16 - weK σ l z).toNat) (by omega) m1_83.1 m1_83.2.1 (by omega) m1_83 ?_
                  rw [show ρ17 16 0 = σ 16 0 from funext fun y => m0_83 16 0 y (by decide), show ρ17 15 0 = σ 15 0 from funext fun y => m0_83 15 0 y (by decide)]
                  refine y_iret hK rfl dX5_were_195 ?_
                  have hR : weR σ l z v w = (cm (σ 16 0) (σ 15 0) (σ 7 l 2) (fun j => weU σ l z v (weK σ l z + j)) (w16 - weK σ l z).toNat w) := by
                    unfold weR
                    rw [if_pos (by unfold wrC lwC opV; omega), show (σ 7 l 6 + 1 - weK σ l z).toNat = (w16 - weK σ l z).toNat from by omega]
                  rw [hR] at k
                  exact k _ (m0_83) (FRc.inF m1_83 (fun j h0 h1 => by rw [m0_83 15 0 j (by decide)]; exact hcl j h0 h1))
                · refine r_iload hC dX5_were_93 rfl ?_
                  refine r_iload hC dX5_were_95 rfl ?_
                  refine r_icmp_ge (tgt := 105) hC dX5_were_97 rfl (fun h20 => ?_) (fun h20 => ?_)
                  · refine r_iload hC dX5_were_105 rfl ?_
                    refine r_iconst hC dX5_were_107 rfl ?_
                    refine r_isubE hC ((w16 - 1)) dX5_were_108 (by omega) (by unfold inR; omega) ?_
                    refine r_istore hC dX5_were_109 rfl ?_
                    refine r_iload hC dX5_were_111 rfl ?_
                    refine r_iload hC dX5_were_113 rfl ?_
                    refine r_icmp_ne (tgt := 122) hC dX5_were_115 rfl (fun h21 => ?_) (fun h21 => ?_)
                    · refine r_aload hC dX5_were_122 rfl ?_
                      refine z_getR hM dX5_were_124 fl_RX5_198 rfl rfl (vld_of (n := 7) rfl (by omega) (by omega)) ?_
                      refine r_iload hC dX5_were_127 rfl ?_
                      refine z_iald hM dX5_were_129 rfl (by omega) (by omega) (fun v22 h_v22 o_v22 t_v22 => ?_)
                      have w_v22 := ((t_v22 (Or.inl (by simp [Tb]))).trans (m0_83 8 l (w16 - 1) (by decide))).symm
                      subst w_v22
                      refine r_istore hC dX5_were_130 rfl ?_
                      refine r_aload hC dX5_were_132 rfl ?_
                      refine r_aload hC dX5_were_134 rfl ?_
                      refine z_getI (jz := 6) hM dX5_were_136 fl_RX5_154 rfl rfl rfl (fun v23 h_v23 o_v23 t_v23 => ?_)
                      have w_v23 := ((t_v23 (Or.inl (by simp [Tb]))).trans (m0_83 7 l 6 (by decide))).symm
                      subst w_v23
                      have q_v23 : 0 ≤ (σ 7 l 6) ∧ (σ 7 l 6) ≤ 121 := o_v23.1 rfl
                      refine r_iconst hC dX5_were_139 rfl ?_
                      refine r_iaddE hC (((σ 7 l 6) + 1)) dX5_were_140 (by omega) (by unfold inR; omega) ?_
                      refine r_iload hC dX5_were_141 rfl ?_
                      refine r_isubE hC ((((σ 7 l 6) + 1) - w16)) dX5_were_143 (by omega) (by unfold inR; omega) ?_
                      refine r_iload hC dX5_were_144 rfl ?_
                      refine r_iload hC dX5_were_146 rfl ?_
                      refine z_inv3 hM dX5_were_148 vl_RX5_201 rfl rfl rfl (Nat.le_of_ble_eq_true rfl) (Nat.le_of_ble_eq_true rfl) ?_
                      have eT : insR (σ 8 l) (hU σ l z) (σ 7 l 6) z w16 = (σ 8 l (w16 - 1)) := by
                        unfold insR
                        first | (rw [if_pos (by omega)]; done) | (rw [if_neg (by omega), if_pos (by omega)]; done) | (rw [if_neg (by omega), if_neg (by omega)]; done) | (exfalso; omega)
                      refine x_goes (by omega) (fun hg_148 => ?_) (fun hg_148 => ?_)
                      · rw [m0_83 7 l 3 (by decide), m0_83 7 l 4 (by decide)] at hg_148
                        have hK_ : w16 < weK σ l z := weK_lt hG (by omega) (by omega) (by omega) (by unfold weG gD weT; rw [eT]; omega)
                        refine r_if_ne (tgt := 180) hC dX5_were_151 rfl (fun h24 => ?_) (fun h24 => by omega)
                        refine r_iincE hC ((w16 + 1)) dX5_were_180 rfl rfl (by omega) (by unfold inR; omega) ?_
                        refine r_goto (tgt := 83) hC dX5_were_183 rfl ?_
                        refine r_forget hC (ls2 := [some (vR 2 0), some (vI l), some (vI z), some (vI v), some (vI w), some (vR 7 l), some (vI (hU σ l z)), some (vI (max (σ 7 l 10) z)), some (vI (w16 + 1)), none, none]) (lsub_some (lsub_some (lsub_some (lsub_some (lsub_some (lsub_some (lsub_some (lsub_some (lsub_some (lsub_none (lsub_none lsub_nil))))))))))) ?_
                        exact ih83 ((w16 + 1)) ρ17 (by omega) (by omega) (by omega)  (m0_83) (by rw [show ((((w16 + 1) - weK σ l z : Int)).toNat : Nat) = (w16 - weK σ l z).toNat from by omega]; exact m1_83)
                      · rw [m0_83 7 l 3 (by decide), m0_83 7 l 4 (by decide)] at hg_148
                        have hK_ : weK σ l z ≤ w16 := weK_le hG (by omega) (by omega) (by unfold weG gD weT; rw [eT]; omega)
                        refine r_if_ne (tgt := 180) hC dX5_were_151 rfl (fun h25 => by omega) (fun h25 => ?_)
                        refine r_aload_n hC dX5_were_154 rfl ?_
                        refine z_getR hM dX5_were_155 fl_RX5_40 rfl rfl (vld_of (n := 1) rfl (by omega) (by omega)) ?_
                        refine r_iload hC dX5_were_158 rfl ?_
                        refine r_iload hC dX5_were_160 rfl ?_
                        refine r_icmp_ne (tgt := 169) hC dX5_were_162 rfl (fun h26 => ?_) (fun h26 => ?_)
                        · refine r_aload hC dX5_were_169 rfl ?_
                          refine z_getR hM dX5_were_171 fl_RX5_176 rfl rfl (vld_of (n := 7) rfl (by omega) (by omega)) ?_
                          refine r_iload hC dX5_were_174 rfl ?_
                          refine z_iald hM dX5_were_176 rfl (by omega) (by omega) (fun v27 h_v27 o_v27 t_v27 => ?_)
                          have w_v27 := ((t_v27 (Or.inl (by simp [Tb]))).trans (m0_83 9 l (w16 - 1) (by decide))).symm
                          subst w_v27
                          have q_v27 : -1000 ≤ (σ 9 l (w16 - 1)) ∧ (σ 9 l (w16 - 1)) ≤ 1000 := o_v27
                          refine z_inv1 hM dX5_were_177 vl_RX5_253 rfl rfl rfl (Nat.le_of_ble_eq_true rfl) (Nat.le_of_ble_eq_true rfl) ?_
                          refine x_append2 (u := (fun j => weU σ l z v (weK σ l z + j))) (n := (w16 - weK σ l z).toNat) (by show (σ 9 l (w16 - 1)) = insR (σ 9 l) (hU σ l z) (σ 7 l 6) v (weK σ l z + (((w16 - weK σ l z).toNat : Nat) : Int)); rw [show (weK σ l z + (((w16 - weK σ l z).toNat : Nat) : Int) : Int) = w16 from by omega]; unfold insR; first | (rw [if_pos (by omega)]; done) | (rw [if_neg (by omega), if_pos (by omega)]; done) | (rw [if_neg (by omega), if_neg (by omega)]; done) | (exfalso; omega)) (by omega) (by omega) (by omega) (fun j h0 h1 => insR_b (fun y a b => (hrow l y (by omega) (by omega) a b).2) (by omega) (by omega) (by omega) (by omega)) m1_83 (fun j h0 h1 => by rw [m0_83 15 0 j (by decide)]; exact hcl j h0 h1) (fun ρ28 g_ρ28 r_ρ28 => ?_)
                          have t_ρ28 : ∀ (c : Nat) (p q : Int), ¬ Fo c → ρ28 c p q = σ c p q := fun c p q hc => (g_ρ28 c p q (by omega)).trans (m0_83 c p q hc)
                          refine r_iincE hC ((w16 + 1)) dX5_were_180 rfl rfl (by omega) (by unfold inR; omega) ?_
                          refine r_goto (tgt := 83) hC dX5_were_183 rfl ?_
                          refine r_forget hC (ls2 := [some (vR 2 0), some (vI l), some (vI z), some (vI v), some (vI w), some (vR 7 l), some (vI (hU σ l z)), some (vI (max (σ 7 l 10) z)), some (vI (w16 + 1)), none, none]) (lsub_some (lsub_some (lsub_some (lsub_some (lsub_some (lsub_some (lsub_some (lsub_some (lsub_some (lsub_none (lsub_none lsub_nil))))))))))) ?_
                          exact ih83 ((w16 + 1)) ρ28 (by omega) (by omega) (by omega)  (t_ρ28) (by rw [show ((((w16 + 1) - weK σ l z : Int)).toNat : Nat) = ((w16 - weK σ l z).toNat + 1) from by omega]; exact r_ρ28)
                        · refine r_iload_n hC dX5_were_165 rfl ?_
                          refine r_goto (tgt := 177) hC dX5_were_166 rfl ?_
                          refine z_inv1 hM dX5_were_177 vl_RX5_253 rfl rfl rfl (Nat.le_of_ble_eq_true rfl) (Nat.le_of_ble_eq_true rfl) ?_
                          refine x_append2 (u := (fun j => weU σ l z v (weK σ l z + j))) (n := (w16 - weK σ l z).toNat) (by show v = insR (σ 9 l) (hU σ l z) (σ 7 l 6) v (weK σ l z + (((w16 - weK σ l z).toNat : Nat) : Int)); rw [show (weK σ l z + (((w16 - weK σ l z).toNat : Nat) : Int) : Int) = w16 from by omega]; unfold insR; first | (rw [if_pos (by omega)]; done) | (rw [if_neg (by omega), if_pos (by omega)]; done) | (rw [if_neg (by omega), if_neg (by omega)]; done) | (exfalso; omega)) (by omega) (by omega) (by omega) (fun j h0 h1 => insR_b (fun y a b => (hrow l y (by omega) (by omega) a b).2) (by omega) (by omega) (by omega) (by omega)) m1_83 (fun j h0 h1 => by rw [m0_83 15 0 j (by decide)]; exact hcl j h0 h1) (fun ρ29 g_ρ29 r_ρ29 => ?_)
                          have t_ρ29 : ∀ (c : Nat) (p q : Int), ¬ Fo c → ρ29 c p q = σ c p q := fun c p q hc => (g_ρ29 c p q (by omega)).trans (m0_83 c p q hc)
                          refine r_iincE hC ((w16 + 1)) dX5_were_180 rfl rfl (by omega) (by unfold inR; omega) ?_
                          refine r_goto (tgt := 83) hC dX5_were_183 rfl ?_
                          refine r_forget hC (ls2 := [some (vR 2 0), some (vI l), some (vI z), some (vI v), some (vI w), some (vR 7 l), some (vI (hU σ l z)), some (vI (max (σ 7 l 10) z)), some (vI (w16 + 1)), none, none]) (lsub_some (lsub_some (lsub_some (lsub_some (lsub_some (lsub_some (lsub_some (lsub_some (lsub_some (lsub_none (lsub_none lsub_nil))))))))))) ?_
                          exact ih83 ((w16 + 1)) ρ29 (by omega) (by omega) (by omega)  (t_ρ29) (by rw [show ((((w16 + 1) - weK σ l z : Int)).toNat : Nat) = ((w16 - weK σ l z).toNat + 1) from by omega]; exact r_ρ29)
                    · refine r_iload_n hC dX5_were_118 rfl ?_
                      refine r_goto (tgt := 130) hC dX5_were_119 rfl ?_
                      refine r_istore hC dX5_were_130 rfl ?_
                      refine r_aload hC dX5_were_132 rfl ?_
                      refine r_aload hC dX5_were_134 rfl ?_
                      refine z_getI (jz := 6) hM dX5_were_136 fl_RX5_154 rfl rfl rfl (fun v30 h_v30 o_v30 t_v30 => ?_)
                      have w_v30 := ((t_v30 (Or.inl (by simp [Tb]))).trans (m0_83 7 l 6 (by decide))).symm
                      subst w_v30
                      have q_v30 : 0 ≤ (σ 7 l 6) ∧ (σ 7 l 6) ≤ 121 := o_v30.1 rfl
                      refine r_iconst hC dX5_were_139 rfl ?_
                      refine r_iaddE hC (((σ 7 l 6) + 1)) dX5_were_140 (by omega) (by unfold inR; omega) ?_
                      refine r_iload hC dX5_were_141 rfl ?_
                      refine r_isubE hC ((((σ 7 l 6) + 1) - w16)) dX5_were_143 (by omega) (by unfold inR; omega) ?_
                      refine r_iload hC dX5_were_144 rfl ?_
                      refine r_iload hC dX5_were_146 rfl ?_
                      refine z_inv3 hM dX5_were_148 vl_RX5_201 rfl rfl rfl (Nat.le_of_ble_eq_true rfl) (Nat.le_of_ble_eq_true rfl) ?_
                      have eT : insR (σ 8 l) (hU σ l z) (σ 7 l 6) z w16 = z := by
                        unfold insR
                        first | (rw [if_pos (by omega)]; done) | (rw [if_neg (by omega), if_pos (by omega)]; done) | (rw [if_neg (by omega), if_neg (by omega)]; done) | (exfalso; omega)
                      refine x_goes (by omega) (fun hg_148 => ?_) (fun hg_148 => ?_)
                      · rw [m0_83 7 l 3 (by decide), m0_83 7 l 4 (by decide)] at hg_148
                        have hK_ : w16 < weK σ l z := weK_lt hG (by omega) (by omega) (by omega) (by unfold weG gD weT; rw [eT]; omega)
                        refine r_if_ne (tgt := 180) hC dX5_were_151 rfl (fun h31 => ?_) (fun h31 => by omega)
                        refine r_iincE hC ((w16 + 1)) dX5_were_180 rfl rfl (by omega) (by unfold inR; omega) ?_
                        refine r_goto (tgt := 83) hC dX5_were_183 rfl ?_
                        refine r_forget hC (ls2 := [some (vR 2 0), some (vI l), some (vI z), some (vI v), some (vI w), some (vR 7 l), some (vI (hU σ l z)), some (vI (max (σ 7 l 10) z)), some (vI (w16 + 1)), none, none]) (lsub_some (lsub_some (lsub_some (lsub_some (lsub_some (lsub_some (lsub_some (lsub_some (lsub_some (lsub_none (lsub_none lsub_nil))))))))))) ?_
                        exact ih83 ((w16 + 1)) ρ17 (by omega) (by omega) (by omega)  (m0_83) (by rw [show ((((w16 + 1) - weK σ l z : Int)).toNat : Nat) = (w16 - weK σ l z).toNat from by omega]; exact m1_83)
                      · rw [m0_83 7 l 3 (by decide), m0_83 7 l 4 (by decide)] at hg_148
                        have hK_ : weK σ l z ≤ w16 := weK_le hG (by omega) (by omega) (by unfold weG gD weT; rw [eT]; omega)
                        refine r_if_ne (tgt := 180) hC dX5_were_151 rfl (fun h32 => by omega) (fun h32 => ?_)
                        refine r_aload_n hC dX5_were_154 rfl ?_
                        refine z_getR hM dX5_were_155 fl_RX5_40 rfl rfl (vld_of (n := 1) rfl (by omega) (by omega)) ?_
                        refine r_iload hC dX5_were_158 rfl ?_
                        refine r_iload hC dX5_were_160 rfl ?_
                        refine r_icmp_ne (tgt := 169) hC dX5_were_162 rfl (fun h33 => ?_) (fun h33 => ?_)
                        · refine r_aload hC dX5_were_169 rfl ?_
                          refine z_getR hM dX5_were_171 fl_RX5_176 rfl rfl (vld_of (n := 7) rfl (by omega) (by omega)) ?_
                          refine r_iload hC dX5_were_174 rfl ?_
                          refine z_iald hM dX5_were_176 rfl (by omega) (by omega) (fun v34 h_v34 o_v34 t_v34 => ?_)
                          have w_v34 := ((t_v34 (Or.inl (by simp [Tb]))).trans (m0_83 9 l (w16 - 1) (by decide))).symm
                          subst w_v34
                          have q_v34 : -1000 ≤ (σ 9 l (w16 - 1)) ∧ (σ 9 l (w16 - 1)) ≤ 1000 := o_v34
                          refine z_inv1 hM dX5_were_177 vl_RX5_253 rfl rfl rfl (Nat.le_of_ble_eq_true rfl) (Nat.le_of_ble_eq_true rfl) ?_
                          refine x_append2 (u := (fun j => weU σ l z v (weK σ l z + j))) (n := (w16 - weK σ l z).toNat) (by show (σ 9 l (w16 - 1)) = insR (σ 9 l) (hU σ l z) (σ 7 l 6) v (weK σ l z + (((w16 - weK σ l z).toNat : Nat) : Int)); rw [show (weK σ l z + (((w16 - weK σ l z).toNat : Nat) : Int) : Int) = w16 from by omega]; unfold insR; first | (rw [if_pos (by omega)]; done) | (rw [if_neg (by omega), if_pos (by omega)]; done) | (rw [if_neg (by omega), if_neg (by omega)]; done) | (exfalso; omega)) (by omega) (by omega) (by omega) (fun j h0 h1 => insR_b (fun y a b => (hrow l y (by omega) (by omega) a b).2) (by omega) (by omega) (by omega) (by omega)) m1_83 (fun j h0 h1 => by rw [m0_83 15 0 j (by decide)]; exact hcl j h0 h1) (fun ρ35 g_ρ35 r_ρ35 => ?_)
                          have t_ρ35 : ∀ (c : Nat) (p q : Int), ¬ Fo c → ρ35 c p q = σ c p q := fun c p q hc => (g_ρ35 c p q (by omega)).trans (m0_83 c p q hc)
                          refine r_iincE hC ((w16 + 1)) dX5_were_180 rfl rfl (by omega) (by unfold inR; omega) ?_
                          refine r_goto (tgt := 83) hC dX5_were_183 rfl ?_
                          refine r_forget hC (ls2 := [some (vR 2 0), some (vI l), some (vI z), some (vI v), some (vI w), some (vR 7 l), some (vI (hU σ l z)), some (vI (max (σ 7 l 10) z)), some (vI (w16 + 1)), none, none]) (lsub_some (lsub_some (lsub_some (lsub_some (lsub_some (lsub_some (lsub_some (lsub_some (lsub_some (lsub_none (lsub_none lsub_nil))))))))))) ?_
                          exact ih83 ((w16 + 1)) ρ35 (by omega) (by omega) (by omega)  (t_ρ35) (by rw [show ((((w16 + 1) - weK σ l z : Int)).toNat : Nat) = ((w16 - weK σ l z).toNat + 1) from by omega]; exact r_ρ35)
                        · refine r_iload_n hC dX5_were_165 rfl ?_
                          refine r_goto (tgt := 177) hC dX5_were_166 rfl ?_
                          refine z_inv1 hM dX5_were_177 vl_RX5_253 rfl rfl rfl (Nat.le_of_ble_eq_true rfl) (Nat.le_of_ble_eq_true rfl) ?_
                          refine x_append2 (u := (fun j => weU σ l z v (weK σ l z + j))) (n := (w16 - weK σ l z).toNat) (by show v = insR (σ 9 l) (hU σ l z) (σ 7 l 6) v (weK σ l z + (((w16 - weK σ l z).toNat : Nat) : Int)); rw [show (weK σ l z + (((w16 - weK σ l z).toNat : Nat) : Int) : Int) = w16 from by omega]; unfold insR; first | (rw [if_pos (by omega)]; done) | (rw [if_neg (by omega), if_pos (by omega)]; done) | (rw [if_neg (by omega), if_neg (by omega)]; done) | (exfalso; omega)) (by omega) (by omega) (by omega) (fun j h0 h1 => insR_b (fun y a b => (hrow l y (by omega) (by omega) a b).2) (by omega) (by omega) (by omega) (by omega)) m1_83 (fun j h0 h1 => by rw [m0_83 15 0 j (by decide)]; exact hcl j h0 h1) (fun ρ36 g_ρ36 r_ρ36 => ?_)
                          have t_ρ36 : ∀ (c : Nat) (p q : Int), ¬ Fo c → ρ36 c p q = σ c p q := fun c p q hc => (g_ρ36 c p q (by omega)).trans (m0_83 c p q hc)
                          refine r_iincE hC ((w16 + 1)) dX5_were_180 rfl rfl (by omega) (by unfold inR; omega) ?_
                          refine r_goto (tgt := 83) hC dX5_were_183 rfl ?_
                          refine r_forget hC (ls2 := [some (vR 2 0), some (vI l), some (vI z), some (vI v), some (vI w), some (vR 7 l), some (vI (hU σ l z)), some (vI (max (σ 7 l 10) z)), some (vI (w16 + 1)), none, none]) (lsub_some (lsub_some (lsub_some (lsub_some (lsub_some (lsub_some (lsub_some (lsub_some (lsub_some (lsub_none (lsub_none lsub_nil))))))))))) ?_
                          exact ih83 ((w16 + 1)) ρ36 (by omega) (by omega) (by omega)  (t_ρ36) (by rw [show ((((w16 + 1) - weK σ l z : Int)).toNat : Nat) = ((w16 - weK σ l z).toNat + 1) from by omega]; exact r_ρ36)
                  · refine r_iload hC dX5_were_100 rfl ?_
                    refine r_goto (tgt := 109) hC dX5_were_102 rfl ?_
                    refine r_istore hC dX5_were_109 rfl ?_
                    refine r_iload hC dX5_were_111 rfl ?_
                    refine r_iload hC dX5_were_113 rfl ?_
                    refine r_icmp_ne (tgt := 122) hC dX5_were_115 rfl (fun h37 => ?_) (fun h37 => ?_)
                    · refine r_aload hC dX5_were_122 rfl ?_
                      refine z_getR hM dX5_were_124 fl_RX5_198 rfl rfl (vld_of (n := 7) rfl (by omega) (by omega)) ?_
                      refine r_iload hC dX5_were_127 rfl ?_
                      refine z_iald hM dX5_were_129 rfl (by omega) (by omega) (fun v38 h_v38 o_v38 t_v38 => ?_)
                      have w_v38 := ((t_v38 (Or.inl (by simp [Tb]))).trans (m0_83 8 l w16 (by decide))).symm
                      subst w_v38
                      refine r_istore hC dX5_were_130 rfl ?_
                      refine r_aload hC dX5_were_132 rfl ?_
                      refine r_aload hC dX5_were_134 rfl ?_
                      refine z_getI (jz := 6) hM dX5_were_136 fl_RX5_154 rfl rfl rfl (fun v39 h_v39 o_v39 t_v39 => ?_)
                      have w_v39 := ((t_v39 (Or.inl (by simp [Tb]))).trans (m0_83 7 l 6 (by decide))).symm
                      subst w_v39
                      have q_v39 : 0 ≤ (σ 7 l 6) ∧ (σ 7 l 6) ≤ 121 := o_v39.1 rfl
                      refine r_iconst hC dX5_were_139 rfl ?_
                      refine r_iaddE hC (((σ 7 l 6) + 1)) dX5_were_140 (by omega) (by unfold inR; omega) ?_
                      refine r_iload hC dX5_were_141 rfl ?_
                      refine r_isubE hC ((((σ 7 l 6) + 1) - w16)) dX5_were_143 (by omega) (by unfold inR; omega) ?_
                      refine r_iload hC dX5_were_144 rfl ?_
                      refine r_iload hC dX5_were_146 rfl ?_
                      refine z_inv3 hM dX5_were_148 vl_RX5_201 rfl rfl rfl (Nat.le_of_ble_eq_true rfl) (Nat.le_of_ble_eq_true rfl) ?_
                      have eT : insR (σ 8 l) (hU σ l z) (σ 7 l 6) z w16 = (σ 8 l w16) := by
                        unfold insR
                        first | (rw [if_pos (by omega)]; done) | (rw [if_neg (by omega), if_pos (by omega)]; done) | (rw [if_neg (by omega), if_neg (by omega)]; done) | (exfalso; omega)
                      refine x_goes (by omega) (fun hg_148 => ?_) (fun hg_148 => ?_)
                      · rw [m0_83 7 l 3 (by decide), m0_83 7 l 4 (by decide)] at hg_148
                        have hK_ : w16 < weK σ l z := weK_lt hG (by omega) (by omega) (by omega) (by unfold weG gD weT; rw [eT]; omega)
                        refine r_if_ne (tgt := 180) hC dX5_were_151 rfl (fun h40 => ?_) (fun h40 => by omega)
                        refine r_iincE hC ((w16 + 1)) dX5_were_180 rfl rfl (by omega) (by unfold inR; omega) ?_
                        refine r_goto (tgt := 83) hC dX5_were_183 rfl ?_
                        refine r_forget hC (ls2 := [some (vR 2 0), some (vI l), some (vI z), some (vI v), some (vI w), some (vR 7 l), some (vI (hU σ l z)), some (vI (max (σ 7 l 10) z)), some (vI (w16 + 1)), none, none]) (lsub_some (lsub_some (lsub_some (lsub_some (lsub_some (lsub_some (lsub_some (lsub_some (lsub_some (lsub_none (lsub_none lsub_nil))))))))))) ?_
                        exact ih83 ((w16 + 1)) ρ17 (by omega) (by omega) (by omega)  (m0_83) (by rw [show ((((w16 + 1) - weK σ l z : Int)).toNat : Nat) = (w16 - weK σ l z).toNat from by omega]; exact m1_83)
                      · rw [m0_83 7 l 3 (by decide), m0_83 7 l 4 (by decide)] at hg_148
                        have hK_ : weK σ l z ≤ w16 := weK_le hG (by omega) (by omega) (by unfold weG gD weT; rw [eT]; omega)
                        refine r_if_ne (tgt := 180) hC dX5_were_151 rfl (fun h41 => by omega) (fun h41 => ?_)
                        refine r_aload_n hC dX5_were_154 rfl ?_
                        refine z_getR hM dX5_were_155 fl_RX5_40 rfl rfl (vld_of (n := 1) rfl (by omega) (by omega)) ?_
                        refine r_iload hC dX5_were_158 rfl ?_
                        refine r_iload hC dX5_were_160 rfl ?_
                        refine r_icmp_ne (tgt := 169) hC dX5_were_162 rfl (fun h42 => ?_) (fun h42 => ?_)
                        · refine r_aload hC dX5_were_169 rfl ?_
                          refine z_getR hM dX5_were_171 fl_RX5_176 rfl rfl (vld_of (n := 7) rfl (by omega) (by omega)) ?_
                          refine r_iload hC dX5_were_174 rfl ?_
                          refine z_iald hM dX5_were_176 rfl (by omega) (by omega) (fun v43 h_v43 o_v43 t_v43 => ?_)
                          have w_v43 := ((t_v43 (Or.inl (by simp [Tb]))).trans (m0_83 9 l w16 (by decide))).symm
                          subst w_v43
                          have q_v43 : -1000 ≤ (σ 9 l w16) ∧ (σ 9 l w16) ≤ 1000 := o_v43
                          refine z_inv1 hM dX5_were_177 vl_RX5_253 rfl rfl rfl (Nat.le_of_ble_eq_true rfl) (Nat.le_of_ble_eq_true rfl) ?_
                          refine x_append2 (u := (fun j => weU σ l z v (weK σ l z + j))) (n := (w16 - weK σ l z).toNat) (by show (σ 9 l w16) = insR (σ 9 l) (hU σ l z) (σ 7 l 6) v (weK σ l z + (((w16 - weK σ l z).toNat : Nat) : Int)); rw [show (weK σ l z + (((w16 - weK σ l z).toNat : Nat) : Int) : Int) = w16 from by omega]; unfold insR; first | (rw [if_pos (by omega)]; done) | (rw [if_neg (by omega), if_pos (by omega)]; done) | (rw [if_neg (by omega), if_neg (by omega)]; done) | (exfalso; omega)) (by omega) (by omega) (by omega) (fun j h0 h1 => insR_b (fun y a b => (hrow l y (by omega) (by omega) a b).2) (by omega) (by omega) (by omega) (by omega)) m1_83 (fun j h0 h1 => by rw [m0_83 15 0 j (by decide)]; exact hcl j h0 h1) (fun ρ44 g_ρ44 r_ρ44 => ?_)
                          have t_ρ44 : ∀ (c : Nat) (p q : Int), ¬ Fo c → ρ44 c p q = σ c p q := fun c p q hc => (g_ρ44 c p q (by omega)).trans (m0_83 c p q hc)
                          refine r_iincE hC ((w16 + 1)) dX5_were_180 rfl rfl (by omega) (by unfold inR; omega) ?_
                          refine r_goto (tgt := 83) hC dX5_were_183 rfl ?_
                          refine r_forget hC (ls2 := [some (vR 2 0), some (vI l), some (vI z), some (vI v), some (vI w), some (vR 7 l), some (vI (hU σ l z)), some (vI (max (σ 7 l 10) z)), some (vI (w16 + 1)), none, none]) (lsub_some (lsub_some (lsub_some (lsub_some (lsub_some (lsub_some (lsub_some (lsub_some (lsub_some (lsub_none (lsub_none lsub_nil))))))))))) ?_
                          exact ih83 ((w16 + 1)) ρ44 (by omega) (by omega) (by omega)  (t_ρ44) (by rw [show ((((w16 + 1) - weK σ l z : Int)).toNat : Nat) = ((w16 - weK σ l z).toNat + 1) from by omega]; exact r_ρ44)
                        · refine r_iload_n hC dX5_were_165 rfl ?_
                          refine r_goto (tgt := 177) hC dX5_were_166 rfl ?_
                          refine z_inv1 hM dX5_were_177 vl_RX5_253 rfl rfl rfl (Nat.le_of_ble_eq_true rfl) (Nat.le_of_ble_eq_true rfl) ?_
                          refine x_append2 (u := (fun j => weU σ l z v (weK σ l z + j))) (n := (w16 - weK σ l z).toNat) (by show v = insR (σ 9 l) (hU σ l z) (σ 7 l 6) v (weK σ l z + (((w16 - weK σ l z).toNat : Nat) : Int)); rw [show (weK σ l z + (((w16 - weK σ l z).toNat : Nat) : Int) : Int) = w16 from by omega]; unfold insR; first | (rw [if_pos (by omega)]; done) | (rw [if_neg (by omega), if_pos (by omega)]; done) | (rw [if_neg (by omega), if_neg (by omega)]; done) | (exfalso; omega)) (by omega) (by omega) (by omega) (fun j h0 h1 => insR_b (fun y a b => (hrow l y (by omega) (by omega) a b).2) (by omega) (by omega) (by omega) (by omega)) m1_83 (fun j h0 h1 => by rw [m0_83 15 0 j (by decide)]; exact hcl j h0 h1) (fun ρ45 g_ρ45 r_ρ45 => ?_)
                          have t_ρ45 : ∀ (c : Nat) (p q : Int), ¬ Fo c → ρ45 c p q = σ c p q := fun c p q hc => (g_ρ45 c p q (by omega)).trans (m0_83 c p q hc)
                          refine r_iincE hC ((w16 + 1)) dX5_were_180 rfl rfl (by omega) (by unfold inR; omega) ?_
                          refine r_goto (tgt := 83) hC dX5_were_183 rfl ?_
                          refine r_forget hC (ls2 := [some (vR 2 0), some (vI l), some (vI z), some (vI v), some (vI w), some (vR 7 l), some (vI (hU σ l z)), some (vI (max (σ 7 l 10) z)), some (vI (w16 + 1)), none, none]) (lsub_some (lsub_some (lsub_some (lsub_some (lsub_some (lsub_some (lsub_some (lsub_some (lsub_some (lsub_none (lsub_none lsub_nil))))))))))) ?_
                          exact ih83 ((w16 + 1)) ρ45 (by omega) (by omega) (by omega)  (t_ρ45) (by rw [show ((((w16 + 1) - weK σ l z : Int)).toNat : Nat) = ((w16 - weK σ l z).toNat + 1) from by omega]; exact r_ρ45)
                    · refine r_iload_n hC dX5_were_118 rfl ?_
                      refine r_goto (tgt := 130) hC dX5_were_119 rfl ?_
                      refine r_istore hC dX5_were_130 rfl ?_
                      refine r_aload hC dX5_were_132 rfl ?_
                      refine r_aload hC dX5_were_134 rfl ?_
                      refine z_getI (jz := 6) hM dX5_were_136 fl_RX5_154 rfl rfl rfl (fun v46 h_v46 o_v46 t_v46 => ?_)
                      have w_v46 := ((t_v46 (Or.inl (by simp [Tb]))).trans (m0_83 7 l 6 (by decide))).symm
                      subst w_v46
                      have q_v46 : 0 ≤ (σ 7 l 6) ∧ (σ 7 l 6) ≤ 121 := o_v46.1 rfl
                      refine r_iconst hC dX5_were_139 rfl ?_
                      refine r_iaddE hC (((σ 7 l 6) + 1)) dX5_were_140 (by omega) (by unfold inR; omega) ?_
                      refine r_iload hC dX5_were_141 rfl ?_
                      refine r_isubE hC ((((σ 7 l 6) + 1) - w16)) dX5_were_143 (by omega) (by unfold inR; omega) ?_
                      refine r_iload hC dX5_were_144 rfl ?_
                      refine r_iload hC dX5_were_146 rfl ?_
                      refine z_inv3 hM dX5_were_148 vl_RX5_201 rfl rfl rfl (Nat.le_of_ble_eq_true rfl) (Nat.le_of_ble_eq_true rfl) ?_
                      have eT : insR (σ 8 l) (hU σ l z) (σ 7 l 6) z w16 = z := by
                        unfold insR
                        first | (rw [if_pos (by omega)]; done) | (rw [if_neg (by omega), if_pos (by omega)]; done) | (rw [if_neg (by omega), if_neg (by omega)]; done) | (exfalso; omega)
                      refine x_goes (by omega) (fun hg_148 => ?_) (fun hg_148 => ?_)
                      · rw [m0_83 7 l 3 (by decide), m0_83 7 l 4 (by decide)] at hg_148
                        have hK_ : w16 < weK σ l z := weK_lt hG (by omega) (by omega) (by omega) (by unfold weG gD weT; rw [eT]; omega)
                        refine r_if_ne (tgt := 180) hC dX5_were_151 rfl (fun h47 => ?_) (fun h47 => by omega)
                        refine r_iincE hC ((w16 + 1)) dX5_were_180 rfl rfl (by omega) (by unfold inR; omega) ?_
                        refine r_goto (tgt := 83) hC dX5_were_183 rfl ?_
                        refine r_forget hC (ls2 := [some (vR 2 0), some (vI l), some (vI z), some (vI v), some (vI w), some (vR 7 l), some (vI (hU σ l z)), some (vI (max (σ 7 l 10) z)), some (vI (w16 + 1)), none, none]) (lsub_some (lsub_some (lsub_some (lsub_some (lsub_some (lsub_some (lsub_some (lsub_some (lsub_some (lsub_none (lsub_none lsub_nil))))))))))) ?_
                        exact ih83 ((w16 + 1)) ρ17 (by omega) (by omega) (by omega)  (m0_83) (by rw [show ((((w16 + 1) - weK σ l z : Int)).toNat : Nat) = (w16 - weK σ l z).toNat from by omega]; exact m1_83)
                      · rw [m0_83 7 l 3 (by decide), m0_83 7 l 4 (by decide)] at hg_148
                        have hK_ : weK σ l z ≤ w16 := weK_le hG (by omega) (by omega) (by unfold weG gD weT; rw [eT]; omega)
                        refine r_if_ne (tgt := 180) hC dX5_were_151 rfl (fun h48 => by omega) (fun h48 => ?_)
                        refine r_aload_n hC dX5_were_154 rfl ?_
                        refine z_getR hM dX5_were_155 fl_RX5_40 rfl rfl (vld_of (n := 1) rfl (by omega) (by omega)) ?_
                        refine r_iload hC dX5_were_158 rfl ?_
                        refine r_iload hC dX5_were_160 rfl ?_
                        refine r_icmp_ne (tgt := 169) hC dX5_were_162 rfl (fun h49 => ?_) (fun h49 => ?_)
                        · refine r_aload hC dX5_were_169 rfl ?_
                          refine z_getR hM dX5_were_171 fl_RX5_176 rfl rfl (vld_of (n := 7) rfl (by omega) (by omega)) ?_
                          refine r_iload hC dX5_were_174 rfl ?_
                          refine z_iald hM dX5_were_176 rfl (by omega) (by omega) (fun v50 h_v50 o_v50 t_v50 => ?_)
                          have w_v50 := ((t_v50 (Or.inl (by simp [Tb]))).trans (m0_83 9 l w16 (by decide))).symm
                          subst w_v50
                          have q_v50 : -1000 ≤ (σ 9 l w16) ∧ (σ 9 l w16) ≤ 1000 := o_v50
                          refine z_inv1 hM dX5_were_177 vl_RX5_253 rfl rfl rfl (Nat.le_of_ble_eq_true rfl) (Nat.le_of_ble_eq_true rfl) ?_
                          refine x_append2 (u := (fun j => weU σ l z v (weK σ l z + j))) (n := (w16 - weK σ l z).toNat) (by show (σ 9 l w16) = insR (σ 9 l) (hU σ l z) (σ 7 l 6) v (weK σ l z + (((w16 - weK σ l z).toNat : Nat) : Int)); rw [show (weK σ l z + (((w16 - weK σ l z).toNat : Nat) : Int) : Int) = w16 from by omega]; unfold insR; first | (rw [if_pos (by omega)]; done) | (rw [if_neg (by omega), if_pos (by omega)]; done) | (rw [if_neg (by omega), if_neg (by omega)]; done) | (exfalso; omega)) (by omega) (by omega) (by omega) (fun j h0 h1 => insR_b (fun y a b => (hrow l y (by omega) (by omega) a b).2) (by omega) (by omega) (by omega) (by omega)) m1_83 (fun j h0 h1 => by rw [m0_83 15 0 j (by decide)]; exact hcl j h0 h1) (fun ρ51 g_ρ51 r_ρ51 => ?_)
                          have t_ρ51 : ∀ (c : Nat) (p q : Int), ¬ Fo c → ρ51 c p q = σ c p q := fun c p q hc => (g_ρ51 c p q (by omega)).trans (m0_83 c p q hc)
                          refine r_iincE hC ((w16 + 1)) dX5_were_180 rfl rfl (by omega) (by unfold inR; omega) ?_
                          refine r_goto (tgt := 83) hC dX5_were_183 rfl ?_
                          refine r_forget hC (ls2 := [some (vR 2 0), some (vI l), some (vI z), some (vI v), some (vI w), some (vR 7 l), some (vI (hU σ l z)), some (vI (max (σ 7 l 10) z)), some (vI (w16 + 1)), none, none]) (lsub_some (lsub_some (lsub_some (lsub_some (lsub_some (lsub_some (lsub_some (lsub_some (lsub_some (lsub_none (lsub_none lsub_nil))))))))))) ?_
                          exact ih83 ((w16 + 1)) ρ51 (by omega) (by omega) (by omega)  (t_ρ51) (by rw [show ((((w16 + 1) - weK σ l z : Int)).toNat : Nat) = ((w16 - weK σ l z).toNat + 1) from by omega]; exact r_ρ51)
                        · refine r_iload_n hC dX5_were_165 rfl ?_
                          refine r_goto (tgt := 177) hC dX5_were_166 rfl ?_
                          refine z_inv1 hM dX5_were_177 vl_RX5_253 rfl rfl rfl (Nat.le_of_ble_eq_true rfl) (Nat.le_of_ble_eq_true rfl) ?_
                          refine x_append2 (u := (fun j => weU σ l z v (weK σ l z + j))) (n := (w16 - weK σ l z).toNat) (by show v = insR (σ 9 l) (hU σ l z) (σ 7 l 6) v (weK σ l z + (((w16 - weK σ l z).toNat : Nat) : Int)); rw [show (weK σ l z + (((w16 - weK σ l z).toNat : Nat) : Int) : Int) = w16 from by omega]; unfold insR; first | (rw [if_pos (by omega)]; done) | (rw [if_neg (by omega), if_pos (by omega)]; done) | (rw [if_neg (by omega), if_neg (by omega)]; done) | (exfalso; omega)) (by omega) (by omega) (by omega) (fun j h0 h1 => insR_b (fun y a b => (hrow l y (by omega) (by omega) a b).2) (by omega) (by omega) (by omega) (by omega)) m1_83 (fun j h0 h1 => by rw [m0_83 15 0 j (by decide)]; exact hcl j h0 h1) (fun ρ52 g_ρ52 r_ρ52 => ?_)
                          have t_ρ52 : ∀ (c : Nat) (p q : Int), ¬ Fo c → ρ52 c p q = σ c p q := fun c p q hc => (g_ρ52 c p q (by omega)).trans (m0_83 c p q hc)
                          refine r_iincE hC ((w16 + 1)) dX5_were_180 rfl rfl (by omega) (by unfold inR; omega) ?_
                          refine r_goto (tgt := 83) hC dX5_were_183 rfl ?_
                          refine r_forget hC (ls2 := [some (vR 2 0), some (vI l), some (vI z), some (vI v), some (vI w), some (vR 7 l), some (vI (hU σ l z)), some (vI (max (σ 7 l 10) z)), some (vI (w16 + 1)), none, none]) (lsub_some (lsub_some (lsub_some (lsub_some (lsub_some (lsub_some (lsub_some (lsub_some (lsub_some (lsub_none (lsub_none lsub_nil))))))))))) ?_
                          exact ih83 ((w16 + 1)) ρ52 (by omega) (by omega) (by omega)  (t_ρ52) (by rw [show ((((w16 + 1) - weK σ l z : Int)).toNat : Nat) = ((w16 - weK σ l z).toNat + 1) from by omega]; exact r_ρ52)
            exact L83 124 (0) ρ15 (by omega) (by omega) (by omega)  (t_ρ15) (by rw [show (((0 - weK σ l z : Int)).toNat : Nat) = 0 from by omega]; exact z_ρ15 (fun j => weU σ l z v (weK σ l z + j)))
      · refine r_if_eq (tgt := 45) hC dX5_were_25 rfl (fun h53 => ?_) (fun h53 => by omega)
        refine r_ldc hC dX5_were_45 co_RX5_175 rfl ?_
        refine y_iret hK rfl dX5_were_47 ?_
        have hR : weR σ l z v w = (-2147483648) := by
          have hnw_ : 0 ≤ l → l ≤ 3 → -1 ≤ σ 7 l 10 ∧ 0 ≤ σ 7 l 5 ∧ σ 7 l 5 ≤ 10000 := fun a b => by have := hG.2.1.2.1 l a (by omega); omega
          have hlt_ : σ 7 l 10 = -1 → 0 ≤ σ 7 l 5 ∧ σ 7 l 5 ≤ 10000 → 0 ≤ z → ¬ z < wr (σ 7 l 10 - σ 7 l 5) := fun a b c => lt_neg a b c
          exact if_neg (by unfold wrC lwC opV; omega)
        rw [hR] at k
        exact k _ (fun _ _ _ _ => rfl) hI
    · refine r_if_eq (tgt := 45) hC dX5_were_18 rfl (fun h54 => ?_) (fun h54 => by omega)
      refine r_ldc hC dX5_were_45 co_RX5_175 rfl ?_
      refine y_iret hK rfl dX5_were_47 ?_
      have hR : weR σ l z v w = (-2147483648) := by
        have hnw_ : 0 ≤ l → l ≤ 3 → -1 ≤ σ 7 l 10 ∧ 0 ≤ σ 7 l 5 ∧ σ 7 l 5 ≤ 10000 := fun a b => by have := hG.2.1.2.1 l a (by omega); omega
        have hlt_ : σ 7 l 10 = -1 → 0 ≤ σ 7 l 5 ∧ σ 7 l 5 ≤ 10000 → 0 ≤ z → ¬ z < wr (σ 7 l 10 - σ 7 l 5) := fun a b c => lt_neg a b c
        exact if_neg (by unfold wrC lwC opV; omega)
      rw [hR] at k
      exact k _ (fun _ _ _ _ => rfl) hI
  · refine r_astoreN hC dX5_were_7 rfl ?_
    refine r_aloadN hC dX5_were_9 rfl ?_
    refine r_ifnullN (tgt := 45) hC dX5_were_11 rfl ?_
    refine r_ldc hC dX5_were_45 co_RX5_175 rfl ?_
    refine y_iret hK rfl dX5_were_47 ?_
    have hR : weR σ l z v w = (-2147483648) := by
      have hnw_ : 0 ≤ l → l ≤ 3 → -1 ≤ σ 7 l 10 ∧ 0 ≤ σ 7 l 5 ∧ σ 7 l 5 ≤ 10000 := fun a b => by have := hG.2.1.2.1 l a (by omega); omega
      have hlt_ : σ 7 l 10 = -1 → 0 ≤ σ 7 l 5 ∧ σ 7 l 5 ≤ 10000 → 0 ≤ z → ¬ z < wr (σ 7 l 10 - σ 7 l 5) := fun a b c => lt_neg a b c
      exact if_neg (by unfold wrC lwC opV; omega)
    rw [hR] at k
    exact k _ (fun _ _ _ _ => rfl) hI
theorem x_were {eb : Bool} {d : Nat} {P : Option Vl → Mm → Prop} {σ : Mm} {l z v w : Int} (hG : GI σ) (k : P (some (vI (weR σ l z v w))) σ) : WT (true, false, eb) (d + 5) 111 [vR 2 0, vI l, vI z, vI v, vI w] σ P := WT_fold fun ρ e hI => x_were_S hI (hG.fo e) (fun ρ2 gq hI2 => ⟨hI2, σ, by
    have hc : weR ρ l z v w = weR σ l z v w := by (delta weR weK weT weU hU wrC lwC opV; simp only [e 7 (by decide), e 8 (by decide), e 9 (by decide), e 15 (by decide), e 16 (by decide)])
    rw [hc]
    exact k, fun c x y hc => (gq c x y hc).trans (by rw [e c hc])⟩)
