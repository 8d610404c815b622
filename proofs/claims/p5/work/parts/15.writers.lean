-- what is tracked is written: the calls of the reference
theorem m_setT {d : Nat} {P : Option Vl → Mm → Prop} {σ : Mm} {l f v : Int} (b_l : 0 ≤ l ∧ l ≤ 7) (b_f : 0 ≤ f ∧ f ≤ 21) (ho : (f = 5 → 0 ≤ v ∧ v ≤ 121) ∧ (f = 0 → v = 0 ∨ v = 1)) (k : ∀ ρ : Mm, Al1 σ ρ 31 0 (22 * l + f) → ρ 31 0 (22 * l + f) = v → P none ρ) : WT (true, false, false) (d + 1) 139 [vR 30 0, vI l, vI f, vI v] σ P := m_setX (a2 := v) b_l b_f ho (fun _ => rfl) (k _ (fun _ _ _ h => mu_ne h) (mu_self _ _ _ _ _))
theorem m_open_S {d : Nat} {P : Option Vl → Mm → Prop} {σ : Mm} {l o b z y g0 g1 g2 g3 g5 g21 : Int} (qg0 : σ 31 0 ((22 * l) + 0) = g0) (qg1 : σ 31 0 ((22 * l) + 1) = g1) (qg2 : σ 31 0 ((22 * l) + 2) = g2) (qg3 : σ 31 0 ((22 * l) + 3) = g3) (qg4 : σ 31 0 ((22 * l) + 5) = g5) (qg5 : σ 31 0 ((22 * l) + 21) = g21) (hL : InL σ)  (k1 : 0 ≤ l ∧ l ≤ 3 ∧ 0 ≤ o ∧ o ≤ 9 ∧ 0 ≤ y ∧ y ≤ 10000 ∧ (b = 0 ∨ (b = 1 ∧ 1 ≤ z ∧ z ≤ 120) ∨ (b = 2 ∧ 1 ≤ z ∧ z ≤ 10000)) ∧ (o = 9 → fstA 35 σ (64 : Int).toNat < 0) → ∀ (r : Int) (ρ : Mm), GL (fun c x y => c = 31 ∧ x = 0 ∧ 22 * l ≤ y ∧ y < 22 * l + 22 ∨ c = 45 ∧ x = 0) σ ρ → ρ 31 0 (22 * l + 0) = 1 → ρ 31 0 (22 * l + 1) = o → (∀ i : Int, 0 ≤ i → i ≤ 3 → ρ 45 0 i = if i = l ∨ σ 45 0 i = l then -1 else σ 45 0 i) → r = ρ 31 0 (22 * 0 + 0) + ρ 31 0 (22 * 1 + 0) + ρ 31 0 (22 * 2 + 0) + ρ 31 0 (22 * 3 + 0) → P (some (vI r)) ρ) (k0 : ¬ (0 ≤ l ∧ l ≤ 3 ∧ 0 ≤ o ∧ o ≤ 9 ∧ 0 ≤ y ∧ y ≤ 10000 ∧ (b = 0 ∨ (b = 1 ∧ 1 ≤ z ∧ z ≤ 120) ∨ (b = 2 ∧ 1 ≤ z ∧ z ≤ 10000)) ∧ (o = 9 → fstA 35 σ (64 : Int).toNat < 0)) → P (some (vI (-1))) σ) : WT (true, false, false) (d + 4) 174 [vR 30 0, vI l, vI o, vI b, vI z, vI y] σ P := by
  refine WT_in fun K hK => ?_
  have hK : StpY (true, false, false) cX6_open RX6 (some .int) (WT (true, false, false) (d + 3)) P K := hK
  have hM := hK.1
  have hC := hK.1.1
  show K 0 [some (vR 30 0), some (vI l), some (vI o), some (vI b), some (vI z), some (vI y), none] [] σ
  refine r_rngz hC (fun g0 => ?_)
  have r_l : -2147483648 ≤ l ∧ l ≤ 2147483647 := inR_le (g0 (vI l) (by simp))
  have r_o : -2147483648 ≤ o ∧ o ≤ 2147483647 := inR_le (g0 (vI o) (by simp))
  have r_b : -2147483648 ≤ b ∧ b ≤ 2147483647 := inR_le (g0 (vI b) (by simp))
  have r_z : -2147483648 ≤ z ∧ z ≤ 2147483647 := inR_le (g0 (vI z) (by simp))
  have r_y : -2147483648 ≤ y ∧ y ≤ 2147483647 := inR_le (g0 (vI y) (by simp))
  refine r_iload_n hC dX6_open_0 rfl ?_
  refine r_iconst hC dX6_open_1 rfl ?_
  refine r_iconst hC dX6_open_2 rfl ?_
  refine z_ins3 hM dX6_open_3 tl_RX6_76 rfl (Nat.le_of_ble_eq_true rfl) (Nat.le_of_ble_eq_true rfl) ?_
  refine m_isIn (fun h2 => ?_) (fun h2 => ?_)
  · refine r_if_eq (tgt := 40) hC dX6_open_6 rfl (fun h3 => by omega) (fun h3 => ?_)
    refine r_iload_n hC dX6_open_9 rfl ?_
    refine r_iconst hC dX6_open_10 rfl ?_
    refine r_bipush hC dX6_open_11 rfl ?_
    refine z_ins3 hM dX6_open_13 tl_RX6_76 rfl (Nat.le_of_ble_eq_true rfl) (Nat.le_of_ble_eq_true rfl) ?_
    refine m_isIn (fun h5 => ?_) (fun h5 => ?_)
    · refine r_if_eq (tgt := 40) hC dX6_open_16 rfl (fun h6 => by omega) (fun h6 => ?_)
      refine r_iload_n hC dX6_open_19 rfl ?_
      refine r_iconst hC dX6_open_20 rfl ?_
      refine r_iconst hC dX6_open_21 rfl ?_
      refine z_ins3 hM dX6_open_22 tl_RX6_76 rfl (Nat.le_of_ble_eq_true rfl) (Nat.le_of_ble_eq_true rfl) ?_
      refine m_isIn (fun h8 => ?_) (fun h8 => ?_)
      · refine r_if_eq (tgt := 40) hC dX6_open_25 rfl (fun h9 => by omega) (fun h9 => ?_)
        refine r_iload hC dX6_open_28 rfl ?_
        refine r_iconst hC dX6_open_30 rfl ?_
        refine r_sipush hC dX6_open_31 rfl ?_
        refine z_ins3 hM dX6_open_34 tl_RX6_76 rfl (Nat.le_of_ble_eq_true rfl) (Nat.le_of_ble_eq_true rfl) ?_
        refine m_isIn (fun h11 => ?_) (fun h11 => ?_)
        · refine r_if_ne (tgt := 42) hC dX6_open_37 rfl (fun h12 => ?_) (fun h12 => by omega)
          refine r_iload_n hC dX6_open_42 rfl ?_
          refine r_iconst hC dX6_open_43 rfl ?_
          refine r_icmp_ne (tgt := 58) hC dX6_open_44 rfl (fun h13 => ?_) (fun h13 => ?_)
          · refine r_iload_n hC dX6_open_58 rfl ?_
            refine r_iconst hC dX6_open_59 rfl ?_
            refine r_icmp_ne (tgt := 77) hC dX6_open_60 rfl (fun h14 => ?_) (fun h14 => ?_)
            · refine r_iload_n hC dX6_open_77 rfl ?_
              refine r_bipush hC dX6_open_78 rfl ?_
              refine r_icmp_ne (tgt := 92) hC dX6_open_80 rfl (fun h15 => ?_) (fun h15 => ?_)
              · refine r_iconst hC dX6_open_92 rfl ?_
                refine r_istore hC dX6_open_93 rfl ?_
                refine r_iload hC dX6_open_95 rfl ?_
                refine r_bipush hC dX6_open_97 rfl ?_
                refine r_icmp_ge (tgt := 116) hC dX6_open_99 rfl (fun h16 => by omega) (fun h16 => ?_)
                refine r_aload_n hC dX6_open_102 rfl ?_
                refine r_iload_n hC dX6_open_103 rfl ?_
                refine r_iload hC dX6_open_104 rfl ?_
                refine r_iconst hC dX6_open_106 rfl ?_
                refine z_inv3 hM dX6_open_107 vl_RX6_173 rfl rfl rfl (Nat.le_of_ble_eq_true rfl) (Nat.le_of_ble_eq_true rfl) ?_
                refine m_setT (by omega) (by omega) ⟨fun h => by omega, fun h => by omega⟩ (fun ρ17 a_ρ17 q_ρ17 => ?_)
                refine r_iincE hC (1) dX6_open_110 rfl rfl (by omega) (by unfold inR; omega) ?_
                refine r_goto (tgt := 95) hC dX6_open_113 rfl ?_
                refine r_iload hC dX6_open_95 rfl ?_
                refine r_bipush hC dX6_open_97 rfl ?_
                refine r_icmp_ge (tgt := 116) hC dX6_open_99 rfl (fun h18 => by omega) (fun h18 => ?_)
                refine r_aload_n hC dX6_open_102 rfl ?_
                refine r_iload_n hC dX6_open_103 rfl ?_
                refine r_iload hC dX6_open_104 rfl ?_
                refine r_iconst hC dX6_open_106 rfl ?_
                refine z_inv3 hM dX6_open_107 vl_RX6_173 rfl rfl rfl (Nat.le_of_ble_eq_true rfl) (Nat.le_of_ble_eq_true rfl) ?_
                refine m_setT (by omega) (by omega) ⟨fun h => by omega, fun h => by omega⟩ (fun ρ19 a_ρ19 q_ρ19 => ?_)
                refine r_iincE hC (2) dX6_open_110 rfl rfl (by omega) (by unfold inR; omega) ?_
                show K _ [_, _, _, _, _, _, _] _ _
                refine r_goto (tgt := 95) hC dX6_open_113 rfl ?_
                refine r_iload hC dX6_open_95 rfl ?_
                refine r_bipush hC dX6_open_97 rfl ?_
                refine r_icmp_ge (tgt := 116) hC dX6_open_99 rfl (fun h20 => by omega) (fun h20 => ?_)
                refine r_aload_n hC dX6_open_102 rfl ?_
                refine r_iload_n hC dX6_open_103 rfl ?_
                refine r_iload hC dX6_open_104 rfl ?_
                refine r_iconst hC dX6_open_106 rfl ?_
                refine z_inv3 hM dX6_open_107 vl_RX6_173 rfl rfl rfl (Nat.le_of_ble_eq_true rfl) (Nat.le_of_ble_eq_true rfl) ?_
                refine m_setT (by omega) (by omega) ⟨fun h => by omega, fun h => by omega⟩ (fun ρ21 a_ρ21 q_ρ21 => ?_)
                refine r_iincE hC (3) dX6_open_110 rfl rfl (by omega) (by unfold inR; omega) ?_
                refine r_goto (tgt := 95) hC dX6_open_113 rfl ?_
                refine r_iload hC dX6_open_95 rfl ?_
                refine r_bipush hC dX6_open_97 rfl ?_
                refine r_icmp_ge (tgt := 116) hC dX6_open_99 rfl (fun h22 => by omega) (fun h22 => ?_)
                refine r_aload_n hC dX6_open_102 rfl ?_
                refine r_iload_n hC dX6_open_103 rfl ?_
                refine r_iload hC dX6_open_104 rfl ?_
                refine r_iconst hC dX6_open_106 rfl ?_
                refine z_inv3 hM dX6_open_107 vl_RX6_173 rfl rfl rfl (Nat.le_of_ble_eq_true rfl) (Nat.le_of_ble_eq_true rfl) ?_
                refine m_setT (by omega) (by omega) ⟨fun h => by omega, fun h => by omega⟩ (fun ρ23 a_ρ23 q_ρ23 => ?_)
                refine r_iincE hC (4) dX6_open_110 rfl rfl (by omega) (by unfold inR; omega) ?_
                refine r_goto (tgt := 95) hC dX6_open_113 rfl ?_
                refine r_iload hC dX6_open_95 rfl ?_
                refine r_bipush hC dX6_open_97 rfl ?_
                refine r_icmp_ge (tgt := 116) hC dX6_open_99 rfl (fun h24 => by omega) (fun h24 => ?_)
                refine r_aload_n hC dX6_open_102 rfl ?_
                refine r_iload_n hC dX6_open_103 rfl ?_
                refine r_iload hC dX6_open_104 rfl ?_
                refine r_iconst hC dX6_open_106 rfl ?_
                refine z_inv3 hM dX6_open_107 vl_RX6_173 rfl rfl rfl (Nat.le_of_ble_eq_true rfl) (Nat.le_of_ble_eq_true rfl) ?_
                refine m_set (by omega) (by omega) (by omega) ?_
                refine r_iincE hC (5) dX6_open_110 rfl rfl (by omega) (by unfold inR; omega) ?_
                show K _ [_, _, _, _, _, _, _] _ _
                refine r_goto (tgt := 95) hC dX6_open_113 rfl ?_
                refine r_iload hC dX6_open_95 rfl ?_
                refine r_bipush hC dX6_open_97 rfl ?_
                refine r_icmp_ge (tgt := 116) hC dX6_open_99 rfl (fun h25 => by omega) (fun h25 => ?_)
                refine r_aload_n hC dX6_open_102 rfl ?_
                refine r_iload_n hC dX6_open_103 rfl ?_
                refine r_iload hC dX6_open_104 rfl ?_
                refine r_iconst hC dX6_open_106 rfl ?_
                refine z_inv3 hM dX6_open_107 vl_RX6_173 rfl rfl rfl (Nat.le_of_ble_eq_true rfl) (Nat.le_of_ble_eq_true rfl) ?_
                refine m_setT (by omega) (by omega) ⟨fun h => by omega, fun h => by omega⟩ (fun ρ26 a_ρ26 q_ρ26 => ?_)
                refine r_iincE hC (6) dX6_open_110 rfl rfl (by omega) (by unfold inR; omega) ?_
                refine r_goto (tgt := 95) hC dX6_open_113 rfl ?_
                refine r_iload hC dX6_open_95 rfl ?_
                refine r_bipush hC dX6_open_97 rfl ?_
                refine r_icmp_ge (tgt := 116) hC dX6_open_99 rfl (fun h27 => by omega) (fun h27 => ?_)
                refine r_aload_n hC dX6_open_102 rfl ?_
                refine r_iload_n hC dX6_open_103 rfl ?_
                refine r_iload hC dX6_open_104 rfl ?_
                refine r_iconst hC dX6_open_106 rfl ?_
                refine z_inv3 hM dX6_open_107 vl_RX6_173 rfl rfl rfl (Nat.le_of_ble_eq_true rfl) (Nat.le_of_ble_eq_true rfl) ?_
                refine m_set (by omega) (by omega) (by omega) ?_
                refine r_iincE hC (7) dX6_open_110 rfl rfl (by omega) (by unfold inR; omega) ?_
                refine r_goto (tgt := 95) hC dX6_open_113 rfl ?_
                refine r_iload hC dX6_open_95 rfl ?_
                refine r_bipush hC dX6_open_97 rfl ?_
                refine r_icmp_ge (tgt := 116) hC dX6_open_99 rfl (fun h28 => by omega) (fun h28 => ?_)
                refine r_aload_n hC dX6_open_102 rfl ?_
                refine r_iload_n hC dX6_open_103 rfl ?_
                refine r_iload hC dX6_open_104 rfl ?_
                refine r_iconst hC dX6_open_106 rfl ?_
                refine z_inv3 hM dX6_open_107 vl_RX6_173 rfl rfl rfl (Nat.le_of_ble_eq_true rfl) (Nat.le_of_ble_eq_true rfl) ?_
                refine m_set (by omega) (by omega) (by omega) ?_
                refine r_iincE hC (8) dX6_open_110 rfl rfl (by omega) (by unfold inR; omega) ?_
                show K _ [_, _, _, _, _, _, _] _ _
                refine r_goto (tgt := 95) hC dX6_open_113 rfl ?_
                refine r_iload hC dX6_open_95 rfl ?_
                refine r_bipush hC dX6_open_97 rfl ?_
                refine r_icmp_ge (tgt := 116) hC dX6_open_99 rfl (fun h29 => by omega) (fun h29 => ?_)
                refine r_aload_n hC dX6_open_102 rfl ?_
                refine r_iload_n hC dX6_open_103 rfl ?_
                refine r_iload hC dX6_open_104 rfl ?_
                refine r_iconst hC dX6_open_106 rfl ?_
                refine z_inv3 hM dX6_open_107 vl_RX6_173 rfl rfl rfl (Nat.le_of_ble_eq_true rfl) (Nat.le_of_ble_eq_true rfl) ?_
                refine m_set (by omega) (by omega) (by omega) ?_
                refine r_iincE hC (9) dX6_open_110 rfl rfl (by omega) (by unfold inR; omega) ?_
                refine r_goto (tgt := 95) hC dX6_open_113 rfl ?_
                refine r_iload hC dX6_open_95 rfl ?_
                refine r_bipush hC dX6_open_97 rfl ?_
                refine r_icmp_ge (tgt := 116) hC dX6_open_99 rfl (fun h30 => by omega) (fun h30 => ?_)
                refine r_aload_n hC dX6_open_102 rfl ?_
                refine r_iload_n hC dX6_open_103 rfl ?_
                refine r_iload hC dX6_open_104 rfl ?_
                refine r_iconst hC dX6_open_106 rfl ?_
                refine z_inv3 hM dX6_open_107 vl_RX6_173 rfl rfl rfl (Nat.le_of_ble_eq_true rfl) (Nat.le_of_ble_eq_true rfl) ?_
                refine m_set (by omega) (by omega) (by omega) ?_
                refine r_iincE hC (10) dX6_open_110 rfl rfl (by omega) (by unfold inR; omega) ?_
                refine r_goto (tgt := 95) hC dX6_open_113 rfl ?_
                refine r_iload hC dX6_open_95 rfl ?_
                refine r_bipush hC dX6_open_97 rfl ?_
                refine r_icmp_ge (tgt := 116) hC dX6_open_99 rfl (fun h31 => by omega) (fun h31 => ?_)
                refine r_aload_n hC dX6_open_102 rfl ?_
                refine r_iload_n hC dX6_open_103 rfl ?_
                refine r_iload hC dX6_open_104 rfl ?_
                refine r_iconst hC dX6_open_106 rfl ?_
                refine z_inv3 hM dX6_open_107 vl_RX6_173 rfl rfl rfl (Nat.le_of_ble_eq_true rfl) (Nat.le_of_ble_eq_true rfl) ?_
                refine m_set (by omega) (by omega) (by omega) ?_
                refine r_iincE hC (11) dX6_open_110 rfl rfl (by omega) (by unfold inR; omega) ?_
                show K _ [_, _, _, _, _, _, _] _ _
                refine r_goto (tgt := 95) hC dX6_open_113 rfl ?_
                refine r_iload hC dX6_open_95 rfl ?_
                refine r_bipush hC dX6_open_97 rfl ?_
                refine r_icmp_ge (tgt := 116) hC dX6_open_99 rfl (fun h32 => by omega) (fun h32 => ?_)
                refine r_aload_n hC dX6_open_102 rfl ?_
                refine r_iload_n hC dX6_open_103 rfl ?_
                refine r_iload hC dX6_open_104 rfl ?_
                refine r_iconst hC dX6_open_106 rfl ?_
                refine z_inv3 hM dX6_open_107 vl_RX6_173 rfl rfl rfl (Nat.le_of_ble_eq_true rfl) (Nat.le_of_ble_eq_true rfl) ?_
                refine m_set (by omega) (by omega) (by omega) ?_
                refine r_iincE hC (12) dX6_open_110 rfl rfl (by omega) (by unfold inR; omega) ?_
                refine r_goto (tgt := 95) hC dX6_open_113 rfl ?_
                refine r_iload hC dX6_open_95 rfl ?_
                refine r_bipush hC dX6_open_97 rfl ?_
                refine r_icmp_ge (tgt := 116) hC dX6_open_99 rfl (fun h33 => by omega) (fun h33 => ?_)
                refine r_aload_n hC dX6_open_102 rfl ?_
                refine r_iload_n hC dX6_open_103 rfl ?_
                refine r_iload hC dX6_open_104 rfl ?_
                refine r_iconst hC dX6_open_106 rfl ?_
                refine z_inv3 hM dX6_open_107 vl_RX6_173 rfl rfl rfl (Nat.le_of_ble_eq_true rfl) (Nat.le_of_ble_eq_true rfl) ?_
                refine m_set (by omega) (by omega) (by omega) ?_
                refine r_iincE hC (13) dX6_open_110 rfl rfl (by omega) (by unfold inR; omega) ?_
                refine r_goto (tgt := 95) hC dX6_open_113 rfl ?_
                refine r_iload hC dX6_open_95 rfl ?_
                refine r_bipush hC dX6_open_97 rfl ?_
                refine r_icmp_ge (tgt := 116) hC dX6_open_99 rfl (fun h34 => by omega) (fun h34 => ?_)
                refine r_aload_n hC dX6_open_102 rfl ?_
                refine r_iload_n hC dX6_open_103 rfl ?_
                refine r_iload hC dX6_open_104 rfl ?_
                refine r_iconst hC dX6_open_106 rfl ?_
                refine z_inv3 hM dX6_open_107 vl_RX6_173 rfl rfl rfl (Nat.le_of_ble_eq_true rfl) (Nat.le_of_ble_eq_true rfl) ?_
                refine m_set (by omega) (by omega) (by omega) ?_
                refine r_iincE hC (14) dX6_open_110 rfl rfl (by omega) (by unfold inR; omega) ?_
                show K _ [_, _, _, _, _, _, _] _ _
                refine r_goto (tgt := 95) hC dX6_open_113 rfl ?_
                refine r_iload hC dX6_open_95 rfl ?_
                refine r_bipush hC dX6_open_97 rfl ?_
                refine r_icmp_ge (tgt := 116) hC dX6_open_99 rfl (fun h35 => by omega) (fun h35 => ?_)
                refine r_aload_n hC dX6_open_102 rfl ?_
                refine r_iload_n hC dX6_open_103 rfl ?_
                refine r_iload hC dX6_open_104 rfl ?_
                refine r_iconst hC dX6_open_106 rfl ?_
                refine z_inv3 hM dX6_open_107 vl_RX6_173 rfl rfl rfl (Nat.le_of_ble_eq_true rfl) (Nat.le_of_ble_eq_true rfl) ?_
                refine m_set (by omega) (by omega) (by omega) ?_
                refine r_iincE hC (15) dX6_open_110 rfl rfl (by omega) (by unfold inR; omega) ?_
                refine r_goto (tgt := 95) hC dX6_open_113 rfl ?_
                refine r_iload hC dX6_open_95 rfl ?_
                refine r_bipush hC dX6_open_97 rfl ?_
                refine r_icmp_ge (tgt := 116) hC dX6_open_99 rfl (fun h36 => by omega) (fun h36 => ?_)
                refine r_aload_n hC dX6_open_102 rfl ?_
                refine r_iload_n hC dX6_open_103 rfl ?_
                refine r_iload hC dX6_open_104 rfl ?_
                refine r_iconst hC dX6_open_106 rfl ?_
                refine z_inv3 hM dX6_open_107 vl_RX6_173 rfl rfl rfl (Nat.le_of_ble_eq_true rfl) (Nat.le_of_ble_eq_true rfl) ?_
                refine m_set (by omega) (by omega) (by omega) ?_
                refine r_iincE hC (16) dX6_open_110 rfl rfl (by omega) (by unfold inR; omega) ?_
                refine r_goto (tgt := 95) hC dX6_open_113 rfl ?_
                refine r_iload hC dX6_open_95 rfl ?_
                refine r_bipush hC dX6_open_97 rfl ?_
                refine r_icmp_ge (tgt := 116) hC dX6_open_99 rfl (fun h37 => by omega) (fun h37 => ?_)
                refine r_aload_n hC dX6_open_102 rfl ?_
                refine r_iload_n hC dX6_open_103 rfl ?_
                refine r_iload hC dX6_open_104 rfl ?_
                refine r_iconst hC dX6_open_106 rfl ?_
                refine z_inv3 hM dX6_open_107 vl_RX6_173 rfl rfl rfl (Nat.le_of_ble_eq_true rfl) (Nat.le_of_ble_eq_true rfl) ?_
                refine m_set (by omega) (by omega) (by omega) ?_
                refine r_iincE hC (17) dX6_open_110 rfl rfl (by omega) (by unfold inR; omega) ?_
                show K _ [_, _, _, _, _, _, _] _ _
                refine r_goto (tgt := 95) hC dX6_open_113 rfl ?_
                refine r_iload hC dX6_open_95 rfl ?_
                refine r_bipush hC dX6_open_97 rfl ?_
                refine r_icmp_ge (tgt := 116) hC dX6_open_99 rfl (fun h38 => by omega) (fun h38 => ?_)
                refine r_aload_n hC dX6_open_102 rfl ?_
                refine r_iload_n hC dX6_open_103 rfl ?_
                refine r_iload hC dX6_open_104 rfl ?_
                refine r_iconst hC dX6_open_106 rfl ?_
                refine z_inv3 hM dX6_open_107 vl_RX6_173 rfl rfl rfl (Nat.le_of_ble_eq_true rfl) (Nat.le_of_ble_eq_true rfl) ?_
                refine m_set (by omega) (by omega) (by omega) ?_
                refine r_iincE hC (18) dX6_open_110 rfl rfl (by omega) (by unfold inR; omega) ?_
                refine r_goto (tgt := 95) hC dX6_open_113 rfl ?_
                refine r_iload hC dX6_open_95 rfl ?_
                refine r_bipush hC dX6_open_97 rfl ?_
                refine r_icmp_ge (tgt := 116) hC dX6_open_99 rfl (fun h39 => by omega) (fun h39 => ?_)
                refine r_aload_n hC dX6_open_102 rfl ?_
                refine r_iload_n hC dX6_open_103 rfl ?_
                refine r_iload hC dX6_open_104 rfl ?_
                refine r_iconst hC dX6_open_106 rfl ?_
                refine z_inv3 hM dX6_open_107 vl_RX6_173 rfl rfl rfl (Nat.le_of_ble_eq_true rfl) (Nat.le_of_ble_eq_true rfl) ?_
                refine m_set (by omega) (by omega) (by omega) ?_
                refine r_iincE hC (19) dX6_open_110 rfl rfl (by omega) (by unfold inR; omega) ?_
                refine r_goto (tgt := 95) hC dX6_open_113 rfl ?_
                refine r_iload hC dX6_open_95 rfl ?_
                refine r_bipush hC dX6_open_97 rfl ?_
                refine r_icmp_ge (tgt := 116) hC dX6_open_99 rfl (fun h40 => by omega) (fun h40 => ?_)
                refine r_aload_n hC dX6_open_102 rfl ?_
                refine r_iload_n hC dX6_open_103 rfl ?_
                refine r_iload hC dX6_open_104 rfl ?_
                refine r_iconst hC dX6_open_106 rfl ?_
                refine z_inv3 hM dX6_open_107 vl_RX6_173 rfl rfl rfl (Nat.le_of_ble_eq_true rfl) (Nat.le_of_ble_eq_true rfl) ?_
                refine m_set (by omega) (by omega) (by omega) ?_
                refine r_iincE hC (20) dX6_open_110 rfl rfl (by omega) (by unfold inR; omega) ?_
                show K _ [_, _, _, _, _, _, _] _ _
                refine r_goto (tgt := 95) hC dX6_open_113 rfl ?_
                refine r_iload hC dX6_open_95 rfl ?_
                refine r_bipush hC dX6_open_97 rfl ?_
                refine r_icmp_ge (tgt := 116) hC dX6_open_99 rfl (fun h41 => by omega) (fun h41 => ?_)
                refine r_aload_n hC dX6_open_102 rfl ?_
                refine r_iload_n hC dX6_open_103 rfl ?_
                refine r_iload hC dX6_open_104 rfl ?_
                refine r_iconst hC dX6_open_106 rfl ?_
                refine z_inv3 hM dX6_open_107 vl_RX6_173 rfl rfl rfl (Nat.le_of_ble_eq_true rfl) (Nat.le_of_ble_eq_true rfl) ?_
                refine m_set (by omega) (by omega) (by omega) ?_
                refine r_iincE hC (21) dX6_open_110 rfl rfl (by omega) (by unfold inR; omega) ?_
                refine r_goto (tgt := 95) hC dX6_open_113 rfl ?_
                refine r_iload hC dX6_open_95 rfl ?_
                refine r_bipush hC dX6_open_97 rfl ?_
                refine r_icmp_ge (tgt := 116) hC dX6_open_99 rfl (fun h42 => by omega) (fun h42 => ?_)
                refine r_aload_n hC dX6_open_102 rfl ?_
                refine r_iload_n hC dX6_open_103 rfl ?_
                refine r_iload hC dX6_open_104 rfl ?_
                refine r_iconst hC dX6_open_106 rfl ?_
                refine z_inv3 hM dX6_open_107 vl_RX6_173 rfl rfl rfl (Nat.le_of_ble_eq_true rfl) (Nat.le_of_ble_eq_true rfl) ?_
                refine m_setT (by omega) (by omega) ⟨fun h => by omega, fun h => by omega⟩ (fun ρ43 a_ρ43 q_ρ43 => ?_)
                refine r_iincE hC (22) dX6_open_110 rfl rfl (by omega) (by unfold inR; omega) ?_
                refine r_goto (tgt := 95) hC dX6_open_113 rfl ?_
                refine r_iload hC dX6_open_95 rfl ?_
                refine r_bipush hC dX6_open_97 rfl ?_
                refine r_icmp_ge (tgt := 116) hC dX6_open_99 rfl (fun h44 => ?_) (fun h44 => by omega)
                refine r_aload_n hC dX6_open_116 rfl ?_
                refine r_iload_n hC dX6_open_117 rfl ?_
                refine r_iconst hC dX6_open_118 rfl ?_
                refine r_iconst hC dX6_open_119 rfl ?_
                refine z_inv3 hM dX6_open_120 vl_RX6_173 rfl rfl rfl (Nat.le_of_ble_eq_true rfl) (Nat.le_of_ble_eq_true rfl) ?_
                refine m_setT (by omega) (by omega) ⟨fun h => by omega, fun h => by omega⟩ (fun ρ45 a_ρ45 q_ρ45 => ?_)
                refine r_aload_n hC dX6_open_123 rfl ?_
                refine r_iload_n hC dX6_open_124 rfl ?_
                refine r_iconst hC dX6_open_125 rfl ?_
                refine r_iload_n hC dX6_open_126 rfl ?_
                refine z_inv3 hM dX6_open_127 vl_RX6_173 rfl rfl rfl (Nat.le_of_ble_eq_true rfl) (Nat.le_of_ble_eq_true rfl) ?_
                refine m_setT (by omega) (by omega) ⟨fun h => by omega, fun h => by omega⟩ (fun ρ46 a_ρ46 q_ρ46 => ?_)
                refine r_aload_n hC dX6_open_130 rfl ?_
                refine r_iload_n hC dX6_open_131 rfl ?_
                refine r_iconst hC dX6_open_132 rfl ?_
                refine r_iload_n hC dX6_open_133 rfl ?_
                refine z_inv3 hM dX6_open_134 vl_RX6_173 rfl rfl rfl (Nat.le_of_ble_eq_true rfl) (Nat.le_of_ble_eq_true rfl) ?_
                refine m_setT (by omega) (by omega) ⟨fun h => by omega, fun h => by omega⟩ (fun ρ47 a_ρ47 q_ρ47 => ?_)
                refine r_aload_n hC dX6_open_137 rfl ?_
                refine r_iload_n hC dX6_open_138 rfl ?_
                refine r_iconst hC dX6_open_139 rfl ?_
                refine r_iload_n hC dX6_open_140 rfl ?_
                refine r_if_ne (tgt := 148) hC dX6_open_141 rfl (fun h48 => ?_) (fun h48 => ?_)
                · refine r_iload hC dX6_open_148 rfl ?_
                  refine z_inv3 hM dX6_open_150 vl_RX6_173 rfl rfl rfl (Nat.le_of_ble_eq_true rfl) (Nat.le_of_ble_eq_true rfl) ?_
                  refine m_setT (by omega) (by omega) ⟨fun h => by omega, fun h => by omega⟩ (fun ρ49 a_ρ49 q_ρ49 => ?_)
                  refine r_aload_n hC dX6_open_153 rfl ?_
                  refine r_iload_n hC dX6_open_154 rfl ?_
                  refine r_iconst hC dX6_open_155 rfl ?_
                  refine r_iload hC dX6_open_156 rfl ?_
                  refine z_inv3 hM dX6_open_158 vl_RX6_173 rfl rfl rfl (Nat.le_of_ble_eq_true rfl) (Nat.le_of_ble_eq_true rfl) ?_
                  refine m_set (by omega) (by omega) (by omega) ?_
                  refine r_aload_n hC dX6_open_161 rfl ?_
                  refine r_iload_n hC dX6_open_162 rfl ?_
                  refine r_bipush hC dX6_open_163 rfl ?_
                  refine r_iconst hC dX6_open_165 rfl ?_
                  refine z_inv3 hM dX6_open_166 vl_RX6_173 rfl rfl rfl (Nat.le_of_ble_eq_true rfl) (Nat.le_of_ble_eq_true rfl) ?_
                  refine m_set (by omega) (by omega) (by omega) ?_
                  refine r_aload_n hC dX6_open_169 rfl ?_
                  refine r_iload_n hC dX6_open_170 rfl ?_
                  refine z_inv1 hM dX6_open_171 vl_RX6_176 rfl rfl rfl (Nat.le_of_ble_eq_true rfl) (Nat.le_of_ble_eq_true rfl) ?_
                  refine m_endWatches ?_
                  refine r_aload_n hC dX6_open_174 rfl ?_
                  refine r_iload_n hC dX6_open_175 rfl ?_
                  refine z_inv1 hM dX6_open_176 vl_RX6_179 rfl rfl rfl (Nat.le_of_ble_eq_true rfl) (Nat.le_of_ble_eq_true rfl) ?_
                  refine m_endLinks (by omega) (fun ρ50 g_ρ50 t_ρ50 => ?_)
                  refine r_aload_n hC dX6_open_179 rfl ?_
                  refine z_inv0 hM dX6_open_180 vl_RX6_182 rfl rfl rfl (Nat.le_of_ble_eq_true rfl) (Nat.le_of_ble_eq_true rfl) ?_
                  refine m_openLanesX ?_
                  refine y_iret hK rfl dX6_open_183 ?_
                  have gg : Gx (fun c x y => c = 31 ∧ x = 0 ∧ 22 * l ≤ y ∧ y < 22 * l + 22 ∨ c = 45 ∧ x = 0) σ ρ50 := Gx.gx (((((((((((Gx.rf).al a_ρ17 (by first | (simp; done) | omega | (simp; omega))).al a_ρ19 (by first | (simp; done) | omega | (simp; omega))).al a_ρ21 (by first | (simp; done) | omega | (simp; omega))).al a_ρ23 (by first | (simp; done) | omega | (simp; omega))).al a_ρ26 (by first | (simp; done) | omega | (simp; omega))).al a_ρ43 (by first | (simp; done) | omega | (simp; omega))).al a_ρ45 (by first | (simp; done) | omega | (simp; omega))).al a_ρ46 (by first | (simp; done) | omega | (simp; omega))).al a_ρ47 (by first | (simp; done) | omega | (simp; omega))).al a_ρ49 (by first | (simp; done) | omega | (simp; omega))) g_ρ50 (by intro c x y h; omega)
                  have e0 := ((g_ρ50 _ _ _ (by omega)).trans ((a_ρ49 _ _ _ (by omega)).trans ((a_ρ47 _ _ _ (by omega)).trans ((a_ρ46 _ _ _ (by omega)).trans q_ρ45))))
                  have e1 := ((g_ρ50 _ _ _ (by omega)).trans ((a_ρ49 _ _ _ (by omega)).trans ((a_ρ47 _ _ _ (by omega)).trans q_ρ46)))
                  have e2 := ((g_ρ50 _ _ _ (by omega)).trans ((a_ρ49 _ _ _ (by omega)).trans q_ρ47))
                  have e3 := ((g_ρ50 _ _ _ (by omega)).trans q_ρ49)
                  have e5 := ((g_ρ50 _ _ _ (by omega)).trans ((a_ρ49 _ _ _ (by omega)).trans ((a_ρ47 _ _ _ (by omega)).trans ((a_ρ46 _ _ _ (by omega)).trans ((a_ρ45 _ _ _ (by omega)).trans ((a_ρ43 _ _ _ (by omega)).trans q_ρ26))))))
                  have e21 := ((g_ρ50 _ _ _ (by omega)).trans ((a_ρ49 _ _ _ (by omega)).trans ((a_ρ47 _ _ _ (by omega)).trans ((a_ρ46 _ _ _ (by omega)).trans ((a_ρ45 _ _ _ (by omega)).trans q_ρ43)))))
                  have gt : Gx (fun c x y => c = 31 ∧ x = 0 ∧ 22 * l ≤ y ∧ y < 22 * l + 22) σ ρ49 := ((((((((((Gx.rf).al a_ρ17 (by first | (simp; done) | omega | (simp; omega))).al a_ρ19 (by first | (simp; done) | omega | (simp; omega))).al a_ρ21 (by first | (simp; done) | omega | (simp; omega))).al a_ρ23 (by first | (simp; done) | omega | (simp; omega))).al a_ρ26 (by first | (simp; done) | omega | (simp; omega))).al a_ρ43 (by first | (simp; done) | omega | (simp; omega))).al a_ρ45 (by first | (simp; done) | omega | (simp; omega))).al a_ρ46 (by first | (simp; done) | omega | (simp; omega))).al a_ρ47 (by first | (simp; done) | omega | (simp; omega))).al a_ρ49 (by first | (simp; done) | omega | (simp; omega))
                  refine k1 (by omega) _ _ ⟨gg, (hL.lane31 (l := l) (ρ := ρ49) (fun c X y h => gt c X y h) ?_).to (fun c i j hD => g_ρ50 c i j (by rintro ⟨rfl, rfl⟩; exact hD))⟩ (by omega) (by omega) (fun i h0 h3 => by rw [t_ρ50 i h0 h3, gt 45 0 i (by omega)]) rfl
                  rw [← g_ρ50 31 0 (22 * l + 2) (by omega), ← g_ρ50 31 0 (22 * l + 3) (by omega), ← g_ρ50 31 0 (22 * l + 5) (by omega), e2, e3, e5]; unfold Rst; omega
                · refine r_iconst hC dX6_open_144 rfl ?_
                  refine r_goto (tgt := 150) hC dX6_open_145 rfl ?_
                  refine z_inv3 hM dX6_open_150 vl_RX6_173 rfl rfl rfl (Nat.le_of_ble_eq_true rfl) (Nat.le_of_ble_eq_true rfl) ?_
                  refine m_setT (by omega) (by omega) ⟨fun h => by omega, fun h => by omega⟩ (fun ρ51 a_ρ51 q_ρ51 => ?_)
                  refine r_aload_n hC dX6_open_153 rfl ?_
                  refine r_iload_n hC dX6_open_154 rfl ?_
                  refine r_iconst hC dX6_open_155 rfl ?_
                  refine r_iload hC dX6_open_156 rfl ?_
                  refine z_inv3 hM dX6_open_158 vl_RX6_173 rfl rfl rfl (Nat.le_of_ble_eq_true rfl) (Nat.le_of_ble_eq_true rfl) ?_
                  refine m_set (by omega) (by omega) (by omega) ?_
                  refine r_aload_n hC dX6_open_161 rfl ?_
                  refine r_iload_n hC dX6_open_162 rfl ?_
                  refine r_bipush hC dX6_open_163 rfl ?_
                  refine r_iconst hC dX6_open_165 rfl ?_
                  refine z_inv3 hM dX6_open_166 vl_RX6_173 rfl rfl rfl (Nat.le_of_ble_eq_true rfl) (Nat.le_of_ble_eq_true rfl) ?_
                  refine m_set (by omega) (by omega) (by omega) ?_
                  refine r_aload_n hC dX6_open_169 rfl ?_
                  refine r_iload_n hC dX6_open_170 rfl ?_
                  refine z_inv1 hM dX6_open_171 vl_RX6_176 rfl rfl rfl (Nat.le_of_ble_eq_true rfl) (Nat.le_of_ble_eq_true rfl) ?_
                  refine m_endWatches ?_
                  refine r_aload_n hC dX6_open_174 rfl ?_
                  refine r_iload_n hC dX6_open_175 rfl ?_
                  refine z_inv1 hM dX6_open_176 vl_RX6_179 rfl rfl rfl (Nat.le_of_ble_eq_true rfl) (Nat.le_of_ble_eq_true rfl) ?_
                  refine m_endLinks (by omega) (fun ρ52 g_ρ52 t_ρ52 => ?_)
                  refine r_aload_n hC dX6_open_179 rfl ?_
                  refine z_inv0 hM dX6_open_180 vl_RX6_182 rfl rfl rfl (Nat.le_of_ble_eq_true rfl) (Nat.le_of_ble_eq_true rfl) ?_
                  refine m_openLanesX ?_
                  refine y_iret hK rfl dX6_open_183 ?_
                  have gg : Gx (fun c x y => c = 31 ∧ x = 0 ∧ 22 * l ≤ y ∧ y < 22 * l + 22 ∨ c = 45 ∧ x = 0) σ ρ52 := Gx.gx (((((((((((Gx.rf).al a_ρ17 (by first | (simp; done) | omega | (simp; omega))).al a_ρ19 (by first | (simp; done) | omega | (simp; omega))).al a_ρ21 (by first | (simp; done) | omega | (simp; omega))).al a_ρ23 (by first | (simp; done) | omega | (simp; omega))).al a_ρ26 (by first | (simp; done) | omega | (simp; omega))).al a_ρ43 (by first | (simp; done) | omega | (simp; omega))).al a_ρ45 (by first | (simp; done) | omega | (simp; omega))).al a_ρ46 (by first | (simp; done) | omega | (simp; omega))).al a_ρ47 (by first | (simp; done) | omega | (simp; omega))).al a_ρ51 (by first | (simp; done) | omega | (simp; omega))) g_ρ52 (by intro c x y h; omega)
                  have e0 := ((g_ρ52 _ _ _ (by omega)).trans ((a_ρ51 _ _ _ (by omega)).trans ((a_ρ47 _ _ _ (by omega)).trans ((a_ρ46 _ _ _ (by omega)).trans q_ρ45))))
                  have e1 := ((g_ρ52 _ _ _ (by omega)).trans ((a_ρ51 _ _ _ (by omega)).trans ((a_ρ47 _ _ _ (by omega)).trans q_ρ46)))
                  have e2 := ((g_ρ52 _ _ _ (by omega)).trans ((a_ρ51 _ _ _ (by omega)).trans q_ρ47))
                  have e3 := ((g_ρ52 _ _ _ (by omega)).trans q_ρ51)
                  have e5 := ((g_ρ52 _ _ _ (by omega)).trans ((a_ρ51 _ _ _ (by omega)).trans ((a_ρ47 _ _ _ (by omega)).trans ((a_ρ46 _ _ _ (by omega)).trans ((a_ρ45 _ _ _ (by omega)).trans ((a_ρ43 _ _ _ (by omega)).trans q_ρ26))))))
                  have e21 := ((g_ρ52 _ _ _ (by omega)).trans ((a_ρ51 _ _ _ (by omega)).trans ((a_ρ47 _ _ _ (by omega)).trans ((a_ρ46 _ _ _ (by omega)).trans ((a_ρ45 _ _ _ (by omega)).trans q_ρ43)))))
                  have gt : Gx (fun c x y => c = 31 ∧ x = 0 ∧ 22 * l ≤ y ∧ y < 22 * l + 22) σ ρ51 := ((((((((((Gx.rf).al a_ρ17 (by first | (simp; done) | omega | (simp; omega))).al a_ρ19 (by first | (simp; done) | omega | (simp; omega))).al a_ρ21 (by first | (simp; done) | omega | (simp; omega))).al a_ρ23 (by first | (simp; done) | omega | (simp; omega))).al a_ρ26 (by first | (simp; done) | omega | (simp; omega))).al a_ρ43 (by first | (simp; done) | omega | (simp; omega))).al a_ρ45 (by first | (simp; done) | omega | (simp; omega))).al a_ρ46 (by first | (simp; done) | omega | (simp; omega))).al a_ρ47 (by first | (simp; done) | omega | (simp; omega))).al a_ρ51 (by first | (simp; done) | omega | (simp; omega))
                  refine k1 (by omega) _ _ ⟨gg, (hL.lane31 (l := l) (ρ := ρ51) (fun c X y h => gt c X y h) ?_).to (fun c i j hD => g_ρ52 c i j (by rintro ⟨rfl, rfl⟩; exact hD))⟩ (by omega) (by omega) (fun i h0 h3 => by rw [t_ρ52 i h0 h3, gt 45 0 i (by omega)]) rfl
                  rw [← g_ρ52 31 0 (22 * l + 2) (by omega), ← g_ρ52 31 0 (22 * l + 3) (by omega), ← g_ρ52 31 0 (22 * l + 5) (by omega), e2, e3, e5]; unfold Rst; omega
              · refine r_aload_n hC dX6_open_83 rfl ?_
                refine z_inv0 hM dX6_open_84 vl_RX6_98 rfl rfl rfl (Nat.le_of_ble_eq_true rfl) (Nat.le_of_ble_eq_true rfl) ?_
                refine m_firstThreeX ?_
                have bf := fst_bd 35 σ
                refine r_if_lt (tgt := 92) hC dX6_open_87 rfl (fun h53 => ?_) (fun h53 => ?_)
                · refine r_iconst hC dX6_open_92 rfl ?_
                  refine r_istore hC dX6_open_93 rfl ?_
                  refine r_iload hC dX6_open_95 rfl ?_
                  refine r_bipush hC dX6_open_97 rfl ?_
                  refine r_icmp_ge (tgt := 116) hC dX6_open_99 rfl (fun h54 => by omega) (fun h54 => ?_)
                  refine r_aload_n hC dX6_open_102 rfl ?_
                  refine r_iload_n hC dX6_open_103 rfl ?_
                  refine r_iload hC dX6_open_104 rfl ?_
                  refine r_iconst hC dX6_open_106 rfl ?_
                  refine z_inv3 hM dX6_open_107 vl_RX6_173 rfl rfl rfl (Nat.le_of_ble_eq_true rfl) (Nat.le_of_ble_eq_true rfl) ?_
                  refine m_setT (by omega) (by omega) ⟨fun h => by omega, fun h => by omega⟩ (fun ρ55 a_ρ55 q_ρ55 => ?_)
                  refine r_iincE hC (1) dX6_open_110 rfl rfl (by omega) (by unfold inR; omega) ?_
                  refine r_goto (tgt := 95) hC dX6_open_113 rfl ?_
                  refine r_iload hC dX6_open_95 rfl ?_
                  refine r_bipush hC dX6_open_97 rfl ?_
                  refine r_icmp_ge (tgt := 116) hC dX6_open_99 rfl (fun h56 => by omega) (fun h56 => ?_)
                  refine r_aload_n hC dX6_open_102 rfl ?_
                  refine r_iload_n hC dX6_open_103 rfl ?_
                  refine r_iload hC dX6_open_104 rfl ?_
                  refine r_iconst hC dX6_open_106 rfl ?_
                  refine z_inv3 hM dX6_open_107 vl_RX6_173 rfl rfl rfl (Nat.le_of_ble_eq_true rfl) (Nat.le_of_ble_eq_true rfl) ?_
                  refine m_setT (by omega) (by omega) ⟨fun h => by omega, fun h => by omega⟩ (fun ρ57 a_ρ57 q_ρ57 => ?_)
                  refine r_iincE hC (2) dX6_open_110 rfl rfl (by omega) (by unfold inR; omega) ?_
                  show K _ [_, _, _, _, _, _, _] _ _
                  refine r_goto (tgt := 95) hC dX6_open_113 rfl ?_
                  refine r_iload hC dX6_open_95 rfl ?_
                  refine r_bipush hC dX6_open_97 rfl ?_
                  refine r_icmp_ge (tgt := 116) hC dX6_open_99 rfl (fun h58 => by omega) (fun h58 => ?_)
                  refine r_aload_n hC dX6_open_102 rfl ?_
                  refine r_iload_n hC dX6_open_103 rfl ?_
                  refine r_iload hC dX6_open_104 rfl ?_
                  refine r_iconst hC dX6_open_106 rfl ?_
                  refine z_inv3 hM dX6_open_107 vl_RX6_173 rfl rfl rfl (Nat.le_of_ble_eq_true rfl) (Nat.le_of_ble_eq_true rfl) ?_
                  refine m_setT (by omega) (by omega) ⟨fun h => by omega, fun h => by omega⟩ (fun ρ59 a_ρ59 q_ρ59 => ?_)
                  refine r_iincE hC (3) dX6_open_110 rfl rfl (by omega) (by unfold inR; omega) ?_
                  refine r_goto (tgt := 95) hC dX6_open_113 rfl ?_
                  refine r_iload hC dX6_open_95 rfl ?_
                  refine r_bipush hC dX6_open_97 rfl ?_
                  refine r_icmp_ge (tgt := 116) hC dX6_open_99 rfl (fun h60 => by omega) (fun h60 => ?_)
                  refine r_aload_n hC dX6_open_102 rfl ?_
                  refine r_iload_n hC dX6_open_103 rfl ?_
                  refine r_iload hC dX6_open_104 rfl ?_
                  refine r_iconst hC dX6_open_106 rfl ?_
                  refine z_inv3 hM dX6_open_107 vl_RX6_173 rfl rfl rfl (Nat.le_of_ble_eq_true rfl) (Nat.le_of_ble_eq_true rfl) ?_
                  refine m_setT (by omega) (by omega) ⟨fun h => by omega, fun h => by omega⟩ (fun ρ61 a_ρ61 q_ρ61 => ?_)
                  refine r_iincE hC (4) dX6_open_110 rfl rfl (by omega) (by unfold inR; omega) ?_
                  refine r_goto (tgt := 95) hC dX6_open_113 rfl ?_
                  refine r_iload hC dX6_open_95 rfl ?_
                  refine r_bipush hC dX6_open_97 rfl ?_
                  refine r_icmp_ge (tgt := 116) hC dX6_open_99 rfl (fun h62 => by omega) (fun h62 => ?_)
                  refine r_aload_n hC dX6_open_102 rfl ?_
                  refine r_iload_n hC dX6_open_103 rfl ?_
                  refine r_iload hC dX6_open_104 rfl ?_
                  refine r_iconst hC dX6_open_106 rfl ?_
                  refine z_inv3 hM dX6_open_107 vl_RX6_173 rfl rfl rfl (Nat.le_of_ble_eq_true rfl) (Nat.le_of_ble_eq_true rfl) ?_
                  refine m_set (by omega) (by omega) (by omega) ?_
                  refine r_iincE hC (5) dX6_open_110 rfl rfl (by omega) (by unfold inR; omega) ?_
                  show K _ [_, _, _, _, _, _, _] _ _
                  refine r_goto (tgt := 95) hC dX6_open_113 rfl ?_
                  refine r_iload hC dX6_open_95 rfl ?_
                  refine r_bipush hC dX6_open_97 rfl ?_
                  refine r_icmp_ge (tgt := 116) hC dX6_open_99 rfl (fun h63 => by omega) (fun h63 => ?_)
                  refine r_aload_n hC dX6_open_102 rfl ?_
                  refine r_iload_n hC dX6_open_103 rfl ?_
                  refine r_iload hC dX6_open_104 rfl ?_
                  refine r_iconst hC dX6_open_106 rfl ?_
                  refine z_inv3 hM dX6_open_107 vl_RX6_173 rfl rfl rfl (Nat.le_of_ble_eq_true rfl) (Nat.le_of_ble_eq_true rfl) ?_
                  refine m_setT (by omega) (by omega) ⟨fun h => by omega, fun h => by omega⟩ (fun ρ64 a_ρ64 q_ρ64 => ?_)
                  refine r_iincE hC (6) dX6_open_110 rfl rfl (by omega) (by unfold inR; omega) ?_
                  refine r_goto (tgt := 95) hC dX6_open_113 rfl ?_
                  refine r_iload hC dX6_open_95 rfl ?_
                  refine r_bipush hC dX6_open_97 rfl ?_
                  refine r_icmp_ge (tgt := 116) hC dX6_open_99 rfl (fun h65 => by omega) (fun h65 => ?_)
                  refine r_aload_n hC dX6_open_102 rfl ?_
                  refine r_iload_n hC dX6_open_103 rfl ?_
                  refine r_iload hC dX6_open_104 rfl ?_
                  refine r_iconst hC dX6_open_106 rfl ?_
                  refine z_inv3 hM dX6_open_107 vl_RX6_173 rfl rfl rfl (Nat.le_of_ble_eq_true rfl) (Nat.le_of_ble_eq_true rfl) ?_
                  refine m_set (by omega) (by omega) (by omega) ?_
                  refine r_iincE hC (7) dX6_open_110 rfl rfl (by omega) (by unfold inR; omega) ?_
                  refine r_goto (tgt := 95) hC dX6_open_113 rfl ?_
                  refine r_iload hC dX6_open_95 rfl ?_
                  refine r_bipush hC dX6_open_97 rfl ?_
                  refine r_icmp_ge (tgt := 116) hC dX6_open_99 rfl (fun h66 => by omega) (fun h66 => ?_)
                  refine r_aload_n hC dX6_open_102 rfl ?_
                  refine r_iload_n hC dX6_open_103 rfl ?_
                  refine r_iload hC dX6_open_104 rfl ?_
                  refine r_iconst hC dX6_open_106 rfl ?_
                  refine z_inv3 hM dX6_open_107 vl_RX6_173 rfl rfl rfl (Nat.le_of_ble_eq_true rfl) (Nat.le_of_ble_eq_true rfl) ?_
                  refine m_set (by omega) (by omega) (by omega) ?_
                  refine r_iincE hC (8) dX6_open_110 rfl rfl (by omega) (by unfold inR; omega) ?_
                  show K _ [_, _, _, _, _, _, _] _ _
                  refine r_goto (tgt := 95) hC dX6_open_113 rfl ?_
                  refine r_iload hC dX6_open_95 rfl ?_
                  refine r_bipush hC dX6_open_97 rfl ?_
                  refine r_icmp_ge (tgt := 116) hC dX6_open_99 rfl (fun h67 => by omega) (fun h67 => ?_)
                  refine r_aload_n hC dX6_open_102 rfl ?_
                  refine r_iload_n hC dX6_open_103 rfl ?_
                  refine r_iload hC dX6_open_104 rfl ?_
                  refine r_iconst hC dX6_open_106 rfl ?_
                  refine z_inv3 hM dX6_open_107 vl_RX6_173 rfl rfl rfl (Nat.le_of_ble_eq_true rfl) (Nat.le_of_ble_eq_true rfl) ?_
                  refine m_set (by omega) (by omega) (by omega) ?_
                  refine r_iincE hC (9) dX6_open_110 rfl rfl (by omega) (by unfold inR; omega) ?_
                  refine r_goto (tgt := 95) hC dX6_open_113 rfl ?_
                  refine r_iload hC dX6_open_95 rfl ?_
                  refine r_bipush hC dX6_open_97 rfl ?_
                  refine r_icmp_ge (tgt := 116) hC dX6_open_99 rfl (fun h68 => by omega) (fun h68 => ?_)
                  refine r_aload_n hC dX6_open_102 rfl ?_
                  refine r_iload_n hC dX6_open_103 rfl ?_
                  refine r_iload hC dX6_open_104 rfl ?_
                  refine r_iconst hC dX6_open_106 rfl ?_
                  refine z_inv3 hM dX6_open_107 vl_RX6_173 rfl rfl rfl (Nat.le_of_ble_eq_true rfl) (Nat.le_of_ble_eq_true rfl) ?_
                  refine m_set (by omega) (by omega) (by omega) ?_
                  refine r_iincE hC (10) dX6_open_110 rfl rfl (by omega) (by unfold inR; omega) ?_
                  refine r_goto (tgt := 95) hC dX6_open_113 rfl ?_
                  refine r_iload hC dX6_open_95 rfl ?_
                  refine r_bipush hC dX6_open_97 rfl ?_
                  refine r_icmp_ge (tgt := 116) hC dX6_open_99 rfl (fun h69 => by omega) (fun h69 => ?_)
                  refine r_aload_n hC dX6_open_102 rfl ?_
                  refine r_iload_n hC dX6_open_103 rfl ?_
                  refine r_iload hC dX6_open_104 rfl ?_
                  refine r_iconst hC dX6_open_106 rfl ?_
                  refine z_inv3 hM dX6_open_107 vl_RX6_173 rfl rfl rfl (Nat.le_of_ble_eq_true rfl) (Nat.le_of_ble_eq_true rfl) ?_
                  refine m_set (by omega) (by omega) (by omega) ?_
                  refine r_iincE hC (11) dX6_open_110 rfl rfl (by omega) (by unfold inR; omega) ?_
                  show K _ [_, _, _, _, _, _, _] _ _
                  refine r_goto (tgt := 95) hC dX6_open_113 rfl ?_
                  refine r_iload hC dX6_open_95 rfl ?_
                  refine r_bipush hC dX6_open_97 rfl ?_
                  refine r_icmp_ge (tgt := 116) hC dX6_open_99 rfl (fun h70 => by omega) (fun h70 => ?_)
                  refine r_aload_n hC dX6_open_102 rfl ?_
                  refine r_iload_n hC dX6_open_103 rfl ?_
                  refine r_iload hC dX6_open_104 rfl ?_
                  refine r_iconst hC dX6_open_106 rfl ?_
                  refine z_inv3 hM dX6_open_107 vl_RX6_173 rfl rfl rfl (Nat.le_of_ble_eq_true rfl) (Nat.le_of_ble_eq_true rfl) ?_
                  refine m_set (by omega) (by omega) (by omega) ?_
                  refine r_iincE hC (12) dX6_open_110 rfl rfl (by omega) (by unfold inR; omega) ?_
                  refine r_goto (tgt := 95) hC dX6_open_113 rfl ?_
                  refine r_iload hC dX6_open_95 rfl ?_
                  refine r_bipush hC dX6_open_97 rfl ?_
                  refine r_icmp_ge (tgt := 116) hC dX6_open_99 rfl (fun h71 => by omega) (fun h71 => ?_)
                  refine r_aload_n hC dX6_open_102 rfl ?_
                  refine r_iload_n hC dX6_open_103 rfl ?_
                  refine r_iload hC dX6_open_104 rfl ?_
                  refine r_iconst hC dX6_open_106 rfl ?_
                  refine z_inv3 hM dX6_open_107 vl_RX6_173 rfl rfl rfl (Nat.le_of_ble_eq_true rfl) (Nat.le_of_ble_eq_true rfl) ?_
                  refine m_set (by omega) (by omega) (by omega) ?_
                  refine r_iincE hC (13) dX6_open_110 rfl rfl (by omega) (by unfold inR; omega) ?_
                  refine r_goto (tgt := 95) hC dX6_open_113 rfl ?_
                  refine r_iload hC dX6_open_95 rfl ?_
                  refine r_bipush hC dX6_open_97 rfl ?_
                  refine r_icmp_ge (tgt := 116) hC dX6_open_99 rfl (fun h72 => by omega) (fun h72 => ?_)
                  refine r_aload_n hC dX6_open_102 rfl ?_
                  refine r_iload_n hC dX6_open_103 rfl ?_
                  refine r_iload hC dX6_open_104 rfl ?_
                  refine r_iconst hC dX6_open_106 rfl ?_
                  refine z_inv3 hM dX6_open_107 vl_RX6_173 rfl rfl rfl (Nat.le_of_ble_eq_true rfl) (Nat.le_of_ble_eq_true rfl) ?_
                  refine m_set (by omega) (by omega) (by omega) ?_
                  refine r_iincE hC (14) dX6_open_110 rfl rfl (by omega) (by unfold inR; omega) ?_
                  show K _ [_, _, _, _, _, _, _] _ _
                  refine r_goto (tgt := 95) hC dX6_open_113 rfl ?_
                  refine r_iload hC dX6_open_95 rfl ?_
                  refine r_bipush hC dX6_open_97 rfl ?_
                  refine r_icmp_ge (tgt := 116) hC dX6_open_99 rfl (fun h73 => by omega) (fun h73 => ?_)
                  refine r_aload_n hC dX6_open_102 rfl ?_
                  refine r_iload_n hC dX6_open_103 rfl ?_
                  refine r_iload hC dX6_open_104 rfl ?_
                  refine r_iconst hC dX6_open_106 rfl ?_
                  refine z_inv3 hM dX6_open_107 vl_RX6_173 rfl rfl rfl (Nat.le_of_ble_eq_true rfl) (Nat.le_of_ble_eq_true rfl) ?_
                  refine m_set (by omega) (by omega) (by omega) ?_
                  refine r_iincE hC (15) dX6_open_110 rfl rfl (by omega) (by unfold inR; omega) ?_
                  refine r_goto (tgt := 95) hC dX6_open_113 rfl ?_
                  refine r_iload hC dX6_open_95 rfl ?_
                  refine r_bipush hC dX6_open_97 rfl ?_
                  refine r_icmp_ge (tgt := 116) hC dX6_open_99 rfl (fun h74 => by omega) (fun h74 => ?_)
                  refine r_aload_n hC dX6_open_102 rfl ?_
                  refine r_iload_n hC dX6_open_103 rfl ?_
                  refine r_iload hC dX6_open_104 rfl ?_
                  refine r_iconst hC dX6_open_106 rfl ?_
                  refine z_inv3 hM dX6_open_107 vl_RX6_173 rfl rfl rfl (Nat.le_of_ble_eq_true rfl) (Nat.le_of_ble_eq_true rfl) ?_
                  refine m_set (by omega) (by omega) (by omega) ?_
                  refine r_iincE hC (16) dX6_open_110 rfl rfl (by omega) (by unfold inR; omega) ?_
                  refine r_goto (tgt := 95) hC dX6_open_113 rfl ?_
                  refine r_iload hC dX6_open_95 rfl ?_
                  refine r_bipush hC dX6_open_97 rfl ?_
                  refine r_icmp_ge (tgt := 116) hC dX6_open_99 rfl (fun h75 => by omega) (fun h75 => ?_)
                  refine r_aload_n hC dX6_open_102 rfl ?_
                  refine r_iload_n hC dX6_open_103 rfl ?_
                  refine r_iload hC dX6_open_104 rfl ?_
                  refine r_iconst hC dX6_open_106 rfl ?_
                  refine z_inv3 hM dX6_open_107 vl_RX6_173 rfl rfl rfl (Nat.le_of_ble_eq_true rfl) (Nat.le_of_ble_eq_true rfl) ?_
                  refine m_set (by omega) (by omega) (by omega) ?_
                  refine r_iincE hC (17) dX6_open_110 rfl rfl (by omega) (by unfold inR; omega) ?_
                  show K _ [_, _, _, _, _, _, _] _ _
                  refine r_goto (tgt := 95) hC dX6_open_113 rfl ?_
                  refine r_iload hC dX6_open_95 rfl ?_
                  refine r_bipush hC dX6_open_97 rfl ?_
                  refine r_icmp_ge (tgt := 116) hC dX6_open_99 rfl (fun h76 => by omega) (fun h76 => ?_)
                  refine r_aload_n hC dX6_open_102 rfl ?_
                  refine r_iload_n hC dX6_open_103 rfl ?_
                  refine r_iload hC dX6_open_104 rfl ?_
                  refine r_iconst hC dX6_open_106 rfl ?_
                  refine z_inv3 hM dX6_open_107 vl_RX6_173 rfl rfl rfl (Nat.le_of_ble_eq_true rfl) (Nat.le_of_ble_eq_true rfl) ?_
                  refine m_set (by omega) (by omega) (by omega) ?_
                  refine r_iincE hC (18) dX6_open_110 rfl rfl (by omega) (by unfold inR; omega) ?_
                  refine r_goto (tgt := 95) hC dX6_open_113 rfl ?_
                  refine r_iload hC dX6_open_95 rfl ?_
                  refine r_bipush hC dX6_open_97 rfl ?_
                  refine r_icmp_ge (tgt := 116) hC dX6_open_99 rfl (fun h77 => by omega) (fun h77 => ?_)
                  refine r_aload_n hC dX6_open_102 rfl ?_
                  refine r_iload_n hC dX6_open_103 rfl ?_
                  refine r_iload hC dX6_open_104 rfl ?_
                  refine r_iconst hC dX6_open_106 rfl ?_
                  refine z_inv3 hM dX6_open_107 vl_RX6_173 rfl rfl rfl (Nat.le_of_ble_eq_true rfl) (Nat.le_of_ble_eq_true rfl) ?_
                  refine m_set (by omega) (by omega) (by omega) ?_
                  refine r_iincE hC (19) dX6_open_110 rfl rfl (by omega) (by unfold inR; omega) ?_
                  refine r_goto (tgt := 95) hC dX6_open_113 rfl ?_
                  refine r_iload hC dX6_open_95 rfl ?_
                  refine r_bipush hC dX6_open_97 rfl ?_
                  refine r_icmp_ge (tgt := 116) hC dX6_open_99 rfl (fun h78 => by omega) (fun h78 => ?_)
                  refine r_aload_n hC dX6_open_102 rfl ?_
                  refine r_iload_n hC dX6_open_103 rfl ?_
                  refine r_iload hC dX6_open_104 rfl ?_
                  refine r_iconst hC dX6_open_106 rfl ?_
                  refine z_inv3 hM dX6_open_107 vl_RX6_173 rfl rfl rfl (Nat.le_of_ble_eq_true rfl) (Nat.le_of_ble_eq_true rfl) ?_
                  refine m_set (by omega) (by omega) (by omega) ?_
                  refine r_iincE hC (20) dX6_open_110 rfl rfl (by omega) (by unfold inR; omega) ?_
                  show K _ [_, _, _, _, _, _, _] _ _
                  refine r_goto (tgt := 95) hC dX6_open_113 rfl ?_
                  refine r_iload hC dX6_open_95 rfl ?_
                  refine r_bipush hC dX6_open_97 rfl ?_
                  refine r_icmp_ge (tgt := 116) hC dX6_open_99 rfl (fun h79 => by omega) (fun h79 => ?_)
                  refine r_aload_n hC dX6_open_102 rfl ?_
                  refine r_iload_n hC dX6_open_103 rfl ?_
                  refine r_iload hC dX6_open_104 rfl ?_
                  refine r_iconst hC dX6_open_106 rfl ?_
                  refine z_inv3 hM dX6_open_107 vl_RX6_173 rfl rfl rfl (Nat.le_of_ble_eq_true rfl) (Nat.le_of_ble_eq_true rfl) ?_
                  refine m_set (by omega) (by omega) (by omega) ?_
                  refine r_iincE hC (21) dX6_open_110 rfl rfl (by omega) (by unfold inR; omega) ?_
                  refine r_goto (tgt := 95) hC dX6_open_113 rfl ?_
                  refine r_iload hC dX6_open_95 rfl ?_
                  refine r_bipush hC dX6_open_97 rfl ?_
                  refine r_icmp_ge (tgt := 116) hC dX6_open_99 rfl (fun h80 => by omega) (fun h80 => ?_)
                  refine r_aload_n hC dX6_open_102 rfl ?_
                  refine r_iload_n hC dX6_open_103 rfl ?_
                  refine r_iload hC dX6_open_104 rfl ?_
                  refine r_iconst hC dX6_open_106 rfl ?_
                  refine z_inv3 hM dX6_open_107 vl_RX6_173 rfl rfl rfl (Nat.le_of_ble_eq_true rfl) (Nat.le_of_ble_eq_true rfl) ?_
                  refine m_setT (by omega) (by omega) ⟨fun h => by omega, fun h => by omega⟩ (fun ρ81 a_ρ81 q_ρ81 => ?_)
                  refine r_iincE hC (22) dX6_open_110 rfl rfl (by omega) (by unfold inR; omega) ?_
                  refine r_goto (tgt := 95) hC dX6_open_113 rfl ?_
                  refine r_iload hC dX6_open_95 rfl ?_
                  refine r_bipush hC dX6_open_97 rfl ?_
                  refine r_icmp_ge (tgt := 116) hC dX6_open_99 rfl (fun h82 => ?_) (fun h82 => by omega)
                  refine r_aload_n hC dX6_open_116 rfl ?_
                  refine r_iload_n hC dX6_open_117 rfl ?_
                  refine r_iconst hC dX6_open_118 rfl ?_
                  refine r_iconst hC dX6_open_119 rfl ?_
                  refine z_inv3 hM dX6_open_120 vl_RX6_173 rfl rfl rfl (Nat.le_of_ble_eq_true rfl) (Nat.le_of_ble_eq_true rfl) ?_
                  refine m_setT (by omega) (by omega) ⟨fun h => by omega, fun h => by omega⟩ (fun ρ83 a_ρ83 q_ρ83 => ?_)
                  refine r_aload_n hC dX6_open_123 rfl ?_
                  refine r_iload_n hC dX6_open_124 rfl ?_
                  refine r_iconst hC dX6_open_125 rfl ?_
                  refine r_iload_n hC dX6_open_126 rfl ?_
                  refine z_inv3 hM dX6_open_127 vl_RX6_173 rfl rfl rfl (Nat.le_of_ble_eq_true rfl) (Nat.le_of_ble_eq_true rfl) ?_
                  refine m_setT (by omega) (by omega) ⟨fun h => by omega, fun h => by omega⟩ (fun ρ84 a_ρ84 q_ρ84 => ?_)
                  refine r_aload_n hC dX6_open_130 rfl ?_
                  refine r_iload_n hC dX6_open_131 rfl ?_
                  refine r_iconst hC dX6_open_132 rfl ?_
                  refine r_iload_n hC dX6_open_133 rfl ?_
                  refine z_inv3 hM dX6_open_134 vl_RX6_173 rfl rfl rfl (Nat.le_of_ble_eq_true rfl) (Nat.le_of_ble_eq_true rfl) ?_
                  refine m_setT (by omega) (by omega) ⟨fun h => by omega, fun h => by omega⟩ (fun ρ85 a_ρ85 q_ρ85 => ?_)
                  refine r_aload_n hC dX6_open_137 rfl ?_
                  refine r_iload_n hC dX6_open_138 rfl ?_
                  refine r_iconst hC dX6_open_139 rfl ?_
                  refine r_iload_n hC dX6_open_140 rfl ?_
                  refine r_if_ne (tgt := 148) hC dX6_open_141 rfl (fun h86 => ?_) (fun h86 => ?_)
                  · refine r_iload hC dX6_open_148 rfl ?_
                    refine z_inv3 hM dX6_open_150 vl_RX6_173 rfl rfl rfl (Nat.le_of_ble_eq_true rfl) (Nat.le_of_ble_eq_true rfl) ?_
                    refine m_setT (by omega) (by omega) ⟨fun h => by omega, fun h => by omega⟩ (fun ρ87 a_ρ87 q_ρ87 => ?_)
                    refine r_aload_n hC dX6_open_153 rfl ?_
                    refine r_iload_n hC dX6_open_154 rfl ?_
                    refine r_iconst hC dX6_open_155 rfl ?_
                    refine r_iload hC dX6_open_156 rfl ?_
                    refine z_inv3 hM dX6_open_158 vl_RX6_173 rfl rfl rfl (Nat.le_of_ble_eq_true rfl) (Nat.le_of_ble_eq_true rfl) ?_
                    refine m_set (by omega) (by omega) (by omega) ?_
                    refine r_aload_n hC dX6_open_161 rfl ?_
                    refine r_iload_n hC dX6_open_162 rfl ?_
                    refine r_bipush hC dX6_open_163 rfl ?_
                    refine r_iconst hC dX6_open_165 rfl ?_
                    refine z_inv3 hM dX6_open_166 vl_RX6_173 rfl rfl rfl (Nat.le_of_ble_eq_true rfl) (Nat.le_of_ble_eq_true rfl) ?_
                    refine m_set (by omega) (by omega) (by omega) ?_
                    refine r_aload_n hC dX6_open_169 rfl ?_
                    refine r_iload_n hC dX6_open_170 rfl ?_
                    refine z_inv1 hM dX6_open_171 vl_RX6_176 rfl rfl rfl (Nat.le_of_ble_eq_true rfl) (Nat.le_of_ble_eq_true rfl) ?_
                    refine m_endWatches ?_
                    refine r_aload_n hC dX6_open_174 rfl ?_
                    refine r_iload_n hC dX6_open_175 rfl ?_
                    refine z_inv1 hM dX6_open_176 vl_RX6_179 rfl rfl rfl (Nat.le_of_ble_eq_true rfl) (Nat.le_of_ble_eq_true rfl) ?_
                    refine m_endLinks (by omega) (fun ρ88 g_ρ88 t_ρ88 => ?_)
                    refine r_aload_n hC dX6_open_179 rfl ?_
                    refine z_inv0 hM dX6_open_180 vl_RX6_182 rfl rfl rfl (Nat.le_of_ble_eq_true rfl) (Nat.le_of_ble_eq_true rfl) ?_
                    refine m_openLanesX ?_
                    refine y_iret hK rfl dX6_open_183 ?_
                    have gg : Gx (fun c x y => c = 31 ∧ x = 0 ∧ 22 * l ≤ y ∧ y < 22 * l + 22 ∨ c = 45 ∧ x = 0) σ ρ88 := Gx.gx (((((((((((Gx.rf).al a_ρ55 (by first | (simp; done) | omega | (simp; omega))).al a_ρ57 (by first | (simp; done) | omega | (simp; omega))).al a_ρ59 (by first | (simp; done) | omega | (simp; omega))).al a_ρ61 (by first | (simp; done) | omega | (simp; omega))).al a_ρ64 (by first | (simp; done) | omega | (simp; omega))).al a_ρ81 (by first | (simp; done) | omega | (simp; omega))).al a_ρ83 (by first | (simp; done) | omega | (simp; omega))).al a_ρ84 (by first | (simp; done) | omega | (simp; omega))).al a_ρ85 (by first | (simp; done) | omega | (simp; omega))).al a_ρ87 (by first | (simp; done) | omega | (simp; omega))) g_ρ88 (by intro c x y h; omega)
                    have e0 := ((g_ρ88 _ _ _ (by omega)).trans ((a_ρ87 _ _ _ (by omega)).trans ((a_ρ85 _ _ _ (by omega)).trans ((a_ρ84 _ _ _ (by omega)).trans q_ρ83))))
                    have e1 := ((g_ρ88 _ _ _ (by omega)).trans ((a_ρ87 _ _ _ (by omega)).trans ((a_ρ85 _ _ _ (by omega)).trans q_ρ84)))
                    have e2 := ((g_ρ88 _ _ _ (by omega)).trans ((a_ρ87 _ _ _ (by omega)).trans q_ρ85))
                    have e3 := ((g_ρ88 _ _ _ (by omega)).trans q_ρ87)
                    have e5 := ((g_ρ88 _ _ _ (by omega)).trans ((a_ρ87 _ _ _ (by omega)).trans ((a_ρ85 _ _ _ (by omega)).trans ((a_ρ84 _ _ _ (by omega)).trans ((a_ρ83 _ _ _ (by omega)).trans ((a_ρ81 _ _ _ (by omega)).trans q_ρ64))))))
                    have e21 := ((g_ρ88 _ _ _ (by omega)).trans ((a_ρ87 _ _ _ (by omega)).trans ((a_ρ85 _ _ _ (by omega)).trans ((a_ρ84 _ _ _ (by omega)).trans ((a_ρ83 _ _ _ (by omega)).trans q_ρ81)))))
                    have gt : Gx (fun c x y => c = 31 ∧ x = 0 ∧ 22 * l ≤ y ∧ y < 22 * l + 22) σ ρ87 := ((((((((((Gx.rf).al a_ρ55 (by first | (simp; done) | omega | (simp; omega))).al a_ρ57 (by first | (simp; done) | omega | (simp; omega))).al a_ρ59 (by first | (simp; done) | omega | (simp; omega))).al a_ρ61 (by first | (simp; done) | omega | (simp; omega))).al a_ρ64 (by first | (simp; done) | omega | (simp; omega))).al a_ρ81 (by first | (simp; done) | omega | (simp; omega))).al a_ρ83 (by first | (simp; done) | omega | (simp; omega))).al a_ρ84 (by first | (simp; done) | omega | (simp; omega))).al a_ρ85 (by first | (simp; done) | omega | (simp; omega))).al a_ρ87 (by first | (simp; done) | omega | (simp; omega))
                    refine k1 (by omega) _ _ ⟨gg, (hL.lane31 (l := l) (ρ := ρ87) (fun c X y h => gt c X y h) ?_).to (fun c i j hD => g_ρ88 c i j (by rintro ⟨rfl, rfl⟩; exact hD))⟩ (by omega) (by omega) (fun i h0 h3 => by rw [t_ρ88 i h0 h3, gt 45 0 i (by omega)]) rfl
                    rw [← g_ρ88 31 0 (22 * l + 2) (by omega), ← g_ρ88 31 0 (22 * l + 3) (by omega), ← g_ρ88 31 0 (22 * l + 5) (by omega), e2, e3, e5]; unfold Rst; omega
                  · refine r_iconst hC dX6_open_144 rfl ?_
                    refine r_goto (tgt := 150) hC dX6_open_145 rfl ?_
                    refine z_inv3 hM dX6_open_150 vl_RX6_173 rfl rfl rfl (Nat.le_of_ble_eq_true rfl) (Nat.le_of_ble_eq_true rfl) ?_
                    refine m_setT (by omega) (by omega) ⟨fun h => by omega, fun h => by omega⟩ (fun ρ89 a_ρ89 q_ρ89 => ?_)
                    refine r_aload_n hC dX6_open_153 rfl ?_
                    refine r_iload_n hC dX6_open_154 rfl ?_
                    refine r_iconst hC dX6_open_155 rfl ?_
                    refine r_iload hC dX6_open_156 rfl ?_
                    refine z_inv3 hM dX6_open_158 vl_RX6_173 rfl rfl rfl (Nat.le_of_ble_eq_true rfl) (Nat.le_of_ble_eq_true rfl) ?_
                    refine m_set (by omega) (by omega) (by omega) ?_
                    refine r_aload_n hC dX6_open_161 rfl ?_
                    refine r_iload_n hC dX6_open_162 rfl ?_
                    refine r_bipush hC dX6_open_163 rfl ?_
                    refine r_iconst hC dX6_open_165 rfl ?_
                    refine z_inv3 hM dX6_open_166 vl_RX6_173 rfl rfl rfl (Nat.le_of_ble_eq_true rfl) (Nat.le_of_ble_eq_true rfl) ?_
                    refine m_set (by omega) (by omega) (by omega) ?_
                    refine r_aload_n hC dX6_open_169 rfl ?_
                    refine r_iload_n hC dX6_open_170 rfl ?_
                    refine z_inv1 hM dX6_open_171 vl_RX6_176 rfl rfl rfl (Nat.le_of_ble_eq_true rfl) (Nat.le_of_ble_eq_true rfl) ?_
                    refine m_endWatches ?_
                    refine r_aload_n hC dX6_open_174 rfl ?_
                    refine r_iload_n hC dX6_open_175 rfl ?_
                    refine z_inv1 hM dX6_open_176 vl_RX6_179 rfl rfl rfl (Nat.le_of_ble_eq_true rfl) (Nat.le_of_ble_eq_true rfl) ?_
                    refine m_endLinks (by omega) (fun ρ90 g_ρ90 t_ρ90 => ?_)
                    refine r_aload_n hC dX6_open_179 rfl ?_
                    refine z_inv0 hM dX6_open_180 vl_RX6_182 rfl rfl rfl (Nat.le_of_ble_eq_true rfl) (Nat.le_of_ble_eq_true rfl) ?_
                    refine m_openLanesX ?_
                    refine y_iret hK rfl dX6_open_183 ?_
                    have gg : Gx (fun c x y => c = 31 ∧ x = 0 ∧ 22 * l ≤ y ∧ y < 22 * l + 22 ∨ c = 45 ∧ x = 0) σ ρ90 := Gx.gx (((((((((((Gx.rf).al a_ρ55 (by first | (simp; done) | omega | (simp; omega))).al a_ρ57 (by first | (simp; done) | omega | (simp; omega))).al a_ρ59 (by first | (simp; done) | omega | (simp; omega))).al a_ρ61 (by first | (simp; done) | omega | (simp; omega))).al a_ρ64 (by first | (simp; done) | omega | (simp; omega))).al a_ρ81 (by first | (simp; done) | omega | (simp; omega))).al a_ρ83 (by first | (simp; done) | omega | (simp; omega))).al a_ρ84 (by first | (simp; done) | omega | (simp; omega))).al a_ρ85 (by first | (simp; done) | omega | (simp; omega))).al a_ρ89 (by first | (simp; done) | omega | (simp; omega))) g_ρ90 (by intro c x y h; omega)
                    have e0 := ((g_ρ90 _ _ _ (by omega)).trans ((a_ρ89 _ _ _ (by omega)).trans ((a_ρ85 _ _ _ (by omega)).trans ((a_ρ84 _ _ _ (by omega)).trans q_ρ83))))
                    have e1 := ((g_ρ90 _ _ _ (by omega)).trans ((a_ρ89 _ _ _ (by omega)).trans ((a_ρ85 _ _ _ (by omega)).trans q_ρ84)))
                    have e2 := ((g_ρ90 _ _ _ (by omega)).trans ((a_ρ89 _ _ _ (by omega)).trans q_ρ85))
                    have e3 := ((g_ρ90 _ _ _ (by omega)).trans q_ρ89)
                    have e5 := ((g_ρ90 _ _ _ (by omega)).trans ((a_ρ89 _ _ _ (by omega)).trans ((a_ρ85 _ _ _ (by omega)).trans ((a_ρ84 _ _ _ (by omega)).trans ((a_ρ83 _ _ _ (by omega)).trans ((a_ρ81 _ _ _ (by omega)).trans q_ρ64))))))
                    have e21 := ((g_ρ90 _ _ _ (by omega)).trans ((a_ρ89 _ _ _ (by omega)).trans ((a_ρ85 _ _ _ (by omega)).trans ((a_ρ84 _ _ _ (by omega)).trans ((a_ρ83 _ _ _ (by omega)).trans q_ρ81)))))
                    have gt : Gx (fun c x y => c = 31 ∧ x = 0 ∧ 22 * l ≤ y ∧ y < 22 * l + 22) σ ρ89 := ((((((((((Gx.rf).al a_ρ55 (by first | (simp; done) | omega | (simp; omega))).al a_ρ57 (by first | (simp; done) | omega | (simp; omega))).al a_ρ59 (by first | (simp; done) | omega | (simp; omega))).al a_ρ61 (by first | (simp; done) | omega | (simp; omega))).al a_ρ64 (by first | (simp; done) | omega | (simp; omega))).al a_ρ81 (by first | (simp; done) | omega | (simp; omega))).al a_ρ83 (by first | (simp; done) | omega | (simp; omega))).al a_ρ84 (by first | (simp; done) | omega | (simp; omega))).al a_ρ85 (by first | (simp; done) | omega | (simp; omega))).al a_ρ89 (by first | (simp; done) | omega | (simp; omega))
                    refine k1 (by omega) _ _ ⟨gg, (hL.lane31 (l := l) (ρ := ρ89) (fun c X y h => gt c X y h) ?_).to (fun c i j hD => g_ρ90 c i j (by rintro ⟨rfl, rfl⟩; exact hD))⟩ (by omega) (by omega) (fun i h0 h3 => by rw [t_ρ90 i h0 h3, gt 45 0 i (by omega)]) rfl
                    rw [← g_ρ90 31 0 (22 * l + 2) (by omega), ← g_ρ90 31 0 (22 * l + 3) (by omega), ← g_ρ90 31 0 (22 * l + 5) (by omega), e2, e3, e5]; unfold Rst; omega
                · refine r_iconst hC dX6_open_90 rfl ?_
                  refine y_iret hK rfl dX6_open_91 ?_
                  exact k0 (by omega)
            · refine r_iload hC dX6_open_63 rfl ?_
              refine r_iconst hC dX6_open_65 rfl ?_
              refine r_sipush hC dX6_open_66 rfl ?_
              refine z_ins3 hM dX6_open_69 tl_RX6_76 rfl (Nat.le_of_ble_eq_true rfl) (Nat.le_of_ble_eq_true rfl) ?_
              refine m_isIn (fun h92 => ?_) (fun h92 => ?_)
              · refine r_if_ne (tgt := 77) hC dX6_open_72 rfl (fun h93 => ?_) (fun h93 => by omega)
                refine r_iload_n hC dX6_open_77 rfl ?_
                refine r_bipush hC dX6_open_78 rfl ?_
                refine r_icmp_ne (tgt := 92) hC dX6_open_80 rfl (fun h94 => ?_) (fun h94 => ?_)
                · refine r_iconst hC dX6_open_92 rfl ?_
                  refine r_istore hC dX6_open_93 rfl ?_
                  refine r_iload hC dX6_open_95 rfl ?_
                  refine r_bipush hC dX6_open_97 rfl ?_
                  refine r_icmp_ge (tgt := 116) hC dX6_open_99 rfl (fun h95 => by omega) (fun h95 => ?_)
                  refine r_aload_n hC dX6_open_102 rfl ?_
                  refine r_iload_n hC dX6_open_103 rfl ?_
                  refine r_iload hC dX6_open_104 rfl ?_
                  refine r_iconst hC dX6_open_106 rfl ?_
                  refine z_inv3 hM dX6_open_107 vl_RX6_173 rfl rfl rfl (Nat.le_of_ble_eq_true rfl) (Nat.le_of_ble_eq_true rfl) ?_
                  refine m_setT (by omega) (by omega) ⟨fun h => by omega, fun h => by omega⟩ (fun ρ96 a_ρ96 q_ρ96 => ?_)
                  refine r_iincE hC (1) dX6_open_110 rfl rfl (by omega) (by unfold inR; omega) ?_
                  refine r_goto (tgt := 95) hC dX6_open_113 rfl ?_
                  refine r_iload hC dX6_open_95 rfl ?_
                  refine r_bipush hC dX6_open_97 rfl ?_
                  refine r_icmp_ge (tgt := 116) hC dX6_open_99 rfl (fun h97 => by omega) (fun h97 => ?_)
                  refine r_aload_n hC dX6_open_102 rfl ?_
                  refine r_iload_n hC dX6_open_103 rfl ?_
                  refine r_iload hC dX6_open_104 rfl ?_
                  refine r_iconst hC dX6_open_106 rfl ?_
                  refine z_inv3 hM dX6_open_107 vl_RX6_173 rfl rfl rfl (Nat.le_of_ble_eq_true rfl) (Nat.le_of_ble_eq_true rfl) ?_
                  refine m_setT (by omega) (by omega) ⟨fun h => by omega, fun h => by omega⟩ (fun ρ98 a_ρ98 q_ρ98 => ?_)
                  refine r_iincE hC (2) dX6_open_110 rfl rfl (by omega) (by unfold inR; omega) ?_
                  show K _ [_, _, _, _, _, _, _] _ _
                  refine r_goto (tgt := 95) hC dX6_open_113 rfl ?_
                  refine r_iload hC dX6_open_95 rfl ?_
                  refine r_bipush hC dX6_open_97 rfl ?_
                  refine r_icmp_ge (tgt := 116) hC dX6_open_99 rfl (fun h99 => by omega) (fun h99 => ?_)
                  refine r_aload_n hC dX6_open_102 rfl ?_
                  refine r_iload_n hC dX6_open_103 rfl ?_
                  refine r_iload hC dX6_open_104 rfl ?_
                  refine r_iconst hC dX6_open_106 rfl ?_
                  refine z_inv3 hM dX6_open_107 vl_RX6_173 rfl rfl rfl (Nat.le_of_ble_eq_true rfl) (Nat.le_of_ble_eq_true rfl) ?_
                  refine m_setT (by omega) (by omega) ⟨fun h => by omega, fun h => by omega⟩ (fun ρ100 a_ρ100 q_ρ100 => ?_)
                  refine r_iincE hC (3) dX6_open_110 rfl rfl (by omega) (by unfold inR; omega) ?_
                  refine r_goto (tgt := 95) hC dX6_open_113 rfl ?_
                  refine r_iload hC dX6_open_95 rfl ?_
                  refine r_bipush hC dX6_open_97 rfl ?_
                  refine r_icmp_ge (tgt := 116) hC dX6_open_99 rfl (fun h101 => by omega) (fun h101 => ?_)
                  refine r_aload_n hC dX6_open_102 rfl ?_
                  refine r_iload_n hC dX6_open_103 rfl ?_
                  refine r_iload hC dX6_open_104 rfl ?_
                  refine r_iconst hC dX6_open_106 rfl ?_
                  refine z_inv3 hM dX6_open_107 vl_RX6_173 rfl rfl rfl (Nat.le_of_ble_eq_true rfl) (Nat.le_of_ble_eq_true rfl) ?_
                  refine m_setT (by omega) (by omega) ⟨fun h => by omega, fun h => by omega⟩ (fun ρ102 a_ρ102 q_ρ102 => ?_)
                  refine r_iincE hC (4) dX6_open_110 rfl rfl (by omega) (by unfold inR; omega) ?_
                  refine r_goto (tgt := 95) hC dX6_open_113 rfl ?_
                  refine r_iload hC dX6_open_95 rfl ?_
                  refine r_bipush hC dX6_open_97 rfl ?_
                  refine r_icmp_ge (tgt := 116) hC dX6_open_99 rfl (fun h103 => by omega) (fun h103 => ?_)
                  refine r_aload_n hC dX6_open_102 rfl ?_
                  refine r_iload_n hC dX6_open_103 rfl ?_
                  refine r_iload hC dX6_open_104 rfl ?_
                  refine r_iconst hC dX6_open_106 rfl ?_
                  refine z_inv3 hM dX6_open_107 vl_RX6_173 rfl rfl rfl (Nat.le_of_ble_eq_true rfl) (Nat.le_of_ble_eq_true rfl) ?_
                  refine m_set (by omega) (by omega) (by omega) ?_
                  refine r_iincE hC (5) dX6_open_110 rfl rfl (by omega) (by unfold inR; omega) ?_
                  show K _ [_, _, _, _, _, _, _] _ _
                  refine r_goto (tgt := 95) hC dX6_open_113 rfl ?_
                  refine r_iload hC dX6_open_95 rfl ?_
                  refine r_bipush hC dX6_open_97 rfl ?_
                  refine r_icmp_ge (tgt := 116) hC dX6_open_99 rfl (fun h104 => by omega) (fun h104 => ?_)
                  refine r_aload_n hC dX6_open_102 rfl ?_
                  refine r_iload_n hC dX6_open_103 rfl ?_
                  refine r_iload hC dX6_open_104 rfl ?_
                  refine r_iconst hC dX6_open_106 rfl ?_
                  refine z_inv3 hM dX6_open_107 vl_RX6_173 rfl rfl rfl (Nat.le_of_ble_eq_true rfl) (Nat.le_of_ble_eq_true rfl) ?_
                  refine m_setT (by omega) (by omega) ⟨fun h => by omega, fun h => by omega⟩ (fun ρ105 a_ρ105 q_ρ105 => ?_)
                  refine r_iincE hC (6) dX6_open_110 rfl rfl (by omega) (by unfold inR; omega) ?_
                  refine r_goto (tgt := 95) hC dX6_open_113 rfl ?_
                  refine r_iload hC dX6_open_95 rfl ?_
                  refine r_bipush hC dX6_open_97 rfl ?_
                  refine r_icmp_ge (tgt := 116) hC dX6_open_99 rfl (fun h106 => by omega) (fun h106 => ?_)
                  refine r_aload_n hC dX6_open_102 rfl ?_
                  refine r_iload_n hC dX6_open_103 rfl ?_
                  refine r_iload hC dX6_open_104 rfl ?_
                  refine r_iconst hC dX6_open_106 rfl ?_
                  refine z_inv3 hM dX6_open_107 vl_RX6_173 rfl rfl rfl (Nat.le_of_ble_eq_true rfl) (Nat.le_of_ble_eq_true rfl) ?_
                  refine m_set (by omega) (by omega) (by omega) ?_
                  refine r_iincE hC (7) dX6_open_110 rfl rfl (by omega) (by unfold inR; omega) ?_
                  refine r_goto (tgt := 95) hC dX6_open_113 rfl ?_
                  refine r_iload hC dX6_open_95 rfl ?_
                  refine r_bipush hC dX6_open_97 rfl ?_
                  refine r_icmp_ge (tgt := 116) hC dX6_open_99 rfl (fun h107 => by omega) (fun h107 => ?_)
                  refine r_aload_n hC dX6_open_102 rfl ?_
                  refine r_iload_n hC dX6_open_103 rfl ?_
                  refine r_iload hC dX6_open_104 rfl ?_
                  refine r_iconst hC dX6_open_106 rfl ?_
                  refine z_inv3 hM dX6_open_107 vl_RX6_173 rfl rfl rfl (Nat.le_of_ble_eq_true rfl) (Nat.le_of_ble_eq_true rfl) ?_
                  refine m_set (by omega) (by omega) (by omega) ?_
                  refine r_iincE hC (8) dX6_open_110 rfl rfl (by omega) (by unfold inR; omega) ?_
                  show K _ [_, _, _, _, _, _, _] _ _
                  refine r_goto (tgt := 95) hC dX6_open_113 rfl ?_
                  refine r_iload hC dX6_open_95 rfl ?_
                  refine r_bipush hC dX6_open_97 rfl ?_
                  refine r_icmp_ge (tgt := 116) hC dX6_open_99 rfl (fun h108 => by omega) (fun h108 => ?_)
                  refine r_aload_n hC dX6_open_102 rfl ?_
                  refine r_iload_n hC dX6_open_103 rfl ?_
                  refine r_iload hC dX6_open_104 rfl ?_
                  refine r_iconst hC dX6_open_106 rfl ?_
                  refine z_inv3 hM dX6_open_107 vl_RX6_173 rfl rfl rfl (Nat.le_of_ble_eq_true rfl) (Nat.le_of_ble_eq_true rfl) ?_
                  refine m_set (by omega) (by omega) (by omega) ?_
                  refine r_iincE hC (9) dX6_open_110 rfl rfl (by omega) (by unfold inR; omega) ?_
                  refine r_goto (tgt := 95) hC dX6_open_113 rfl ?_
                  refine r_iload hC dX6_open_95 rfl ?_
                  refine r_bipush hC dX6_open_97 rfl ?_
                  refine r_icmp_ge (tgt := 116) hC dX6_open_99 rfl (fun h109 => by omega) (fun h109 => ?_)
                  refine r_aload_n hC dX6_open_102 rfl ?_
                  refine r_iload_n hC dX6_open_103 rfl ?_
                  refine r_iload hC dX6_open_104 rfl ?_
                  refine r_iconst hC dX6_open_106 rfl ?_
                  refine z_inv3 hM dX6_open_107 vl_RX6_173 rfl rfl rfl (Nat.le_of_ble_eq_true rfl) (Nat.le_of_ble_eq_true rfl) ?_
                  refine m_set (by omega) (by omega) (by omega) ?_
                  refine r_iincE hC (10) dX6_open_110 rfl rfl (by omega) (by unfold inR; omega) ?_
                  refine r_goto (tgt := 95) hC dX6_open_113 rfl ?_
                  refine r_iload hC dX6_open_95 rfl ?_
                  refine r_bipush hC dX6_open_97 rfl ?_
                  refine r_icmp_ge (tgt := 116) hC dX6_open_99 rfl (fun h110 => by omega) (fun h110 => ?_)
                  refine r_aload_n hC dX6_open_102 rfl ?_
                  refine r_iload_n hC dX6_open_103 rfl ?_
                  refine r_iload hC dX6_open_104 rfl ?_
                  refine r_iconst hC dX6_open_106 rfl ?_
                  refine z_inv3 hM dX6_open_107 vl_RX6_173 rfl rfl rfl (Nat.le_of_ble_eq_true rfl) (Nat.le_of_ble_eq_true rfl) ?_
                  refine m_set (by omega) (by omega) (by omega) ?_
                  refine r_iincE hC (11) dX6_open_110 rfl rfl (by omega) (by unfold inR; omega) ?_
                  show K _ [_, _, _, _, _, _, _] _ _
                  refine r_goto (tgt := 95) hC dX6_open_113 rfl ?_
                  refine r_iload hC dX6_open_95 rfl ?_
                  refine r_bipush hC dX6_open_97 rfl ?_
                  refine r_icmp_ge (tgt := 116) hC dX6_open_99 rfl (fun h111 => by omega) (fun h111 => ?_)
                  refine r_aload_n hC dX6_open_102 rfl ?_
                  refine r_iload_n hC dX6_open_103 rfl ?_
                  refine r_iload hC dX6_open_104 rfl ?_
                  refine r_iconst hC dX6_open_106 rfl ?_
                  refine z_inv3 hM dX6_open_107 vl_RX6_173 rfl rfl rfl (Nat.le_of_ble_eq_true rfl) (Nat.le_of_ble_eq_true rfl) ?_
                  refine m_set (by omega) (by omega) (by omega) ?_
                  refine r_iincE hC (12) dX6_open_110 rfl rfl (by omega) (by unfold inR; omega) ?_
                  refine r_goto (tgt := 95) hC dX6_open_113 rfl ?_
                  refine r_iload hC dX6_open_95 rfl ?_
                  refine r_bipush hC dX6_open_97 rfl ?_
                  refine r_icmp_ge (tgt := 116) hC dX6_open_99 rfl (fun h112 => by omega) (fun h112 => ?_)
                  refine r_aload_n hC dX6_open_102 rfl ?_
                  refine r_iload_n hC dX6_open_103 rfl ?_
                  refine r_iload hC dX6_open_104 rfl ?_
                  refine r_iconst hC dX6_open_106 rfl ?_
                  refine z_inv3 hM dX6_open_107 vl_RX6_173 rfl rfl rfl (Nat.le_of_ble_eq_true rfl) (Nat.le_of_ble_eq_true rfl) ?_
                  refine m_set (by omega) (by omega) (by omega) ?_
                  refine r_iincE hC (13) dX6_open_110 rfl rfl (by omega) (by unfold inR; omega) ?_
                  refine r_goto (tgt := 95) hC dX6_open_113 rfl ?_
                  refine r_iload hC dX6_open_95 rfl ?_
                  refine r_bipush hC dX6_open_97 rfl ?_
                  refine r_icmp_ge (tgt := 116) hC dX6_open_99 rfl (fun h113 => by omega) (fun h113 => ?_)
                  refine r_aload_n hC dX6_open_102 rfl ?_
                  refine r_iload_n hC dX6_open_103 rfl ?_
                  refine r_iload hC dX6_open_104 rfl ?_
                  refine r_iconst hC dX6_open_106 rfl ?_
                  refine z_inv3 hM dX6_open_107 vl_RX6_173 rfl rfl rfl (Nat.le_of_ble_eq_true rfl) (Nat.le_of_ble_eq_true rfl) ?_
                  refine m_set (by omega) (by omega) (by omega) ?_
                  refine r_iincE hC (14) dX6_open_110 rfl rfl (by omega) (by unfold inR; omega) ?_
                  show K _ [_, _, _, _, _, _, _] _ _
                  refine r_goto (tgt := 95) hC dX6_open_113 rfl ?_
                  refine r_iload hC dX6_open_95 rfl ?_
                  refine r_bipush hC dX6_open_97 rfl ?_
                  refine r_icmp_ge (tgt := 116) hC dX6_open_99 rfl (fun h114 => by omega) (fun h114 => ?_)
                  refine r_aload_n hC dX6_open_102 rfl ?_
                  refine r_iload_n hC dX6_open_103 rfl ?_
                  refine r_iload hC dX6_open_104 rfl ?_
                  refine r_iconst hC dX6_open_106 rfl ?_
                  refine z_inv3 hM dX6_open_107 vl_RX6_173 rfl rfl rfl (Nat.le_of_ble_eq_true rfl) (Nat.le_of_ble_eq_true rfl) ?_
                  refine m_set (by omega) (by omega) (by omega) ?_
                  refine r_iincE hC (15) dX6_open_110 rfl rfl (by omega) (by unfold inR; omega) ?_
                  refine r_goto (tgt := 95) hC dX6_open_113 rfl ?_
                  refine r_iload hC dX6_open_95 rfl ?_
                  refine r_bipush hC dX6_open_97 rfl ?_
                  refine r_icmp_ge (tgt := 116) hC dX6_open_99 rfl (fun h115 => by omega) (fun h115 => ?_)
                  refine r_aload_n hC dX6_open_102 rfl ?_
                  refine r_iload_n hC dX6_open_103 rfl ?_
                  refine r_iload hC dX6_open_104 rfl ?_
                  refine r_iconst hC dX6_open_106 rfl ?_
                  refine z_inv3 hM dX6_open_107 vl_RX6_173 rfl rfl rfl (Nat.le_of_ble_eq_true rfl) (Nat.le_of_ble_eq_true rfl) ?_
                  refine m_set (by omega) (by omega) (by omega) ?_
                  refine r_iincE hC (16) dX6_open_110 rfl rfl (by omega) (by unfold inR; omega) ?_
                  refine r_goto (tgt := 95) hC dX6_open_113 rfl ?_
                  refine r_iload hC dX6_open_95 rfl ?_
                  refine r_bipush hC dX6_open_97 rfl ?_
                  refine r_icmp_ge (tgt := 116) hC dX6_open_99 rfl (fun h116 => by omega) (fun h116 => ?_)
                  refine r_aload_n hC dX6_open_102 rfl ?_
                  refine r_iload_n hC dX6_open_103 rfl ?_
                  refine r_iload hC dX6_open_104 rfl ?_
                  refine r_iconst hC dX6_open_106 rfl ?_
                  refine z_inv3 hM dX6_open_107 vl_RX6_173 rfl rfl rfl (Nat.le_of_ble_eq_true rfl) (Nat.le_of_ble_eq_true rfl) ?_
                  refine m_set (by omega) (by omega) (by omega) ?_
                  refine r_iincE hC (17) dX6_open_110 rfl rfl (by omega) (by unfold inR; omega) ?_
                  show K _ [_, _, _, _, _, _, _] _ _
                  refine r_goto (tgt := 95) hC dX6_open_113 rfl ?_
                  refine r_iload hC dX6_open_95 rfl ?_
                  refine r_bipush hC dX6_open_97 rfl ?_
                  refine r_icmp_ge (tgt := 116) hC dX6_open_99 rfl (fun h117 => by omega) (fun h117 => ?_)
                  refine r_aload_n hC dX6_open_102 rfl ?_
                  refine r_iload_n hC dX6_open_103 rfl ?_
                  refine r_iload hC dX6_open_104 rfl ?_
                  refine r_iconst hC dX6_open_106 rfl ?_
                  refine z_inv3 hM dX6_open_107 vl_RX6_173 rfl rfl rfl (Nat.le_of_ble_eq_true rfl) (Nat.le_of_ble_eq_true rfl) ?_
                  refine m_set (by omega) (by omega) (by omega) ?_
                  refine r_iincE hC (18) dX6_open_110 rfl rfl (by omega) (by unfold inR; omega) ?_
                  refine r_goto (tgt := 95) hC dX6_open_113 rfl ?_
                  refine r_iload hC dX6_open_95 rfl ?_
                  refine r_bipush hC dX6_open_97 rfl ?_
                  refine r_icmp_ge (tgt := 116) hC dX6_open_99 rfl (fun h118 => by omega) (fun h118 => ?_)
                  refine r_aload_n hC dX6_open_102 rfl ?_
                  refine r_iload_n hC dX6_open_103 rfl ?_
                  refine r_iload hC dX6_open_104 rfl ?_
                  refine r_iconst hC dX6_open_106 rfl ?_
                  refine z_inv3 hM dX6_open_107 vl_RX6_173 rfl rfl rfl (Nat.le_of_ble_eq_true rfl) (Nat.le_of_ble_eq_true rfl) ?_
                  refine m_set (by omega) (by omega) (by omega) ?_
                  refine r_iincE hC (19) dX6_open_110 rfl rfl (by omega) (by unfold inR; omega) ?_
                  refine r_goto (tgt := 95) hC dX6_open_113 rfl ?_
                  refine r_iload hC dX6_open_95 rfl ?_
                  refine r_bipush hC dX6_open_97 rfl ?_
                  refine r_icmp_ge (tgt := 116) hC dX6_open_99 rfl (fun h119 => by omega) (fun h119 => ?_)
                  refine r_aload_n hC dX6_open_102 rfl ?_
                  refine r_iload_n hC dX6_open_103 rfl ?_
                  refine r_iload hC dX6_open_104 rfl ?_
                  refine r_iconst hC dX6_open_106 rfl ?_
                  refine z_inv3 hM dX6_open_107 vl_RX6_173 rfl rfl rfl (Nat.le_of_ble_eq_true rfl) (Nat.le_of_ble_eq_true rfl) ?_
                  refine m_set (by omega) (by omega) (by omega) ?_
                  refine r_iincE hC (20) dX6_open_110 rfl rfl (by omega) (by unfold inR; omega) ?_
                  show K _ [_, _, _, _, _, _, _] _ _
                  refine r_goto (tgt := 95) hC dX6_open_113 rfl ?_
                  refine r_iload hC dX6_open_95 rfl ?_
                  refine r_bipush hC dX6_open_97 rfl ?_
                  refine r_icmp_ge (tgt := 116) hC dX6_open_99 rfl (fun h120 => by omega) (fun h120 => ?_)
                  refine r_aload_n hC dX6_open_102 rfl ?_
                  refine r_iload_n hC dX6_open_103 rfl ?_
                  refine r_iload hC dX6_open_104 rfl ?_
                  refine r_iconst hC dX6_open_106 rfl ?_
                  refine z_inv3 hM dX6_open_107 vl_RX6_173 rfl rfl rfl (Nat.le_of_ble_eq_true rfl) (Nat.le_of_ble_eq_true rfl) ?_
                  refine m_set (by omega) (by omega) (by omega) ?_
                  refine r_iincE hC (21) dX6_open_110 rfl rfl (by omega) (by unfold inR; omega) ?_
                  refine r_goto (tgt := 95) hC dX6_open_113 rfl ?_
                  refine r_iload hC dX6_open_95 rfl ?_
                  refine r_bipush hC dX6_open_97 rfl ?_
                  refine r_icmp_ge (tgt := 116) hC dX6_open_99 rfl (fun h121 => by omega) (fun h121 => ?_)
                  refine r_aload_n hC dX6_open_102 rfl ?_
                  refine r_iload_n hC dX6_open_103 rfl ?_
                  refine r_iload hC dX6_open_104 rfl ?_
                  refine r_iconst hC dX6_open_106 rfl ?_
                  refine z_inv3 hM dX6_open_107 vl_RX6_173 rfl rfl rfl (Nat.le_of_ble_eq_true rfl) (Nat.le_of_ble_eq_true rfl) ?_
                  refine m_setT (by omega) (by omega) ⟨fun h => by omega, fun h => by omega⟩ (fun ρ122 a_ρ122 q_ρ122 => ?_)
                  refine r_iincE hC (22) dX6_open_110 rfl rfl (by omega) (by unfold inR; omega) ?_
                  refine r_goto (tgt := 95) hC dX6_open_113 rfl ?_
                  refine r_iload hC dX6_open_95 rfl ?_
                  refine r_bipush hC dX6_open_97 rfl ?_
                  refine r_icmp_ge (tgt := 116) hC dX6_open_99 rfl (fun h123 => ?_) (fun h123 => by omega)
                  refine r_aload_n hC dX6_open_116 rfl ?_
                  refine r_iload_n hC dX6_open_117 rfl ?_
                  refine r_iconst hC dX6_open_118 rfl ?_
                  refine r_iconst hC dX6_open_119 rfl ?_
                  refine z_inv3 hM dX6_open_120 vl_RX6_173 rfl rfl rfl (Nat.le_of_ble_eq_true rfl) (Nat.le_of_ble_eq_true rfl) ?_
                  refine m_setT (by omega) (by omega) ⟨fun h => by omega, fun h => by omega⟩ (fun ρ124 a_ρ124 q_ρ124 => ?_)
                  refine r_aload_n hC dX6_open_123 rfl ?_
                  refine r_iload_n hC dX6_open_124 rfl ?_
                  refine r_iconst hC dX6_open_125 rfl ?_
                  refine r_iload_n hC dX6_open_126 rfl ?_
                  refine z_inv3 hM dX6_open_127 vl_RX6_173 rfl rfl rfl (Nat.le_of_ble_eq_true rfl) (Nat.le_of_ble_eq_true rfl) ?_
                  refine m_setT (by omega) (by omega) ⟨fun h => by omega, fun h => by omega⟩ (fun ρ125 a_ρ125 q_ρ125 => ?_)
                  refine r_aload_n hC dX6_open_130 rfl ?_
                  refine r_iload_n hC dX6_open_131 rfl ?_
                  refine r_iconst hC dX6_open_132 rfl ?_
                  refine r_iload_n hC dX6_open_133 rfl ?_
                  refine z_inv3 hM dX6_open_134 vl_RX6_173 rfl rfl rfl (Nat.le_of_ble_eq_true rfl) (Nat.le_of_ble_eq_true rfl) ?_
                  refine m_setT (by omega) (by omega) ⟨fun h => by omega, fun h => by omega⟩ (fun ρ126 a_ρ126 q_ρ126 => ?_)
                  refine r_aload_n hC dX6_open_137 rfl ?_
                  refine r_iload_n hC dX6_open_138 rfl ?_
                  refine r_iconst hC dX6_open_139 rfl ?_
                  refine r_iload_n hC dX6_open_140 rfl ?_
                  refine r_if_ne (tgt := 148) hC dX6_open_141 rfl (fun h127 => ?_) (fun h127 => by omega)
                  refine r_iload hC dX6_open_148 rfl ?_
                  refine z_inv3 hM dX6_open_150 vl_RX6_173 rfl rfl rfl (Nat.le_of_ble_eq_true rfl) (Nat.le_of_ble_eq_true rfl) ?_
                  refine m_setT (by omega) (by omega) ⟨fun h => by omega, fun h => by omega⟩ (fun ρ128 a_ρ128 q_ρ128 => ?_)
                  refine r_aload_n hC dX6_open_153 rfl ?_
                  refine r_iload_n hC dX6_open_154 rfl ?_
                  refine r_iconst hC dX6_open_155 rfl ?_
                  refine r_iload hC dX6_open_156 rfl ?_
                  refine z_inv3 hM dX6_open_158 vl_RX6_173 rfl rfl rfl (Nat.le_of_ble_eq_true rfl) (Nat.le_of_ble_eq_true rfl) ?_
                  refine m_set (by omega) (by omega) (by omega) ?_
                  refine r_aload_n hC dX6_open_161 rfl ?_
                  refine r_iload_n hC dX6_open_162 rfl ?_
                  refine r_bipush hC dX6_open_163 rfl ?_
                  refine r_iconst hC dX6_open_165 rfl ?_
                  refine z_inv3 hM dX6_open_166 vl_RX6_173 rfl rfl rfl (Nat.le_of_ble_eq_true rfl) (Nat.le_of_ble_eq_true rfl) ?_
                  refine m_set (by omega) (by omega) (by omega) ?_
                  refine r_aload_n hC dX6_open_169 rfl ?_
                  refine r_iload_n hC dX6_open_170 rfl ?_
                  refine z_inv1 hM dX6_open_171 vl_RX6_176 rfl rfl rfl (Nat.le_of_ble_eq_true rfl) (Nat.le_of_ble_eq_true rfl) ?_
                  refine m_endWatches ?_
                  refine r_aload_n hC dX6_open_174 rfl ?_
                  refine r_iload_n hC dX6_open_175 rfl ?_
                  refine z_inv1 hM dX6_open_176 vl_RX6_179 rfl rfl rfl (Nat.le_of_ble_eq_true rfl) (Nat.le_of_ble_eq_true rfl) ?_
                  refine m_endLinks (by omega) (fun ρ129 g_ρ129 t_ρ129 => ?_)
                  refine r_aload_n hC dX6_open_179 rfl ?_
                  refine z_inv0 hM dX6_open_180 vl_RX6_182 rfl rfl rfl (Nat.le_of_ble_eq_true rfl) (Nat.le_of_ble_eq_true rfl) ?_
                  refine m_openLanesX ?_
                  refine y_iret hK rfl dX6_open_183 ?_
                  have gg : Gx (fun c x y => c = 31 ∧ x = 0 ∧ 22 * l ≤ y ∧ y < 22 * l + 22 ∨ c = 45 ∧ x = 0) σ ρ129 := Gx.gx (((((((((((Gx.rf).al a_ρ96 (by first | (simp; done) | omega | (simp; omega))).al a_ρ98 (by first | (simp; done) | omega | (simp; omega))).al a_ρ100 (by first | (simp; done) | omega | (simp; omega))).al a_ρ102 (by first | (simp; done) | omega | (simp; omega))).al a_ρ105 (by first | (simp; done) | omega | (simp; omega))).al a_ρ122 (by first | (simp; done) | omega | (simp; omega))).al a_ρ124 (by first | (simp; done) | omega | (simp; omega))).al a_ρ125 (by first | (simp; done) | omega | (simp; omega))).al a_ρ126 (by first | (simp; done) | omega | (simp; omega))).al a_ρ128 (by first | (simp; done) | omega | (simp; omega))) g_ρ129 (by intro c x y h; omega)
                  have e0 := ((g_ρ129 _ _ _ (by omega)).trans ((a_ρ128 _ _ _ (by omega)).trans ((a_ρ126 _ _ _ (by omega)).trans ((a_ρ125 _ _ _ (by omega)).trans q_ρ124))))
                  have e1 := ((g_ρ129 _ _ _ (by omega)).trans ((a_ρ128 _ _ _ (by omega)).trans ((a_ρ126 _ _ _ (by omega)).trans q_ρ125)))
                  have e2 := ((g_ρ129 _ _ _ (by omega)).trans ((a_ρ128 _ _ _ (by omega)).trans q_ρ126))
                  have e3 := ((g_ρ129 _ _ _ (by omega)).trans q_ρ128)
                  have e5 := ((g_ρ129 _ _ _ (by omega)).trans ((a_ρ128 _ _ _ (by omega)).trans ((a_ρ126 _ _ _ (by omega)).trans ((a_ρ125 _ _ _ (by omega)).trans ((a_ρ124 _ _ _ (by omega)).trans ((a_ρ122 _ _ _ (by omega)).trans q_ρ105))))))
                  have e21 := ((g_ρ129 _ _ _ (by omega)).trans ((a_ρ128 _ _ _ (by omega)).trans ((a_ρ126 _ _ _ (by omega)).trans ((a_ρ125 _ _ _ (by omega)).trans ((a_ρ124 _ _ _ (by omega)).trans q_ρ122)))))
                  have gt : Gx (fun c x y => c = 31 ∧ x = 0 ∧ 22 * l ≤ y ∧ y < 22 * l + 22) σ ρ128 := ((((((((((Gx.rf).al a_ρ96 (by first | (simp; done) | omega | (simp; omega))).al a_ρ98 (by first | (simp; done) | omega | (simp; omega))).al a_ρ100 (by first | (simp; done) | omega | (simp; omega))).al a_ρ102 (by first | (simp; done) | omega | (simp; omega))).al a_ρ105 (by first | (simp; done) | omega | (simp; omega))).al a_ρ122 (by first | (simp; done) | omega | (simp; omega))).al a_ρ124 (by first | (simp; done) | omega | (simp; omega))).al a_ρ125 (by first | (simp; done) | omega | (simp; omega))).al a_ρ126 (by first | (simp; done) | omega | (simp; omega))).al a_ρ128 (by first | (simp; done) | omega | (simp; omega))
                  refine k1 (by omega) _ _ ⟨gg, (hL.lane31 (l := l) (ρ := ρ128) (fun c X y h => gt c X y h) ?_).to (fun c i j hD => g_ρ129 c i j (by rintro ⟨rfl, rfl⟩; exact hD))⟩ (by omega) (by omega) (fun i h0 h3 => by rw [t_ρ129 i h0 h3, gt 45 0 i (by omega)]) rfl
                  rw [← g_ρ129 31 0 (22 * l + 2) (by omega), ← g_ρ129 31 0 (22 * l + 3) (by omega), ← g_ρ129 31 0 (22 * l + 5) (by omega), e2, e3, e5]; unfold Rst; omega
                · refine r_aload_n hC dX6_open_83 rfl ?_
                  refine z_inv0 hM dX6_open_84 vl_RX6_98 rfl rfl rfl (Nat.le_of_ble_eq_true rfl) (Nat.le_of_ble_eq_true rfl) ?_
                  refine m_firstThreeX ?_
                  have bf := fst_bd 35 σ
                  refine r_if_lt (tgt := 92) hC dX6_open_87 rfl (fun h130 => ?_) (fun h130 => ?_)
                  · refine r_iconst hC dX6_open_92 rfl ?_
                    refine r_istore hC dX6_open_93 rfl ?_
                    refine r_iload hC dX6_open_95 rfl ?_
                    refine r_bipush hC dX6_open_97 rfl ?_
                    refine r_icmp_ge (tgt := 116) hC dX6_open_99 rfl (fun h131 => by omega) (fun h131 => ?_)
                    refine r_aload_n hC dX6_open_102 rfl ?_
                    refine r_iload_n hC dX6_open_103 rfl ?_
                    refine r_iload hC dX6_open_104 rfl ?_
                    refine r_iconst hC dX6_open_106 rfl ?_
                    refine z_inv3 hM dX6_open_107 vl_RX6_173 rfl rfl rfl (Nat.le_of_ble_eq_true rfl) (Nat.le_of_ble_eq_true rfl) ?_
                    refine m_setT (by omega) (by omega) ⟨fun h => by omega, fun h => by omega⟩ (fun ρ132 a_ρ132 q_ρ132 => ?_)
                    refine r_iincE hC (1) dX6_open_110 rfl rfl (by omega) (by unfold inR; omega) ?_
                    refine r_goto (tgt := 95) hC dX6_open_113 rfl ?_
                    refine r_iload hC dX6_open_95 rfl ?_
                    refine r_bipush hC dX6_open_97 rfl ?_
                    refine r_icmp_ge (tgt := 116) hC dX6_open_99 rfl (fun h133 => by omega) (fun h133 => ?_)
                    refine r_aload_n hC dX6_open_102 rfl ?_
                    refine r_iload_n hC dX6_open_103 rfl ?_
                    refine r_iload hC dX6_open_104 rfl ?_
                    refine r_iconst hC dX6_open_106 rfl ?_
                    refine z_inv3 hM dX6_open_107 vl_RX6_173 rfl rfl rfl (Nat.le_of_ble_eq_true rfl) (Nat.le_of_ble_eq_true rfl) ?_
                    refine m_setT (by omega) (by omega) ⟨fun h => by omega, fun h => by omega⟩ (fun ρ134 a_ρ134 q_ρ134 => ?_)
                    refine r_iincE hC (2) dX6_open_110 rfl rfl (by omega) (by unfold inR; omega) ?_
                    show K _ [_, _, _, _, _, _, _] _ _
                    refine r_goto (tgt := 95) hC dX6_open_113 rfl ?_
                    refine r_iload hC dX6_open_95 rfl ?_
                    refine r_bipush hC dX6_open_97 rfl ?_
                    refine r_icmp_ge (tgt := 116) hC dX6_open_99 rfl (fun h135 => by omega) (fun h135 => ?_)
                    refine r_aload_n hC dX6_open_102 rfl ?_
                    refine r_iload_n hC dX6_open_103 rfl ?_
                    refine r_iload hC dX6_open_104 rfl ?_
                    refine r_iconst hC dX6_open_106 rfl ?_
                    refine z_inv3 hM dX6_open_107 vl_RX6_173 rfl rfl rfl (Nat.le_of_ble_eq_true rfl) (Nat.le_of_ble_eq_true rfl) ?_
                    refine m_setT (by omega) (by omega) ⟨fun h => by omega, fun h => by omega⟩ (fun ρ136 a_ρ136 q_ρ136 => ?_)
                    refine r_iincE hC (3) dX6_open_110 rfl rfl (by omega) (by unfold inR; omega) ?_
                    refine r_goto (tgt := 95) hC dX6_open_113 rfl ?_
                    refine r_iload hC dX6_open_95 rfl ?_
                    refine r_bipush hC dX6_open_97 rfl ?_
                    refine r_icmp_ge (tgt := 116) hC dX6_open_99 rfl (fun h137 => by omega) (fun h137 => ?_)
                    refine r_aload_n hC dX6_open_102 rfl ?_
                    refine r_iload_n hC dX6_open_103 rfl ?_
                    refine r_iload hC dX6_open_104 rfl ?_
                    refine r_iconst hC dX6_open_106 rfl ?_
                    refine z_inv3 hM dX6_open_107 vl_RX6_173 rfl rfl rfl (Nat.le_of_ble_eq_true rfl) (Nat.le_of_ble_eq_true rfl) ?_
                    refine m_setT (by omega) (by omega) ⟨fun h => by omega, fun h => by omega⟩ (fun ρ138 a_ρ138 q_ρ138 => ?_)
                    refine r_iincE hC (4) dX6_open_110 rfl rfl (by omega) (by unfold inR; omega) ?_
                    refine r_goto (tgt := 95) hC dX6_open_113 rfl ?_
                    refine r_iload hC dX6_open_95 rfl ?_
                    refine r_bipush hC dX6_open_97 rfl ?_
                    refine r_icmp_ge (tgt := 116) hC dX6_open_99 rfl (fun h139 => by omega) (fun h139 => ?_)
                    refine r_aload_n hC dX6_open_102 rfl ?_
                    refine r_iload_n hC dX6_open_103 rfl ?_
                    refine r_iload hC dX6_open_104 rfl ?_
                    refine r_iconst hC dX6_open_106 rfl ?_
                    refine z_inv3 hM dX6_open_107 vl_RX6_173 rfl rfl rfl (Nat.le_of_ble_eq_true rfl) (Nat.le_of_ble_eq_true rfl) ?_
                    refine m_set (by omega) (by omega) (by omega) ?_
                    refine r_iincE hC (5) dX6_open_110 rfl rfl (by omega) (by unfold inR; omega) ?_
                    show K _ [_, _, _, _, _, _, _] _ _
                    refine r_goto (tgt := 95) hC dX6_open_113 rfl ?_
                    refine r_iload hC dX6_open_95 rfl ?_
                    refine r_bipush hC dX6_open_97 rfl ?_
                    refine r_icmp_ge (tgt := 116) hC dX6_open_99 rfl (fun h140 => by omega) (fun h140 => ?_)
                    refine r_aload_n hC dX6_open_102 rfl ?_
                    refine r_iload_n hC dX6_open_103 rfl ?_
                    refine r_iload hC dX6_open_104 rfl ?_
                    refine r_iconst hC dX6_open_106 rfl ?_
                    refine z_inv3 hM dX6_open_107 vl_RX6_173 rfl rfl rfl (Nat.le_of_ble_eq_true rfl) (Nat.le_of_ble_eq_true rfl) ?_
                    refine m_setT (by omega) (by omega) ⟨fun h => by omega, fun h => by omega⟩ (fun ρ141 a_ρ141 q_ρ141 => ?_)
                    refine r_iincE hC (6) dX6_open_110 rfl rfl (by omega) (by unfold inR; omega) ?_
                    refine r_goto (tgt := 95) hC dX6_open_113 rfl ?_
                    refine r_iload hC dX6_open_95 rfl ?_
                    refine r_bipush hC dX6_open_97 rfl ?_
                    refine r_icmp_ge (tgt := 116) hC dX6_open_99 rfl (fun h142 => by omega) (fun h142 => ?_)
                    refine r_aload_n hC dX6_open_102 rfl ?_
                    refine r_iload_n hC dX6_open_103 rfl ?_
                    refine r_iload hC dX6_open_104 rfl ?_
                    refine r_iconst hC dX6_open_106 rfl ?_
                    refine z_inv3 hM dX6_open_107 vl_RX6_173 rfl rfl rfl (Nat.le_of_ble_eq_true rfl) (Nat.le_of_ble_eq_true rfl) ?_
                    refine m_set (by omega) (by omega) (by omega) ?_
                    refine r_iincE hC (7) dX6_open_110 rfl rfl (by omega) (by unfold inR; omega) ?_
                    refine r_goto (tgt := 95) hC dX6_open_113 rfl ?_
                    refine r_iload hC dX6_open_95 rfl ?_
                    refine r_bipush hC dX6_open_97 rfl ?_
                    refine r_icmp_ge (tgt := 116) hC dX6_open_99 rfl (fun h143 => by omega) (fun h143 => ?_)
                    refine r_aload_n hC dX6_open_102 rfl ?_
                    refine r_iload_n hC dX6_open_103 rfl ?_
                    refine r_iload hC dX6_open_104 rfl ?_
                    refine r_iconst hC dX6_open_106 rfl ?_
                    refine z_inv3 hM dX6_open_107 vl_RX6_173 rfl rfl rfl (Nat.le_of_ble_eq_true rfl) (Nat.le_of_ble_eq_true rfl) ?_
                    refine m_set (by omega) (by omega) (by omega) ?_
                    refine r_iincE hC (8) dX6_open_110 rfl rfl (by omega) (by unfold inR; omega) ?_
                    show K _ [_, _, _, _, _, _, _] _ _
                    refine r_goto (tgt := 95) hC dX6_open_113 rfl ?_
                    refine r_iload hC dX6_open_95 rfl ?_
                    refine r_bipush hC dX6_open_97 rfl ?_
                    refine r_icmp_ge (tgt := 116) hC dX6_open_99 rfl (fun h144 => by omega) (fun h144 => ?_)
                    refine r_aload_n hC dX6_open_102 rfl ?_
                    refine r_iload_n hC dX6_open_103 rfl ?_
                    refine r_iload hC dX6_open_104 rfl ?_
                    refine r_iconst hC dX6_open_106 rfl ?_
                    refine z_inv3 hM dX6_open_107 vl_RX6_173 rfl rfl rfl (Nat.le_of_ble_eq_true rfl) (Nat.le_of_ble_eq_true rfl) ?_
                    refine m_set (by omega) (by omega) (by omega) ?_
                    refine r_iincE hC (9) dX6_open_110 rfl rfl (by omega) (by unfold inR; omega) ?_
                    refine r_goto (tgt := 95) hC dX6_open_113 rfl ?_
                    refine r_iload hC dX6_open_95 rfl ?_
                    refine r_bipush hC dX6_open_97 rfl ?_
                    refine r_icmp_ge (tgt := 116) hC dX6_open_99 rfl (fun h145 => by omega) (fun h145 => ?_)
                    refine r_aload_n hC dX6_open_102 rfl ?_
                    refine r_iload_n hC dX6_open_103 rfl ?_
                    refine r_iload hC dX6_open_104 rfl ?_
                    refine r_iconst hC dX6_open_106 rfl ?_
                    refine z_inv3 hM dX6_open_107 vl_RX6_173 rfl rfl rfl (Nat.le_of_ble_eq_true rfl) (Nat.le_of_ble_eq_true rfl) ?_
                    refine m_set (by omega) (by omega) (by omega) ?_
                    refine r_iincE hC (10) dX6_open_110 rfl rfl (by omega) (by unfold inR; omega) ?_
                    refine r_goto (tgt := 95) hC dX6_open_113 rfl ?_
                    refine r_iload hC dX6_open_95 rfl ?_
                    refine r_bipush hC dX6_open_97 rfl ?_
                    refine r_icmp_ge (tgt := 116) hC dX6_open_99 rfl (fun h146 => by omega) (fun h146 => ?_)
                    refine r_aload_n hC dX6_open_102 rfl ?_
                    refine r_iload_n hC dX6_open_103 rfl ?_
                    refine r_iload hC dX6_open_104 rfl ?_
                    refine r_iconst hC dX6_open_106 rfl ?_
                    refine z_inv3 hM dX6_open_107 vl_RX6_173 rfl rfl rfl (Nat.le_of_ble_eq_true rfl) (Nat.le_of_ble_eq_true rfl) ?_
                    refine m_set (by omega) (by omega) (by omega) ?_
                    refine r_iincE hC (11) dX6_open_110 rfl rfl (by omega) (by unfold inR; omega) ?_
                    show K _ [_, _, _, _, _, _, _] _ _
                    refine r_goto (tgt := 95) hC dX6_open_113 rfl ?_
                    refine r_iload hC dX6_open_95 rfl ?_
                    refine r_bipush hC dX6_open_97 rfl ?_
                    refine r_icmp_ge (tgt := 116) hC dX6_open_99 rfl (fun h147 => by omega) (fun h147 => ?_)
                    refine r_aload_n hC dX6_open_102 rfl ?_
                    refine r_iload_n hC dX6_open_103 rfl ?_
                    refine r_iload hC dX6_open_104 rfl ?_
                    refine r_iconst hC dX6_open_106 rfl ?_
                    refine z_inv3 hM dX6_open_107 vl_RX6_173 rfl rfl rfl (Nat.le_of_ble_eq_true rfl) (Nat.le_of_ble_eq_true rfl) ?_
                    refine m_set (by omega) (by omega) (by omega) ?_
                    refine r_iincE hC (12) dX6_open_110 rfl rfl (by omega) (by unfold inR; omega) ?_
                    refine r_goto (tgt := 95) hC dX6_open_113 rfl ?_
                    refine r_iload hC dX6_open_95 rfl ?_
                    refine r_bipush hC dX6_open_97 rfl ?_
                    refine r_icmp_ge (tgt := 116) hC dX6_open_99 rfl (fun h148 => by omega) (fun h148 => ?_)
                    refine r_aload_n hC dX6_open_102 rfl ?_
                    refine r_iload_n hC dX6_open_103 rfl ?_
                    refine r_iload hC dX6_open_104 rfl ?_
                    refine r_iconst hC dX6_open_106 rfl ?_
                    refine z_inv3 hM dX6_open_107 vl_RX6_173 rfl rfl rfl (Nat.le_of_ble_eq_true rfl) (Nat.le_of_ble_eq_true rfl) ?_
                    refine m_set (by omega) (by omega) (by omega) ?_
                    refine r_iincE hC (13) dX6_open_110 rfl rfl (by omega) (by unfold inR; omega) ?_
                    refine r_goto (tgt := 95) hC dX6_open_113 rfl ?_
                    refine r_iload hC dX6_open_95 rfl ?_
                    refine r_bipush hC dX6_open_97 rfl ?_
                    refine r_icmp_ge (tgt := 116) hC dX6_open_99 rfl (fun h149 => by omega) (fun h149 => ?_)
                    refine r_aload_n hC dX6_open_102 rfl ?_
                    refine r_iload_n hC dX6_open_103 rfl ?_
                    refine r_iload hC dX6_open_104 rfl ?_
                    refine r_iconst hC dX6_open_106 rfl ?_
                    refine z_inv3 hM dX6_open_107 vl_RX6_173 rfl rfl rfl (Nat.le_of_ble_eq_true rfl) (Nat.le_of_ble_eq_true rfl) ?_
                    refine m_set (by omega) (by omega) (by omega) ?_
                    refine r_iincE hC (14) dX6_open_110 rfl rfl (by omega) (by unfold inR; omega) ?_
                    show K _ [_, _, _, _, _, _, _] _ _
                    refine r_goto (tgt := 95) hC dX6_open_113 rfl ?_
                    refine r_iload hC dX6_open_95 rfl ?_
                    refine r_bipush hC dX6_open_97 rfl ?_
                    refine r_icmp_ge (tgt := 116) hC dX6_open_99 rfl (fun h150 => by omega) (fun h150 => ?_)
                    refine r_aload_n hC dX6_open_102 rfl ?_
                    refine r_iload_n hC dX6_open_103 rfl ?_
                    refine r_iload hC dX6_open_104 rfl ?_
                    refine r_iconst hC dX6_open_106 rfl ?_
                    refine z_inv3 hM dX6_open_107 vl_RX6_173 rfl rfl rfl (Nat.le_of_ble_eq_true rfl) (Nat.le_of_ble_eq_true rfl) ?_
                    refine m_set (by omega) (by omega) (by omega) ?_
                    refine r_iincE hC (15) dX6_open_110 rfl rfl (by omega) (by unfold inR; omega) ?_
                    refine r_goto (tgt := 95) hC dX6_open_113 rfl ?_
                    refine r_iload hC dX6_open_95 rfl ?_
                    refine r_bipush hC dX6_open_97 rfl ?_
                    refine r_icmp_ge (tgt := 116) hC dX6_open_99 rfl (fun h151 => by omega) (fun h151 => ?_)
                    refine r_aload_n hC dX6_open_102 rfl ?_
                    refine r_iload_n hC dX6_open_103 rfl ?_
                    refine r_iload hC dX6_open_104 rfl ?_
                    refine r_iconst hC dX6_open_106 rfl ?_
                    refine z_inv3 hM dX6_open_107 vl_RX6_173 rfl rfl rfl (Nat.le_of_ble_eq_true rfl) (Nat.le_of_ble_eq_true rfl) ?_
                    refine m_set (by omega) (by omega) (by omega) ?_
                    refine r_iincE hC (16) dX6_open_110 rfl rfl (by omega) (by unfold inR; omega) ?_
                    refine r_goto (tgt := 95) hC dX6_open_113 rfl ?_
                    refine r_iload hC dX6_open_95 rfl ?_
                    refine r_bipush hC dX6_open_97 rfl ?_
                    refine r_icmp_ge (tgt := 116) hC dX6_open_99 rfl (fun h152 => by omega) (fun h152 => ?_)
                    refine r_aload_n hC dX6_open_102 rfl ?_
                    refine r_iload_n hC dX6_open_103 rfl ?_
                    refine r_iload hC dX6_open_104 rfl ?_
                    refine r_iconst hC dX6_open_106 rfl ?_
                    refine z_inv3 hM dX6_open_107 vl_RX6_173 rfl rfl rfl (Nat.le_of_ble_eq_true rfl) (Nat.le_of_ble_eq_true rfl) ?_
                    refine m_set (by omega) (by omega) (by omega) ?_
                    refine r_iincE hC (17) dX6_open_110 rfl rfl (by omega) (by unfold inR; omega) ?_
                    show K _ [_, _, _, _, _, _, _] _ _
                    refine r_goto (tgt := 95) hC dX6_open_113 rfl ?_
                    refine r_iload hC dX6_open_95 rfl ?_
                    refine r_bipush hC dX6_open_97 rfl ?_
                    refine r_icmp_ge (tgt := 116) hC dX6_open_99 rfl (fun h153 => by omega) (fun h153 => ?_)
                    refine r_aload_n hC dX6_open_102 rfl ?_
                    refine r_iload_n hC dX6_open_103 rfl ?_
                    refine r_iload hC dX6_open_104 rfl ?_
                    refine r_iconst hC dX6_open_106 rfl ?_
                    refine z_inv3 hM dX6_open_107 vl_RX6_173 rfl rfl rfl (Nat.le_of_ble_eq_true rfl) (Nat.le_of_ble_eq_true rfl) ?_
                    refine m_set (by omega) (by omega) (by omega) ?_
                    refine r_iincE hC (18) dX6_open_110 rfl rfl (by omega) (by unfold inR; omega) ?_
                    refine r_goto (tgt := 95) hC dX6_open_113 rfl ?_
                    refine r_iload hC dX6_open_95 rfl ?_
                    refine r_bipush hC dX6_open_97 rfl ?_
                    refine r_icmp_ge (tgt := 116) hC dX6_open_99 rfl (fun h154 => by omega) (fun h154 => ?_)
                    refine r_aload_n hC dX6_open_102 rfl ?_
                    refine r_iload_n hC dX6_open_103 rfl ?_
                    refine r_iload hC dX6_open_104 rfl ?_
                    refine r_iconst hC dX6_open_106 rfl ?_
                    refine z_inv3 hM dX6_open_107 vl_RX6_173 rfl rfl rfl (Nat.le_of_ble_eq_true rfl) (Nat.le_of_ble_eq_true rfl) ?_
                    refine m_set (by omega) (by omega) (by omega) ?_
                    refine r_iincE hC (19) dX6_open_110 rfl rfl (by omega) (by unfold inR; omega) ?_
                    refine r_goto (tgt := 95) hC dX6_open_113 rfl ?_
                    refine r_iload hC dX6_open_95 rfl ?_
                    refine r_bipush hC dX6_open_97 rfl ?_
                    refine r_icmp_ge (tgt := 116) hC dX6_open_99 rfl (fun h155 => by omega) (fun h155 => ?_)
                    refine r_aload_n hC dX6_open_102 rfl ?_
                    refine r_iload_n hC dX6_open_103 rfl ?_
                    refine r_iload hC dX6_open_104 rfl ?_
                    refine r_iconst hC dX6_open_106 rfl ?_
                    refine z_inv3 hM dX6_open_107 vl_RX6_173 rfl rfl rfl (Nat.le_of_ble_eq_true rfl) (Nat.le_of_ble_eq_true rfl) ?_
                    refine m_set (by omega) (by omega) (by omega) ?_
                    refine r_iincE hC (20) dX6_open_110 rfl rfl (by omega) (by unfold inR; omega) ?_
                    show K _ [_, _, _, _, _, _, _] _ _
                    refine r_goto (tgt := 95) hC dX6_open_113 rfl ?_
                    refine r_iload hC dX6_open_95 rfl ?_
                    refine r_bipush hC dX6_open_97 rfl ?_
                    refine r_icmp_ge (tgt := 116) hC dX6_open_99 rfl (fun h156 => by omega) (fun h156 => ?_)
                    refine r_aload_n hC dX6_open_102 rfl ?_
                    refine r_iload_n hC dX6_open_103 rfl ?_
                    refine r_iload hC dX6_open_104 rfl ?_
                    refine r_iconst hC dX6_open_106 rfl ?_
                    refine z_inv3 hM dX6_open_107 vl_RX6_173 rfl rfl rfl (Nat.le_of_ble_eq_true rfl) (Nat.le_of_ble_eq_true rfl) ?_
                    refine m_set (by omega) (by omega) (by omega) ?_
                    refine r_iincE hC (21) dX6_open_110 rfl rfl (by omega) (by unfold inR; omega) ?_
                    refine r_goto (tgt := 95) hC dX6_open_113 rfl ?_
                    refine r_iload hC dX6_open_95 rfl ?_
                    refine r_bipush hC dX6_open_97 rfl ?_
                    refine r_icmp_ge (tgt := 116) hC dX6_open_99 rfl (fun h157 => by omega) (fun h157 => ?_)
                    refine r_aload_n hC dX6_open_102 rfl ?_
                    refine r_iload_n hC dX6_open_103 rfl ?_
                    refine r_iload hC dX6_open_104 rfl ?_
                    refine r_iconst hC dX6_open_106 rfl ?_
                    refine z_inv3 hM dX6_open_107 vl_RX6_173 rfl rfl rfl (Nat.le_of_ble_eq_true rfl) (Nat.le_of_ble_eq_true rfl) ?_
                    refine m_setT (by omega) (by omega) ⟨fun h => by omega, fun h => by omega⟩ (fun ρ158 a_ρ158 q_ρ158 => ?_)
                    refine r_iincE hC (22) dX6_open_110 rfl rfl (by omega) (by unfold inR; omega) ?_
                    refine r_goto (tgt := 95) hC dX6_open_113 rfl ?_
                    refine r_iload hC dX6_open_95 rfl ?_
                    refine r_bipush hC dX6_open_97 rfl ?_
                    refine r_icmp_ge (tgt := 116) hC dX6_open_99 rfl (fun h159 => ?_) (fun h159 => by omega)
                    refine r_aload_n hC dX6_open_116 rfl ?_
                    refine r_iload_n hC dX6_open_117 rfl ?_
                    refine r_iconst hC dX6_open_118 rfl ?_
                    refine r_iconst hC dX6_open_119 rfl ?_
                    refine z_inv3 hM dX6_open_120 vl_RX6_173 rfl rfl rfl (Nat.le_of_ble_eq_true rfl) (Nat.le_of_ble_eq_true rfl) ?_
                    refine m_setT (by omega) (by omega) ⟨fun h => by omega, fun h => by omega⟩ (fun ρ160 a_ρ160 q_ρ160 => ?_)
                    refine r_aload_n hC dX6_open_123 rfl ?_
                    refine r_iload_n hC dX6_open_124 rfl ?_
                    refine r_iconst hC dX6_open_125 rfl ?_
                    refine r_iload_n hC dX6_open_126 rfl ?_
                    refine z_inv3 hM dX6_open_127 vl_RX6_173 rfl rfl rfl (Nat.le_of_ble_eq_true rfl) (Nat.le_of_ble_eq_true rfl) ?_
                    refine m_setT (by omega) (by omega) ⟨fun h => by omega, fun h => by omega⟩ (fun ρ161 a_ρ161 q_ρ161 => ?_)
                    refine r_aload_n hC dX6_open_130 rfl ?_
                    refine r_iload_n hC dX6_open_131 rfl ?_
                    refine r_iconst hC dX6_open_132 rfl ?_
                    refine r_iload_n hC dX6_open_133 rfl ?_
                    refine z_inv3 hM dX6_open_134 vl_RX6_173 rfl rfl rfl (Nat.le_of_ble_eq_true rfl) (Nat.le_of_ble_eq_true rfl) ?_
                    refine m_setT (by omega) (by omega) ⟨fun h => by omega, fun h => by omega⟩ (fun ρ162 a_ρ162 q_ρ162 => ?_)
                    refine r_aload_n hC dX6_open_137 rfl ?_
                    refine r_iload_n hC dX6_open_138 rfl ?_
                    refine r_iconst hC dX6_open_139 rfl ?_
                    refine r_iload_n hC dX6_open_140 rfl ?_
                    refine r_if_ne (tgt := 148) hC dX6_open_141 rfl (fun h163 => ?_) (fun h163 => by omega)
                    refine r_iload hC dX6_open_148 rfl ?_
                    refine z_inv3 hM dX6_open_150 vl_RX6_173 rfl rfl rfl (Nat.le_of_ble_eq_true rfl) (Nat.le_of_ble_eq_true rfl) ?_
                    refine m_setT (by omega) (by omega) ⟨fun h => by omega, fun h => by omega⟩ (fun ρ164 a_ρ164 q_ρ164 => ?_)
                    refine r_aload_n hC dX6_open_153 rfl ?_
                    refine r_iload_n hC dX6_open_154 rfl ?_
                    refine r_iconst hC dX6_open_155 rfl ?_
                    refine r_iload hC dX6_open_156 rfl ?_
                    refine z_inv3 hM dX6_open_158 vl_RX6_173 rfl rfl rfl (Nat.le_of_ble_eq_true rfl) (Nat.le_of_ble_eq_true rfl) ?_
                    refine m_set (by omega) (by omega) (by omega) ?_
                    refine r_aload_n hC dX6_open_161 rfl ?_
                    refine r_iload_n hC dX6_open_162 rfl ?_
                    refine r_bipush hC dX6_open_163 rfl ?_
                    refine r_iconst hC dX6_open_165 rfl ?_
                    refine z_inv3 hM dX6_open_166 vl_RX6_173 rfl rfl rfl (Nat.le_of_ble_eq_true rfl) (Nat.le_of_ble_eq_true rfl) ?_
                    refine m_set (by omega) (by omega) (by omega) ?_
                    refine r_aload_n hC dX6_open_169 rfl ?_
                    refine r_iload_n hC dX6_open_170 rfl ?_
                    refine z_inv1 hM dX6_open_171 vl_RX6_176 rfl rfl rfl (Nat.le_of_ble_eq_true rfl) (Nat.le_of_ble_eq_true rfl) ?_
                    refine m_endWatches ?_
                    refine r_aload_n hC dX6_open_174 rfl ?_
                    refine r_iload_n hC dX6_open_175 rfl ?_
                    refine z_inv1 hM dX6_open_176 vl_RX6_179 rfl rfl rfl (Nat.le_of_ble_eq_true rfl) (Nat.le_of_ble_eq_true rfl) ?_
                    refine m_endLinks (by omega) (fun ρ165 g_ρ165 t_ρ165 => ?_)
                    refine r_aload_n hC dX6_open_179 rfl ?_
                    refine z_inv0 hM dX6_open_180 vl_RX6_182 rfl rfl rfl (Nat.le_of_ble_eq_true rfl) (Nat.le_of_ble_eq_true rfl) ?_
                    refine m_openLanesX ?_
                    refine y_iret hK rfl dX6_open_183 ?_
                    have gg : Gx (fun c x y => c = 31 ∧ x = 0 ∧ 22 * l ≤ y ∧ y < 22 * l + 22 ∨ c = 45 ∧ x = 0) σ ρ165 := Gx.gx (((((((((((Gx.rf).al a_ρ132 (by first | (simp; done) | omega | (simp; omega))).al a_ρ134 (by first | (simp; done) | omega | (simp; omega))).al a_ρ136 (by first | (simp; done) | omega | (simp; omega))).al a_ρ138 (by first | (simp; done) | omega | (simp; omega))).al a_ρ141 (by first | (simp; done) | omega | (simp; omega))).al a_ρ158 (by first | (simp; done) | omega | (simp; omega))).al a_ρ160 (by first | (simp; done) | omega | (simp; omega))).al a_ρ161 (by first | (simp; done) | omega | (simp; omega))).al a_ρ162 (by first | (simp; done) | omega | (simp; omega))).al a_ρ164 (by first | (simp; done) | omega | (simp; omega))) g_ρ165 (by intro c x y h; omega)
                    have e0 := ((g_ρ165 _ _ _ (by omega)).trans ((a_ρ164 _ _ _ (by omega)).trans ((a_ρ162 _ _ _ (by omega)).trans ((a_ρ161 _ _ _ (by omega)).trans q_ρ160))))
                    have e1 := ((g_ρ165 _ _ _ (by omega)).trans ((a_ρ164 _ _ _ (by omega)).trans ((a_ρ162 _ _ _ (by omega)).trans q_ρ161)))
                    have e2 := ((g_ρ165 _ _ _ (by omega)).trans ((a_ρ164 _ _ _ (by omega)).trans q_ρ162))
                    have e3 := ((g_ρ165 _ _ _ (by omega)).trans q_ρ164)
                    have e5 := ((g_ρ165 _ _ _ (by omega)).trans ((a_ρ164 _ _ _ (by omega)).trans ((a_ρ162 _ _ _ (by omega)).trans ((a_ρ161 _ _ _ (by omega)).trans ((a_ρ160 _ _ _ (by omega)).trans ((a_ρ158 _ _ _ (by omega)).trans q_ρ141))))))
                    have e21 := ((g_ρ165 _ _ _ (by omega)).trans ((a_ρ164 _ _ _ (by omega)).trans ((a_ρ162 _ _ _ (by omega)).trans ((a_ρ161 _ _ _ (by omega)).trans ((a_ρ160 _ _ _ (by omega)).trans q_ρ158)))))
                    have gt : Gx (fun c x y => c = 31 ∧ x = 0 ∧ 22 * l ≤ y ∧ y < 22 * l + 22) σ ρ164 := ((((((((((Gx.rf).al a_ρ132 (by first | (simp; done) | omega | (simp; omega))).al a_ρ134 (by first | (simp; done) | omega | (simp; omega))).al a_ρ136 (by first | (simp; done) | omega | (simp; omega))).al a_ρ138 (by first | (simp; done) | omega | (simp; omega))).al a_ρ141 (by first | (simp; done) | omega | (simp; omega))).al a_ρ158 (by first | (simp; done) | omega | (simp; omega))).al a_ρ160 (by first | (simp; done) | omega | (simp; omega))).al a_ρ161 (by first | (simp; done) | omega | (simp; omega))).al a_ρ162 (by first | (simp; done) | omega | (simp; omega))).al a_ρ164 (by first | (simp; done) | omega | (simp; omega))
                    refine k1 (by omega) _ _ ⟨gg, (hL.lane31 (l := l) (ρ := ρ164) (fun c X y h => gt c X y h) ?_).to (fun c i j hD => g_ρ165 c i j (by rintro ⟨rfl, rfl⟩; exact hD))⟩ (by omega) (by omega) (fun i h0 h3 => by rw [t_ρ165 i h0 h3, gt 45 0 i (by omega)]) rfl
                    rw [← g_ρ165 31 0 (22 * l + 2) (by omega), ← g_ρ165 31 0 (22 * l + 3) (by omega), ← g_ρ165 31 0 (22 * l + 5) (by omega), e2, e3, e5]; unfold Rst; omega
                  · refine r_iconst hC dX6_open_90 rfl ?_
                    refine y_iret hK rfl dX6_open_91 ?_
                    exact k0 (by omega)
              · refine r_if_ne (tgt := 77) hC dX6_open_72 rfl (fun h166 => by omega) (fun h166 => ?_)
                refine r_iconst hC dX6_open_75 rfl ?_
                refine y_iret hK rfl dX6_open_76 ?_
                exact k0 (by omega)
          · refine r_iload hC dX6_open_47 rfl ?_
            refine r_iconst hC dX6_open_49 rfl ?_
            refine r_bipush hC dX6_open_50 rfl ?_
            refine z_ins3 hM dX6_open_52 tl_RX6_76 rfl (Nat.le_of_ble_eq_true rfl) (Nat.le_of_ble_eq_true rfl) ?_
            refine m_isIn (fun h168 => ?_) (fun h168 => ?_)
            · refine r_if_eq (tgt := 75) hC dX6_open_55 rfl (fun h169 => by omega) (fun h169 => ?_)
              refine r_iload_n hC dX6_open_58 rfl ?_
              refine r_iconst hC dX6_open_59 rfl ?_
              refine r_icmp_ne (tgt := 77) hC dX6_open_60 rfl (fun h170 => ?_) (fun h170 => by omega)
              refine r_iload_n hC dX6_open_77 rfl ?_
              refine r_bipush hC dX6_open_78 rfl ?_
              refine r_icmp_ne (tgt := 92) hC dX6_open_80 rfl (fun h171 => ?_) (fun h171 => ?_)
              · refine r_iconst hC dX6_open_92 rfl ?_
                refine r_istore hC dX6_open_93 rfl ?_
                refine r_iload hC dX6_open_95 rfl ?_
                refine r_bipush hC dX6_open_97 rfl ?_
                refine r_icmp_ge (tgt := 116) hC dX6_open_99 rfl (fun h172 => by omega) (fun h172 => ?_)
                refine r_aload_n hC dX6_open_102 rfl ?_
                refine r_iload_n hC dX6_open_103 rfl ?_
                refine r_iload hC dX6_open_104 rfl ?_
                refine r_iconst hC dX6_open_106 rfl ?_
                refine z_inv3 hM dX6_open_107 vl_RX6_173 rfl rfl rfl (Nat.le_of_ble_eq_true rfl) (Nat.le_of_ble_eq_true rfl) ?_
                refine m_setT (by omega) (by omega) ⟨fun h => by omega, fun h => by omega⟩ (fun ρ173 a_ρ173 q_ρ173 => ?_)
                refine r_iincE hC (1) dX6_open_110 rfl rfl (by omega) (by unfold inR; omega) ?_
                refine r_goto (tgt := 95) hC dX6_open_113 rfl ?_
                refine r_iload hC dX6_open_95 rfl ?_
                refine r_bipush hC dX6_open_97 rfl ?_
                refine r_icmp_ge (tgt := 116) hC dX6_open_99 rfl (fun h174 => by omega) (fun h174 => ?_)
                refine r_aload_n hC dX6_open_102 rfl ?_
                refine r_iload_n hC dX6_open_103 rfl ?_
                refine r_iload hC dX6_open_104 rfl ?_
                refine r_iconst hC dX6_open_106 rfl ?_
                refine z_inv3 hM dX6_open_107 vl_RX6_173 rfl rfl rfl (Nat.le_of_ble_eq_true rfl) (Nat.le_of_ble_eq_true rfl) ?_
                refine m_setT (by omega) (by omega) ⟨fun h => by omega, fun h => by omega⟩ (fun ρ175 a_ρ175 q_ρ175 => ?_)
                refine r_iincE hC (2) dX6_open_110 rfl rfl (by omega) (by unfold inR; omega) ?_
                show K _ [_, _, _, _, _, _, _] _ _
                refine r_goto (tgt := 95) hC dX6_open_113 rfl ?_
                refine r_iload hC dX6_open_95 rfl ?_
                refine r_bipush hC dX6_open_97 rfl ?_
                refine r_icmp_ge (tgt := 116) hC dX6_open_99 rfl (fun h176 => by omega) (fun h176 => ?_)
                refine r_aload_n hC dX6_open_102 rfl ?_
                refine r_iload_n hC dX6_open_103 rfl ?_
                refine r_iload hC dX6_open_104 rfl ?_
                refine r_iconst hC dX6_open_106 rfl ?_
                refine z_inv3 hM dX6_open_107 vl_RX6_173 rfl rfl rfl (Nat.le_of_ble_eq_true rfl) (Nat.le_of_ble_eq_true rfl) ?_
                refine m_setT (by omega) (by omega) ⟨fun h => by omega, fun h => by omega⟩ (fun ρ177 a_ρ177 q_ρ177 => ?_)
                refine r_iincE hC (3) dX6_open_110 rfl rfl (by omega) (by unfold inR; omega) ?_
                refine r_goto (tgt := 95) hC dX6_open_113 rfl ?_
                refine r_iload hC dX6_open_95 rfl ?_
                refine r_bipush hC dX6_open_97 rfl ?_
                refine r_icmp_ge (tgt := 116) hC dX6_open_99 rfl (fun h178 => by omega) (fun h178 => ?_)
                refine r_aload_n hC dX6_open_102 rfl ?_
                refine r_iload_n hC dX6_open_103 rfl ?_
                refine r_iload hC dX6_open_104 rfl ?_
                refine r_iconst hC dX6_open_106 rfl ?_
                refine z_inv3 hM dX6_open_107 vl_RX6_173 rfl rfl rfl (Nat.le_of_ble_eq_true rfl) (Nat.le_of_ble_eq_true rfl) ?_
                refine m_setT (by omega) (by omega) ⟨fun h => by omega, fun h => by omega⟩ (fun ρ179 a_ρ179 q_ρ179 => ?_)
                refine r_iincE hC (4) dX6_open_110 rfl rfl (by omega) (by unfold inR; omega) ?_
                refine r_goto (tgt := 95) hC dX6_open_113 rfl ?_
                refine r_iload hC dX6_open_95 rfl ?_
                refine r_bipush hC dX6_open_97 rfl ?_
                refine r_icmp_ge (tgt := 116) hC dX6_open_99 rfl (fun h180 => by omega) (fun h180 => ?_)
                refine r_aload_n hC dX6_open_102 rfl ?_
                refine r_iload_n hC dX6_open_103 rfl ?_
                refine r_iload hC dX6_open_104 rfl ?_
                refine r_iconst hC dX6_open_106 rfl ?_
                refine z_inv3 hM dX6_open_107 vl_RX6_173 rfl rfl rfl (Nat.le_of_ble_eq_true rfl) (Nat.le_of_ble_eq_true rfl) ?_
                refine m_set (by omega) (by omega) (by omega) ?_
                refine r_iincE hC (5) dX6_open_110 rfl rfl (by omega) (by unfold inR; omega) ?_
                show K _ [_, _, _, _, _, _, _] _ _
                refine r_goto (tgt := 95) hC dX6_open_113 rfl ?_
                refine r_iload hC dX6_open_95 rfl ?_
                refine r_bipush hC dX6_open_97 rfl ?_
                refine r_icmp_ge (tgt := 116) hC dX6_open_99 rfl (fun h181 => by omega) (fun h181 => ?_)
                refine r_aload_n hC dX6_open_102 rfl ?_
                refine r_iload_n hC dX6_open_103 rfl ?_
                refine r_iload hC dX6_open_104 rfl ?_
                refine r_iconst hC dX6_open_106 rfl ?_
                refine z_inv3 hM dX6_open_107 vl_RX6_173 rfl rfl rfl (Nat.le_of_ble_eq_true rfl) (Nat.le_of_ble_eq_true rfl) ?_
                refine m_setT (by omega) (by omega) ⟨fun h => by omega, fun h => by omega⟩ (fun ρ182 a_ρ182 q_ρ182 => ?_)
                refine r_iincE hC (6) dX6_open_110 rfl rfl (by omega) (by unfold inR; omega) ?_
                refine r_goto (tgt := 95) hC dX6_open_113 rfl ?_
                refine r_iload hC dX6_open_95 rfl ?_
                refine r_bipush hC dX6_open_97 rfl ?_
                refine r_icmp_ge (tgt := 116) hC dX6_open_99 rfl (fun h183 => by omega) (fun h183 => ?_)
                refine r_aload_n hC dX6_open_102 rfl ?_
                refine r_iload_n hC dX6_open_103 rfl ?_
                refine r_iload hC dX6_open_104 rfl ?_
                refine r_iconst hC dX6_open_106 rfl ?_
                refine z_inv3 hM dX6_open_107 vl_RX6_173 rfl rfl rfl (Nat.le_of_ble_eq_true rfl) (Nat.le_of_ble_eq_true rfl) ?_
                refine m_set (by omega) (by omega) (by omega) ?_
                refine r_iincE hC (7) dX6_open_110 rfl rfl (by omega) (by unfold inR; omega) ?_
                refine r_goto (tgt := 95) hC dX6_open_113 rfl ?_
                refine r_iload hC dX6_open_95 rfl ?_
                refine r_bipush hC dX6_open_97 rfl ?_
                refine r_icmp_ge (tgt := 116) hC dX6_open_99 rfl (fun h184 => by omega) (fun h184 => ?_)
                refine r_aload_n hC dX6_open_102 rfl ?_
                refine r_iload_n hC dX6_open_103 rfl ?_
                refine r_iload hC dX6_open_104 rfl ?_
                refine r_iconst hC dX6_open_106 rfl ?_
                refine z_inv3 hM dX6_open_107 vl_RX6_173 rfl rfl rfl (Nat.le_of_ble_eq_true rfl) (Nat.le_of_ble_eq_true rfl) ?_
                refine m_set (by omega) (by omega) (by omega) ?_
                refine r_iincE hC (8) dX6_open_110 rfl rfl (by omega) (by unfold inR; omega) ?_
                show K _ [_, _, _, _, _, _, _] _ _
                refine r_goto (tgt := 95) hC dX6_open_113 rfl ?_
                refine r_iload hC dX6_open_95 rfl ?_
                refine r_bipush hC dX6_open_97 rfl ?_
                refine r_icmp_ge (tgt := 116) hC dX6_open_99 rfl (fun h185 => by omega) (fun h185 => ?_)
                refine r_aload_n hC dX6_open_102 rfl ?_
                refine r_iload_n hC dX6_open_103 rfl ?_
                refine r_iload hC dX6_open_104 rfl ?_
                refine r_iconst hC dX6_open_106 rfl ?_
                refine z_inv3 hM dX6_open_107 vl_RX6_173 rfl rfl rfl (Nat.le_of_ble_eq_true rfl) (Nat.le_of_ble_eq_true rfl) ?_
                refine m_set (by omega) (by omega) (by omega) ?_
                refine r_iincE hC (9) dX6_open_110 rfl rfl (by omega) (by unfold inR; omega) ?_
                refine r_goto (tgt := 95) hC dX6_open_113 rfl ?_
                refine r_iload hC dX6_open_95 rfl ?_
                refine r_bipush hC dX6_open_97 rfl ?_
                refine r_icmp_ge (tgt := 116) hC dX6_open_99 rfl (fun h186 => by omega) (fun h186 => ?_)
                refine r_aload_n hC dX6_open_102 rfl ?_
                refine r_iload_n hC dX6_open_103 rfl ?_
                refine r_iload hC dX6_open_104 rfl ?_
                refine r_iconst hC dX6_open_106 rfl ?_
                refine z_inv3 hM dX6_open_107 vl_RX6_173 rfl rfl rfl (Nat.le_of_ble_eq_true rfl) (Nat.le_of_ble_eq_true rfl) ?_
                refine m_set (by omega) (by omega) (by omega) ?_
                refine r_iincE hC (10) dX6_open_110 rfl rfl (by omega) (by unfold inR; omega) ?_
                refine r_goto (tgt := 95) hC dX6_open_113 rfl ?_
                refine r_iload hC dX6_open_95 rfl ?_
                refine r_bipush hC dX6_open_97 rfl ?_
                refine r_icmp_ge (tgt := 116) hC dX6_open_99 rfl (fun h187 => by omega) (fun h187 => ?_)
                refine r_aload_n hC dX6_open_102 rfl ?_
                refine r_iload_n hC dX6_open_103 rfl ?_
                refine r_iload hC dX6_open_104 rfl ?_
                refine r_iconst hC dX6_open_106 rfl ?_
                refine z_inv3 hM dX6_open_107 vl_RX6_173 rfl rfl rfl (Nat.le_of_ble_eq_true rfl) (Nat.le_of_ble_eq_true rfl) ?_
                refine m_set (by omega) (by omega) (by omega) ?_
                refine r_iincE hC (11) dX6_open_110 rfl rfl (by omega) (by unfold inR; omega) ?_
                show K _ [_, _, _, _, _, _, _] _ _
                refine r_goto (tgt := 95) hC dX6_open_113 rfl ?_
                refine r_iload hC dX6_open_95 rfl ?_
                refine r_bipush hC dX6_open_97 rfl ?_
                refine r_icmp_ge (tgt := 116) hC dX6_open_99 rfl (fun h188 => by omega) (fun h188 => ?_)
                refine r_aload_n hC dX6_open_102 rfl ?_
                refine r_iload_n hC dX6_open_103 rfl ?_
                refine r_iload hC dX6_open_104 rfl ?_
                refine r_iconst hC dX6_open_106 rfl ?_
                refine z_inv3 hM dX6_open_107 vl_RX6_173 rfl rfl rfl (Nat.le_of_ble_eq_true rfl) (Nat.le_of_ble_eq_true rfl) ?_
                refine m_set (by omega) (by omega) (by omega) ?_
                refine r_iincE hC (12) dX6_open_110 rfl rfl (by omega) (by unfold inR; omega) ?_
                refine r_goto (tgt := 95) hC dX6_open_113 rfl ?_
                refine r_iload hC dX6_open_95 rfl ?_
                refine r_bipush hC dX6_open_97 rfl ?_
                refine r_icmp_ge (tgt := 116) hC dX6_open_99 rfl (fun h189 => by omega) (fun h189 => ?_)
                refine r_aload_n hC dX6_open_102 rfl ?_
                refine r_iload_n hC dX6_open_103 rfl ?_
                refine r_iload hC dX6_open_104 rfl ?_
                refine r_iconst hC dX6_open_106 rfl ?_
                refine z_inv3 hM dX6_open_107 vl_RX6_173 rfl rfl rfl (Nat.le_of_ble_eq_true rfl) (Nat.le_of_ble_eq_true rfl) ?_
                refine m_set (by omega) (by omega) (by omega) ?_
                refine r_iincE hC (13) dX6_open_110 rfl rfl (by omega) (by unfold inR; omega) ?_
                refine r_goto (tgt := 95) hC dX6_open_113 rfl ?_
                refine r_iload hC dX6_open_95 rfl ?_
                refine r_bipush hC dX6_open_97 rfl ?_
                refine r_icmp_ge (tgt := 116) hC dX6_open_99 rfl (fun h190 => by omega) (fun h190 => ?_)
                refine r_aload_n hC dX6_open_102 rfl ?_
                refine r_iload_n hC dX6_open_103 rfl ?_
                refine r_iload hC dX6_open_104 rfl ?_
                refine r_iconst hC dX6_open_106 rfl ?_
                refine z_inv3 hM dX6_open_107 vl_RX6_173 rfl rfl rfl (Nat.le_of_ble_eq_true rfl) (Nat.le_of_ble_eq_true rfl) ?_
                refine m_set (by omega) (by omega) (by omega) ?_
                refine r_iincE hC (14) dX6_open_110 rfl rfl (by omega) (by unfold inR; omega) ?_
                show K _ [_, _, _, _, _, _, _] _ _
                refine r_goto (tgt := 95) hC dX6_open_113 rfl ?_
                refine r_iload hC dX6_open_95 rfl ?_
                refine r_bipush hC dX6_open_97 rfl ?_
                refine r_icmp_ge (tgt := 116) hC dX6_open_99 rfl (fun h191 => by omega) (fun h191 => ?_)
                refine r_aload_n hC dX6_open_102 rfl ?_
                refine r_iload_n hC dX6_open_103 rfl ?_
                refine r_iload hC dX6_open_104 rfl ?_
                refine r_iconst hC dX6_open_106 rfl ?_
                refine z_inv3 hM dX6_open_107 vl_RX6_173 rfl rfl rfl (Nat.le_of_ble_eq_true rfl) (Nat.le_of_ble_eq_true rfl) ?_
                refine m_set (by omega) (by omega) (by omega) ?_
                refine r_iincE hC (15) dX6_open_110 rfl rfl (by omega) (by unfold inR; omega) ?_
                refine r_goto (tgt := 95) hC dX6_open_113 rfl ?_
                refine r_iload hC dX6_open_95 rfl ?_
                refine r_bipush hC dX6_open_97 rfl ?_
                refine r_icmp_ge (tgt := 116) hC dX6_open_99 rfl (fun h192 => by omega) (fun h192 => ?_)
                refine r_aload_n hC dX6_open_102 rfl ?_
                refine r_iload_n hC dX6_open_103 rfl ?_
                refine r_iload hC dX6_open_104 rfl ?_
                refine r_iconst hC dX6_open_106 rfl ?_
                refine z_inv3 hM dX6_open_107 vl_RX6_173 rfl rfl rfl (Nat.le_of_ble_eq_true rfl) (Nat.le_of_ble_eq_true rfl) ?_
                refine m_set (by omega) (by omega) (by omega) ?_
                refine r_iincE hC (16) dX6_open_110 rfl rfl (by omega) (by unfold inR; omega) ?_
                refine r_goto (tgt := 95) hC dX6_open_113 rfl ?_
                refine r_iload hC dX6_open_95 rfl ?_
                refine r_bipush hC dX6_open_97 rfl ?_
                refine r_icmp_ge (tgt := 116) hC dX6_open_99 rfl (fun h193 => by omega) (fun h193 => ?_)
                refine r_aload_n hC dX6_open_102 rfl ?_
                refine r_iload_n hC dX6_open_103 rfl ?_
                refine r_iload hC dX6_open_104 rfl ?_
                refine r_iconst hC dX6_open_106 rfl ?_
                refine z_inv3 hM dX6_open_107 vl_RX6_173 rfl rfl rfl (Nat.le_of_ble_eq_true rfl) (Nat.le_of_ble_eq_true rfl) ?_
                refine m_set (by omega) (by omega) (by omega) ?_
                refine r_iincE hC (17) dX6_open_110 rfl rfl (by omega) (by unfold inR; omega) ?_
                show K _ [_, _, _, _, _, _, _] _ _
                refine r_goto (tgt := 95) hC dX6_open_113 rfl ?_
                refine r_iload hC dX6_open_95 rfl ?_
                refine r_bipush hC dX6_open_97 rfl ?_
                refine r_icmp_ge (tgt := 116) hC dX6_open_99 rfl (fun h194 => by omega) (fun h194 => ?_)
                refine r_aload_n hC dX6_open_102 rfl ?_
                refine r_iload_n hC dX6_open_103 rfl ?_
                refine r_iload hC dX6_open_104 rfl ?_
                refine r_iconst hC dX6_open_106 rfl ?_
                refine z_inv3 hM dX6_open_107 vl_RX6_173 rfl rfl rfl (Nat.le_of_ble_eq_true rfl) (Nat.le_of_ble_eq_true rfl) ?_
                refine m_set (by omega) (by omega) (by omega) ?_
                refine r_iincE hC (18) dX6_open_110 rfl rfl (by omega) (by unfold inR; omega) ?_
                refine r_goto (tgt := 95) hC dX6_open_113 rfl ?_
                refine r_iload hC dX6_open_95 rfl ?_
                refine r_bipush hC dX6_open_97 rfl ?_
                refine r_icmp_ge (tgt := 116) hC dX6_open_99 rfl (fun h195 => by omega) (fun h195 => ?_)
                refine r_aload_n hC dX6_open_102 rfl ?_
                refine r_iload_n hC dX6_open_103 rfl ?_
                refine r_iload hC dX6_open_104 rfl ?_
                refine r_iconst hC dX6_open_106 rfl ?_
                refine z_inv3 hM dX6_open_107 vl_RX6_173 rfl rfl rfl (Nat.le_of_ble_eq_true rfl) (Nat.le_of_ble_eq_true rfl) ?_
                refine m_set (by omega) (by omega) (by omega) ?_
                refine r_iincE hC (19) dX6_open_110 rfl rfl (by omega) (by unfold inR; omega) ?_
                refine r_goto (tgt := 95) hC dX6_open_113 rfl ?_
                refine r_iload hC dX6_open_95 rfl ?_
                refine r_bipush hC dX6_open_97 rfl ?_
                refine r_icmp_ge (tgt := 116) hC dX6_open_99 rfl (fun h196 => by omega) (fun h196 => ?_)
                refine r_aload_n hC dX6_open_102 rfl ?_
                refine r_iload_n hC dX6_open_103 rfl ?_
                refine r_iload hC dX6_open_104 rfl ?_
                refine r_iconst hC dX6_open_106 rfl ?_
                refine z_inv3 hM dX6_open_107 vl_RX6_173 rfl rfl rfl (Nat.le_of_ble_eq_true rfl) (Nat.le_of_ble_eq_true rfl) ?_
                refine m_set (by omega) (by omega) (by omega) ?_
                refine r_iincE hC (20) dX6_open_110 rfl rfl (by omega) (by unfold inR; omega) ?_
                show K _ [_, _, _, _, _, _, _] _ _
                refine r_goto (tgt := 95) hC dX6_open_113 rfl ?_
                refine r_iload hC dX6_open_95 rfl ?_
                refine r_bipush hC dX6_open_97 rfl ?_
                refine r_icmp_ge (tgt := 116) hC dX6_open_99 rfl (fun h197 => by omega) (fun h197 => ?_)
                refine r_aload_n hC dX6_open_102 rfl ?_
                refine r_iload_n hC dX6_open_103 rfl ?_
                refine r_iload hC dX6_open_104 rfl ?_
                refine r_iconst hC dX6_open_106 rfl ?_
                refine z_inv3 hM dX6_open_107 vl_RX6_173 rfl rfl rfl (Nat.le_of_ble_eq_true rfl) (Nat.le_of_ble_eq_true rfl) ?_
                refine m_set (by omega) (by omega) (by omega) ?_
                refine r_iincE hC (21) dX6_open_110 rfl rfl (by omega) (by unfold inR; omega) ?_
                refine r_goto (tgt := 95) hC dX6_open_113 rfl ?_
                refine r_iload hC dX6_open_95 rfl ?_
                refine r_bipush hC dX6_open_97 rfl ?_
                refine r_icmp_ge (tgt := 116) hC dX6_open_99 rfl (fun h198 => by omega) (fun h198 => ?_)
                refine r_aload_n hC dX6_open_102 rfl ?_
                refine r_iload_n hC dX6_open_103 rfl ?_
                refine r_iload hC dX6_open_104 rfl ?_
                refine r_iconst hC dX6_open_106 rfl ?_
                refine z_inv3 hM dX6_open_107 vl_RX6_173 rfl rfl rfl (Nat.le_of_ble_eq_true rfl) (Nat.le_of_ble_eq_true rfl) ?_
                refine m_setT (by omega) (by omega) ⟨fun h => by omega, fun h => by omega⟩ (fun ρ199 a_ρ199 q_ρ199 => ?_)
                refine r_iincE hC (22) dX6_open_110 rfl rfl (by omega) (by unfold inR; omega) ?_
                refine r_goto (tgt := 95) hC dX6_open_113 rfl ?_
                refine r_iload hC dX6_open_95 rfl ?_
                refine r_bipush hC dX6_open_97 rfl ?_
                refine r_icmp_ge (tgt := 116) hC dX6_open_99 rfl (fun h200 => ?_) (fun h200 => by omega)
                refine r_aload_n hC dX6_open_116 rfl ?_
                refine r_iload_n hC dX6_open_117 rfl ?_
                refine r_iconst hC dX6_open_118 rfl ?_
                refine r_iconst hC dX6_open_119 rfl ?_
                refine z_inv3 hM dX6_open_120 vl_RX6_173 rfl rfl rfl (Nat.le_of_ble_eq_true rfl) (Nat.le_of_ble_eq_true rfl) ?_
                refine m_setT (by omega) (by omega) ⟨fun h => by omega, fun h => by omega⟩ (fun ρ201 a_ρ201 q_ρ201 => ?_)
                refine r_aload_n hC dX6_open_123 rfl ?_
                refine r_iload_n hC dX6_open_124 rfl ?_
                refine r_iconst hC dX6_open_125 rfl ?_
                refine r_iload_n hC dX6_open_126 rfl ?_
                refine z_inv3 hM dX6_open_127 vl_RX6_173 rfl rfl rfl (Nat.le_of_ble_eq_true rfl) (Nat.le_of_ble_eq_true rfl) ?_
                refine m_setT (by omega) (by omega) ⟨fun h => by omega, fun h => by omega⟩ (fun ρ202 a_ρ202 q_ρ202 => ?_)
                refine r_aload_n hC dX6_open_130 rfl ?_
                refine r_iload_n hC dX6_open_131 rfl ?_
                refine r_iconst hC dX6_open_132 rfl ?_
                refine r_iload_n hC dX6_open_133 rfl ?_
                refine z_inv3 hM dX6_open_134 vl_RX6_173 rfl rfl rfl (Nat.le_of_ble_eq_true rfl) (Nat.le_of_ble_eq_true rfl) ?_
                refine m_setT (by omega) (by omega) ⟨fun h => by omega, fun h => by omega⟩ (fun ρ203 a_ρ203 q_ρ203 => ?_)
                refine r_aload_n hC dX6_open_137 rfl ?_
                refine r_iload_n hC dX6_open_138 rfl ?_
                refine r_iconst hC dX6_open_139 rfl ?_
                refine r_iload_n hC dX6_open_140 rfl ?_
                refine r_if_ne (tgt := 148) hC dX6_open_141 rfl (fun h204 => ?_) (fun h204 => by omega)
                refine r_iload hC dX6_open_148 rfl ?_
                refine z_inv3 hM dX6_open_150 vl_RX6_173 rfl rfl rfl (Nat.le_of_ble_eq_true rfl) (Nat.le_of_ble_eq_true rfl) ?_
                refine m_setT (by omega) (by omega) ⟨fun h => by omega, fun h => by omega⟩ (fun ρ205 a_ρ205 q_ρ205 => ?_)
                refine r_aload_n hC dX6_open_153 rfl ?_
                refine r_iload_n hC dX6_open_154 rfl ?_
                refine r_iconst hC dX6_open_155 rfl ?_
                refine r_iload hC dX6_open_156 rfl ?_
                refine z_inv3 hM dX6_open_158 vl_RX6_173 rfl rfl rfl (Nat.le_of_ble_eq_true rfl) (Nat.le_of_ble_eq_true rfl) ?_
                refine m_set (by omega) (by omega) (by omega) ?_
                refine r_aload_n hC dX6_open_161 rfl ?_
                refine r_iload_n hC dX6_open_162 rfl ?_
                refine r_bipush hC dX6_open_163 rfl ?_
                refine r_iconst hC dX6_open_165 rfl ?_
                refine z_inv3 hM dX6_open_166 vl_RX6_173 rfl rfl rfl (Nat.le_of_ble_eq_true rfl) (Nat.le_of_ble_eq_true rfl) ?_
                refine m_set (by omega) (by omega) (by omega) ?_
                refine r_aload_n hC dX6_open_169 rfl ?_
                refine r_iload_n hC dX6_open_170 rfl ?_
                refine z_inv1 hM dX6_open_171 vl_RX6_176 rfl rfl rfl (Nat.le_of_ble_eq_true rfl) (Nat.le_of_ble_eq_true rfl) ?_
                refine m_endWatches ?_
                refine r_aload_n hC dX6_open_174 rfl ?_
                refine r_iload_n hC dX6_open_175 rfl ?_
                refine z_inv1 hM dX6_open_176 vl_RX6_179 rfl rfl rfl (Nat.le_of_ble_eq_true rfl) (Nat.le_of_ble_eq_true rfl) ?_
                refine m_endLinks (by omega) (fun ρ206 g_ρ206 t_ρ206 => ?_)
                refine r_aload_n hC dX6_open_179 rfl ?_
                refine z_inv0 hM dX6_open_180 vl_RX6_182 rfl rfl rfl (Nat.le_of_ble_eq_true rfl) (Nat.le_of_ble_eq_true rfl) ?_
                refine m_openLanesX ?_
                refine y_iret hK rfl dX6_open_183 ?_
                have gg : Gx (fun c x y => c = 31 ∧ x = 0 ∧ 22 * l ≤ y ∧ y < 22 * l + 22 ∨ c = 45 ∧ x = 0) σ ρ206 := Gx.gx (((((((((((Gx.rf).al a_ρ173 (by first | (simp; done) | omega | (simp; omega))).al a_ρ175 (by first | (simp; done) | omega | (simp; omega))).al a_ρ177 (by first | (simp; done) | omega | (simp; omega))).al a_ρ179 (by first | (simp; done) | omega | (simp; omega))).al a_ρ182 (by first | (simp; done) | omega | (simp; omega))).al a_ρ199 (by first | (simp; done) | omega | (simp; omega))).al a_ρ201 (by first | (simp; done) | omega | (simp; omega))).al a_ρ202 (by first | (simp; done) | omega | (simp; omega))).al a_ρ203 (by first | (simp; done) | omega | (simp; omega))).al a_ρ205 (by first | (simp; done) | omega | (simp; omega))) g_ρ206 (by intro c x y h; omega)
                have e0 := ((g_ρ206 _ _ _ (by omega)).trans ((a_ρ205 _ _ _ (by omega)).trans ((a_ρ203 _ _ _ (by omega)).trans ((a_ρ202 _ _ _ (by omega)).trans q_ρ201))))
                have e1 := ((g_ρ206 _ _ _ (by omega)).trans ((a_ρ205 _ _ _ (by omega)).trans ((a_ρ203 _ _ _ (by omega)).trans q_ρ202)))
                have e2 := ((g_ρ206 _ _ _ (by omega)).trans ((a_ρ205 _ _ _ (by omega)).trans q_ρ203))
                have e3 := ((g_ρ206 _ _ _ (by omega)).trans q_ρ205)
                have e5 := ((g_ρ206 _ _ _ (by omega)).trans ((a_ρ205 _ _ _ (by omega)).trans ((a_ρ203 _ _ _ (by omega)).trans ((a_ρ202 _ _ _ (by omega)).trans ((a_ρ201 _ _ _ (by omega)).trans ((a_ρ199 _ _ _ (by omega)).trans q_ρ182))))))
                have e21 := ((g_ρ206 _ _ _ (by omega)).trans ((a_ρ205 _ _ _ (by omega)).trans ((a_ρ203 _ _ _ (by omega)).trans ((a_ρ202 _ _ _ (by omega)).trans ((a_ρ201 _ _ _ (by omega)).trans q_ρ199)))))
                have gt : Gx (fun c x y => c = 31 ∧ x = 0 ∧ 22 * l ≤ y ∧ y < 22 * l + 22) σ ρ205 := ((((((((((Gx.rf).al a_ρ173 (by first | (simp; done) | omega | (simp; omega))).al a_ρ175 (by first | (simp; done) | omega | (simp; omega))).al a_ρ177 (by first | (simp; done) | omega | (simp; omega))).al a_ρ179 (by first | (simp; done) | omega | (simp; omega))).al a_ρ182 (by first | (simp; done) | omega | (simp; omega))).al a_ρ199 (by first | (simp; done) | omega | (simp; omega))).al a_ρ201 (by first | (simp; done) | omega | (simp; omega))).al a_ρ202 (by first | (simp; done) | omega | (simp; omega))).al a_ρ203 (by first | (simp; done) | omega | (simp; omega))).al a_ρ205 (by first | (simp; done) | omega | (simp; omega))
                refine k1 (by omega) _ _ ⟨gg, (hL.lane31 (l := l) (ρ := ρ205) (fun c X y h => gt c X y h) ?_).to (fun c i j hD => g_ρ206 c i j (by rintro ⟨rfl, rfl⟩; exact hD))⟩ (by omega) (by omega) (fun i h0 h3 => by rw [t_ρ206 i h0 h3, gt 45 0 i (by omega)]) rfl
                rw [← g_ρ206 31 0 (22 * l + 2) (by omega), ← g_ρ206 31 0 (22 * l + 3) (by omega), ← g_ρ206 31 0 (22 * l + 5) (by omega), e2, e3, e5]; unfold Rst; omega
              · refine r_aload_n hC dX6_open_83 rfl ?_
                refine z_inv0 hM dX6_open_84 vl_RX6_98 rfl rfl rfl (Nat.le_of_ble_eq_true rfl) (Nat.le_of_ble_eq_true rfl) ?_
                refine m_firstThreeX ?_
                have bf := fst_bd 35 σ
                refine r_if_lt (tgt := 92) hC dX6_open_87 rfl (fun h207 => ?_) (fun h207 => ?_)
                · refine r_iconst hC dX6_open_92 rfl ?_
                  refine r_istore hC dX6_open_93 rfl ?_
                  refine r_iload hC dX6_open_95 rfl ?_
                  refine r_bipush hC dX6_open_97 rfl ?_
                  refine r_icmp_ge (tgt := 116) hC dX6_open_99 rfl (fun h208 => by omega) (fun h208 => ?_)
                  refine r_aload_n hC dX6_open_102 rfl ?_
                  refine r_iload_n hC dX6_open_103 rfl ?_
                  refine r_iload hC dX6_open_104 rfl ?_
                  refine r_iconst hC dX6_open_106 rfl ?_
                  refine z_inv3 hM dX6_open_107 vl_RX6_173 rfl rfl rfl (Nat.le_of_ble_eq_true rfl) (Nat.le_of_ble_eq_true rfl) ?_
                  refine m_setT (by omega) (by omega) ⟨fun h => by omega, fun h => by omega⟩ (fun ρ209 a_ρ209 q_ρ209 => ?_)
                  refine r_iincE hC (1) dX6_open_110 rfl rfl (by omega) (by unfold inR; omega) ?_
                  refine r_goto (tgt := 95) hC dX6_open_113 rfl ?_
                  refine r_iload hC dX6_open_95 rfl ?_
                  refine r_bipush hC dX6_open_97 rfl ?_
                  refine r_icmp_ge (tgt := 116) hC dX6_open_99 rfl (fun h210 => by omega) (fun h210 => ?_)
                  refine r_aload_n hC dX6_open_102 rfl ?_
                  refine r_iload_n hC dX6_open_103 rfl ?_
                  refine r_iload hC dX6_open_104 rfl ?_
                  refine r_iconst hC dX6_open_106 rfl ?_
                  refine z_inv3 hM dX6_open_107 vl_RX6_173 rfl rfl rfl (Nat.le_of_ble_eq_true rfl) (Nat.le_of_ble_eq_true rfl) ?_
                  refine m_setT (by omega) (by omega) ⟨fun h => by omega, fun h => by omega⟩ (fun ρ211 a_ρ211 q_ρ211 => ?_)
                  refine r_iincE hC (2) dX6_open_110 rfl rfl (by omega) (by unfold inR; omega) ?_
                  show K _ [_, _, _, _, _, _, _] _ _
                  refine r_goto (tgt := 95) hC dX6_open_113 rfl ?_
                  refine r_iload hC dX6_open_95 rfl ?_
                  refine r_bipush hC dX6_open_97 rfl ?_
                  refine r_icmp_ge (tgt := 116) hC dX6_open_99 rfl (fun h212 => by omega) (fun h212 => ?_)
                  refine r_aload_n hC dX6_open_102 rfl ?_
                  refine r_iload_n hC dX6_open_103 rfl ?_
                  refine r_iload hC dX6_open_104 rfl ?_
                  refine r_iconst hC dX6_open_106 rfl ?_
                  refine z_inv3 hM dX6_open_107 vl_RX6_173 rfl rfl rfl (Nat.le_of_ble_eq_true rfl) (Nat.le_of_ble_eq_true rfl) ?_
                  refine m_setT (by omega) (by omega) ⟨fun h => by omega, fun h => by omega⟩ (fun ρ213 a_ρ213 q_ρ213 => ?_)
                  refine r_iincE hC (3) dX6_open_110 rfl rfl (by omega) (by unfold inR; omega) ?_
                  refine r_goto (tgt := 95) hC dX6_open_113 rfl ?_
                  refine r_iload hC dX6_open_95 rfl ?_
                  refine r_bipush hC dX6_open_97 rfl ?_
                  refine r_icmp_ge (tgt := 116) hC dX6_open_99 rfl (fun h214 => by omega) (fun h214 => ?_)
                  refine r_aload_n hC dX6_open_102 rfl ?_
                  refine r_iload_n hC dX6_open_103 rfl ?_
                  refine r_iload hC dX6_open_104 rfl ?_
                  refine r_iconst hC dX6_open_106 rfl ?_
                  refine z_inv3 hM dX6_open_107 vl_RX6_173 rfl rfl rfl (Nat.le_of_ble_eq_true rfl) (Nat.le_of_ble_eq_true rfl) ?_
                  refine m_setT (by omega) (by omega) ⟨fun h => by omega, fun h => by omega⟩ (fun ρ215 a_ρ215 q_ρ215 => ?_)
                  refine r_iincE hC (4) dX6_open_110 rfl rfl (by omega) (by unfold inR; omega) ?_
                  refine r_goto (tgt := 95) hC dX6_open_113 rfl ?_
                  refine r_iload hC dX6_open_95 rfl ?_
                  refine r_bipush hC dX6_open_97 rfl ?_
                  refine r_icmp_ge (tgt := 116) hC dX6_open_99 rfl (fun h216 => by omega) (fun h216 => ?_)
                  refine r_aload_n hC dX6_open_102 rfl ?_
                  refine r_iload_n hC dX6_open_103 rfl ?_
                  refine r_iload hC dX6_open_104 rfl ?_
                  refine r_iconst hC dX6_open_106 rfl ?_
                  refine z_inv3 hM dX6_open_107 vl_RX6_173 rfl rfl rfl (Nat.le_of_ble_eq_true rfl) (Nat.le_of_ble_eq_true rfl) ?_
                  refine m_set (by omega) (by omega) (by omega) ?_
                  refine r_iincE hC (5) dX6_open_110 rfl rfl (by omega) (by unfold inR; omega) ?_
                  show K _ [_, _, _, _, _, _, _] _ _
                  refine r_goto (tgt := 95) hC dX6_open_113 rfl ?_
                  refine r_iload hC dX6_open_95 rfl ?_
                  refine r_bipush hC dX6_open_97 rfl ?_
                  refine r_icmp_ge (tgt := 116) hC dX6_open_99 rfl (fun h217 => by omega) (fun h217 => ?_)
                  refine r_aload_n hC dX6_open_102 rfl ?_
                  refine r_iload_n hC dX6_open_103 rfl ?_
                  refine r_iload hC dX6_open_104 rfl ?_
                  refine r_iconst hC dX6_open_106 rfl ?_
                  refine z_inv3 hM dX6_open_107 vl_RX6_173 rfl rfl rfl (Nat.le_of_ble_eq_true rfl) (Nat.le_of_ble_eq_true rfl) ?_
                  refine m_setT (by omega) (by omega) ⟨fun h => by omega, fun h => by omega⟩ (fun ρ218 a_ρ218 q_ρ218 => ?_)
                  refine r_iincE hC (6) dX6_open_110 rfl rfl (by omega) (by unfold inR; omega) ?_
                  refine r_goto (tgt := 95) hC dX6_open_113 rfl ?_
                  refine r_iload hC dX6_open_95 rfl ?_
                  refine r_bipush hC dX6_open_97 rfl ?_
                  refine r_icmp_ge (tgt := 116) hC dX6_open_99 rfl (fun h219 => by omega) (fun h219 => ?_)
                  refine r_aload_n hC dX6_open_102 rfl ?_
                  refine r_iload_n hC dX6_open_103 rfl ?_
                  refine r_iload hC dX6_open_104 rfl ?_
                  refine r_iconst hC dX6_open_106 rfl ?_
                  refine z_inv3 hM dX6_open_107 vl_RX6_173 rfl rfl rfl (Nat.le_of_ble_eq_true rfl) (Nat.le_of_ble_eq_true rfl) ?_
                  refine m_set (by omega) (by omega) (by omega) ?_
                  refine r_iincE hC (7) dX6_open_110 rfl rfl (by omega) (by unfold inR; omega) ?_
                  refine r_goto (tgt := 95) hC dX6_open_113 rfl ?_
                  refine r_iload hC dX6_open_95 rfl ?_
                  refine r_bipush hC dX6_open_97 rfl ?_
                  refine r_icmp_ge (tgt := 116) hC dX6_open_99 rfl (fun h220 => by omega) (fun h220 => ?_)
                  refine r_aload_n hC dX6_open_102 rfl ?_
                  refine r_iload_n hC dX6_open_103 rfl ?_
                  refine r_iload hC dX6_open_104 rfl ?_
                  refine r_iconst hC dX6_open_106 rfl ?_
                  refine z_inv3 hM dX6_open_107 vl_RX6_173 rfl rfl rfl (Nat.le_of_ble_eq_true rfl) (Nat.le_of_ble_eq_true rfl) ?_
                  refine m_set (by omega) (by omega) (by omega) ?_
                  refine r_iincE hC (8) dX6_open_110 rfl rfl (by omega) (by unfold inR; omega) ?_
                  show K _ [_, _, _, _, _, _, _] _ _
                  refine r_goto (tgt := 95) hC dX6_open_113 rfl ?_
                  refine r_iload hC dX6_open_95 rfl ?_
                  refine r_bipush hC dX6_open_97 rfl ?_
                  refine r_icmp_ge (tgt := 116) hC dX6_open_99 rfl (fun h221 => by omega) (fun h221 => ?_)
                  refine r_aload_n hC dX6_open_102 rfl ?_
                  refine r_iload_n hC dX6_open_103 rfl ?_
                  refine r_iload hC dX6_open_104 rfl ?_
                  refine r_iconst hC dX6_open_106 rfl ?_
                  refine z_inv3 hM dX6_open_107 vl_RX6_173 rfl rfl rfl (Nat.le_of_ble_eq_true rfl) (Nat.le_of_ble_eq_true rfl) ?_
                  refine m_set (by omega) (by omega) (by omega) ?_
                  refine r_iincE hC (9) dX6_open_110 rfl rfl (by omega) (by unfold inR; omega) ?_
                  refine r_goto (tgt := 95) hC dX6_open_113 rfl ?_
                  refine r_iload hC dX6_open_95 rfl ?_
                  refine r_bipush hC dX6_open_97 rfl ?_
                  refine r_icmp_ge (tgt := 116) hC dX6_open_99 rfl (fun h222 => by omega) (fun h222 => ?_)
                  refine r_aload_n hC dX6_open_102 rfl ?_
                  refine r_iload_n hC dX6_open_103 rfl ?_
                  refine r_iload hC dX6_open_104 rfl ?_
                  refine r_iconst hC dX6_open_106 rfl ?_
                  refine z_inv3 hM dX6_open_107 vl_RX6_173 rfl rfl rfl (Nat.le_of_ble_eq_true rfl) (Nat.le_of_ble_eq_true rfl) ?_
                  refine m_set (by omega) (by omega) (by omega) ?_
                  refine r_iincE hC (10) dX6_open_110 rfl rfl (by omega) (by unfold inR; omega) ?_
                  refine r_goto (tgt := 95) hC dX6_open_113 rfl ?_
                  refine r_iload hC dX6_open_95 rfl ?_
                  refine r_bipush hC dX6_open_97 rfl ?_
                  refine r_icmp_ge (tgt := 116) hC dX6_open_99 rfl (fun h223 => by omega) (fun h223 => ?_)
                  refine r_aload_n hC dX6_open_102 rfl ?_
                  refine r_iload_n hC dX6_open_103 rfl ?_
                  refine r_iload hC dX6_open_104 rfl ?_
                  refine r_iconst hC dX6_open_106 rfl ?_
                  refine z_inv3 hM dX6_open_107 vl_RX6_173 rfl rfl rfl (Nat.le_of_ble_eq_true rfl) (Nat.le_of_ble_eq_true rfl) ?_
                  refine m_set (by omega) (by omega) (by omega) ?_
                  refine r_iincE hC (11) dX6_open_110 rfl rfl (by omega) (by unfold inR; omega) ?_
                  show K _ [_, _, _, _, _, _, _] _ _
                  refine r_goto (tgt := 95) hC dX6_open_113 rfl ?_
                  refine r_iload hC dX6_open_95 rfl ?_
                  refine r_bipush hC dX6_open_97 rfl ?_
                  refine r_icmp_ge (tgt := 116) hC dX6_open_99 rfl (fun h224 => by omega) (fun h224 => ?_)
                  refine r_aload_n hC dX6_open_102 rfl ?_
                  refine r_iload_n hC dX6_open_103 rfl ?_
                  refine r_iload hC dX6_open_104 rfl ?_
                  refine r_iconst hC dX6_open_106 rfl ?_
                  refine z_inv3 hM dX6_open_107 vl_RX6_173 rfl rfl rfl (Nat.le_of_ble_eq_true rfl) (Nat.le_of_ble_eq_true rfl) ?_
                  refine m_set (by omega) (by omega) (by omega) ?_
                  refine r_iincE hC (12) dX6_open_110 rfl rfl (by omega) (by unfold inR; omega) ?_
                  refine r_goto (tgt := 95) hC dX6_open_113 rfl ?_
                  refine r_iload hC dX6_open_95 rfl ?_
                  refine r_bipush hC dX6_open_97 rfl ?_
                  refine r_icmp_ge (tgt := 116) hC dX6_open_99 rfl (fun h225 => by omega) (fun h225 => ?_)
                  refine r_aload_n hC dX6_open_102 rfl ?_
                  refine r_iload_n hC dX6_open_103 rfl ?_
                  refine r_iload hC dX6_open_104 rfl ?_
                  refine r_iconst hC dX6_open_106 rfl ?_
                  refine z_inv3 hM dX6_open_107 vl_RX6_173 rfl rfl rfl (Nat.le_of_ble_eq_true rfl) (Nat.le_of_ble_eq_true rfl) ?_
                  refine m_set (by omega) (by omega) (by omega) ?_
                  refine r_iincE hC (13) dX6_open_110 rfl rfl (by omega) (by unfold inR; omega) ?_
                  refine r_goto (tgt := 95) hC dX6_open_113 rfl ?_
                  refine r_iload hC dX6_open_95 rfl ?_
                  refine r_bipush hC dX6_open_97 rfl ?_
                  refine r_icmp_ge (tgt := 116) hC dX6_open_99 rfl (fun h226 => by omega) (fun h226 => ?_)
                  refine r_aload_n hC dX6_open_102 rfl ?_
                  refine r_iload_n hC dX6_open_103 rfl ?_
                  refine r_iload hC dX6_open_104 rfl ?_
                  refine r_iconst hC dX6_open_106 rfl ?_
                  refine z_inv3 hM dX6_open_107 vl_RX6_173 rfl rfl rfl (Nat.le_of_ble_eq_true rfl) (Nat.le_of_ble_eq_true rfl) ?_
                  refine m_set (by omega) (by omega) (by omega) ?_
                  refine r_iincE hC (14) dX6_open_110 rfl rfl (by omega) (by unfold inR; omega) ?_
                  show K _ [_, _, _, _, _, _, _] _ _
                  refine r_goto (tgt := 95) hC dX6_open_113 rfl ?_
                  refine r_iload hC dX6_open_95 rfl ?_
                  refine r_bipush hC dX6_open_97 rfl ?_
                  refine r_icmp_ge (tgt := 116) hC dX6_open_99 rfl (fun h227 => by omega) (fun h227 => ?_)
                  refine r_aload_n hC dX6_open_102 rfl ?_
                  refine r_iload_n hC dX6_open_103 rfl ?_
                  refine r_iload hC dX6_open_104 rfl ?_
                  refine r_iconst hC dX6_open_106 rfl ?_
                  refine z_inv3 hM dX6_open_107 vl_RX6_173 rfl rfl rfl (Nat.le_of_ble_eq_true rfl) (Nat.le_of_ble_eq_true rfl) ?_
                  refine m_set (by omega) (by omega) (by omega) ?_
                  refine r_iincE hC (15) dX6_open_110 rfl rfl (by omega) (by unfold inR; omega) ?_
                  refine r_goto (tgt := 95) hC dX6_open_113 rfl ?_
                  refine r_iload hC dX6_open_95 rfl ?_
                  refine r_bipush hC dX6_open_97 rfl ?_
                  refine r_icmp_ge (tgt := 116) hC dX6_open_99 rfl (fun h228 => by omega) (fun h228 => ?_)
                  refine r_aload_n hC dX6_open_102 rfl ?_
                  refine r_iload_n hC dX6_open_103 rfl ?_
                  refine r_iload hC dX6_open_104 rfl ?_
                  refine r_iconst hC dX6_open_106 rfl ?_
                  refine z_inv3 hM dX6_open_107 vl_RX6_173 rfl rfl rfl (Nat.le_of_ble_eq_true rfl) (Nat.le_of_ble_eq_true rfl) ?_
                  refine m_set (by omega) (by omega) (by omega) ?_
                  refine r_iincE hC (16) dX6_open_110 rfl rfl (by omega) (by unfold inR; omega) ?_
                  refine r_goto (tgt := 95) hC dX6_open_113 rfl ?_
                  refine r_iload hC dX6_open_95 rfl ?_
                  refine r_bipush hC dX6_open_97 rfl ?_
                  refine r_icmp_ge (tgt := 116) hC dX6_open_99 rfl (fun h229 => by omega) (fun h229 => ?_)
                  refine r_aload_n hC dX6_open_102 rfl ?_
                  refine r_iload_n hC dX6_open_103 rfl ?_
                  refine r_iload hC dX6_open_104 rfl ?_
                  refine r_iconst hC dX6_open_106 rfl ?_
                  refine z_inv3 hM dX6_open_107 vl_RX6_173 rfl rfl rfl (Nat.le_of_ble_eq_true rfl) (Nat.le_of_ble_eq_true rfl) ?_
                  refine m_set (by omega) (by omega) (by omega) ?_
                  refine r_iincE hC (17) dX6_open_110 rfl rfl (by omega) (by unfold inR; omega) ?_
                  show K _ [_, _, _, _, _, _, _] _ _
                  refine r_goto (tgt := 95) hC dX6_open_113 rfl ?_
                  refine r_iload hC dX6_open_95 rfl ?_
                  refine r_bipush hC dX6_open_97 rfl ?_
                  refine r_icmp_ge (tgt := 116) hC dX6_open_99 rfl (fun h230 => by omega) (fun h230 => ?_)
                  refine r_aload_n hC dX6_open_102 rfl ?_
                  refine r_iload_n hC dX6_open_103 rfl ?_
                  refine r_iload hC dX6_open_104 rfl ?_
                  refine r_iconst hC dX6_open_106 rfl ?_
                  refine z_inv3 hM dX6_open_107 vl_RX6_173 rfl rfl rfl (Nat.le_of_ble_eq_true rfl) (Nat.le_of_ble_eq_true rfl) ?_
                  refine m_set (by omega) (by omega) (by omega) ?_
                  refine r_iincE hC (18) dX6_open_110 rfl rfl (by omega) (by unfold inR; omega) ?_
                  refine r_goto (tgt := 95) hC dX6_open_113 rfl ?_
                  refine r_iload hC dX6_open_95 rfl ?_
                  refine r_bipush hC dX6_open_97 rfl ?_
                  refine r_icmp_ge (tgt := 116) hC dX6_open_99 rfl (fun h231 => by omega) (fun h231 => ?_)
                  refine r_aload_n hC dX6_open_102 rfl ?_
                  refine r_iload_n hC dX6_open_103 rfl ?_
                  refine r_iload hC dX6_open_104 rfl ?_
                  refine r_iconst hC dX6_open_106 rfl ?_
                  refine z_inv3 hM dX6_open_107 vl_RX6_173 rfl rfl rfl (Nat.le_of_ble_eq_true rfl) (Nat.le_of_ble_eq_true rfl) ?_
                  refine m_set (by omega) (by omega) (by omega) ?_
                  refine r_iincE hC (19) dX6_open_110 rfl rfl (by omega) (by unfold inR; omega) ?_
                  refine r_goto (tgt := 95) hC dX6_open_113 rfl ?_
                  refine r_iload hC dX6_open_95 rfl ?_
                  refine r_bipush hC dX6_open_97 rfl ?_
                  refine r_icmp_ge (tgt := 116) hC dX6_open_99 rfl (fun h232 => by omega) (fun h232 => ?_)
                  refine r_aload_n hC dX6_open_102 rfl ?_
                  refine r_iload_n hC dX6_open_103 rfl ?_
                  refine r_iload hC dX6_open_104 rfl ?_
                  refine r_iconst hC dX6_open_106 rfl ?_
                  refine z_inv3 hM dX6_open_107 vl_RX6_173 rfl rfl rfl (Nat.le_of_ble_eq_true rfl) (Nat.le_of_ble_eq_true rfl) ?_
                  refine m_set (by omega) (by omega) (by omega) ?_
                  refine r_iincE hC (20) dX6_open_110 rfl rfl (by omega) (by unfold inR; omega) ?_
                  show K _ [_, _, _, _, _, _, _] _ _
                  refine r_goto (tgt := 95) hC dX6_open_113 rfl ?_
                  refine r_iload hC dX6_open_95 rfl ?_
                  refine r_bipush hC dX6_open_97 rfl ?_
                  refine r_icmp_ge (tgt := 116) hC dX6_open_99 rfl (fun h233 => by omega) (fun h233 => ?_)
                  refine r_aload_n hC dX6_open_102 rfl ?_
                  refine r_iload_n hC dX6_open_103 rfl ?_
                  refine r_iload hC dX6_open_104 rfl ?_
                  refine r_iconst hC dX6_open_106 rfl ?_
                  refine z_inv3 hM dX6_open_107 vl_RX6_173 rfl rfl rfl (Nat.le_of_ble_eq_true rfl) (Nat.le_of_ble_eq_true rfl) ?_
                  refine m_set (by omega) (by omega) (by omega) ?_
                  refine r_iincE hC (21) dX6_open_110 rfl rfl (by omega) (by unfold inR; omega) ?_
                  refine r_goto (tgt := 95) hC dX6_open_113 rfl ?_
                  refine r_iload hC dX6_open_95 rfl ?_
                  refine r_bipush hC dX6_open_97 rfl ?_
                  refine r_icmp_ge (tgt := 116) hC dX6_open_99 rfl (fun h234 => by omega) (fun h234 => ?_)
                  refine r_aload_n hC dX6_open_102 rfl ?_
                  refine r_iload_n hC dX6_open_103 rfl ?_
                  refine r_iload hC dX6_open_104 rfl ?_
                  refine r_iconst hC dX6_open_106 rfl ?_
                  refine z_inv3 hM dX6_open_107 vl_RX6_173 rfl rfl rfl (Nat.le_of_ble_eq_true rfl) (Nat.le_of_ble_eq_true rfl) ?_
                  refine m_setT (by omega) (by omega) ⟨fun h => by omega, fun h => by omega⟩ (fun ρ235 a_ρ235 q_ρ235 => ?_)
                  refine r_iincE hC (22) dX6_open_110 rfl rfl (by omega) (by unfold inR; omega) ?_
                  refine r_goto (tgt := 95) hC dX6_open_113 rfl ?_
                  refine r_iload hC dX6_open_95 rfl ?_
                  refine r_bipush hC dX6_open_97 rfl ?_
                  refine r_icmp_ge (tgt := 116) hC dX6_open_99 rfl (fun h236 => ?_) (fun h236 => by omega)
                  refine r_aload_n hC dX6_open_116 rfl ?_
                  refine r_iload_n hC dX6_open_117 rfl ?_
                  refine r_iconst hC dX6_open_118 rfl ?_
                  refine r_iconst hC dX6_open_119 rfl ?_
                  refine z_inv3 hM dX6_open_120 vl_RX6_173 rfl rfl rfl (Nat.le_of_ble_eq_true rfl) (Nat.le_of_ble_eq_true rfl) ?_
                  refine m_setT (by omega) (by omega) ⟨fun h => by omega, fun h => by omega⟩ (fun ρ237 a_ρ237 q_ρ237 => ?_)
                  refine r_aload_n hC dX6_open_123 rfl ?_
                  refine r_iload_n hC dX6_open_124 rfl ?_
                  refine r_iconst hC dX6_open_125 rfl ?_
                  refine r_iload_n hC dX6_open_126 rfl ?_
                  refine z_inv3 hM dX6_open_127 vl_RX6_173 rfl rfl rfl (Nat.le_of_ble_eq_true rfl) (Nat.le_of_ble_eq_true rfl) ?_
                  refine m_setT (by omega) (by omega) ⟨fun h => by omega, fun h => by omega⟩ (fun ρ238 a_ρ238 q_ρ238 => ?_)
                  refine r_aload_n hC dX6_open_130 rfl ?_
                  refine r_iload_n hC dX6_open_131 rfl ?_
                  refine r_iconst hC dX6_open_132 rfl ?_
                  refine r_iload_n hC dX6_open_133 rfl ?_
                  refine z_inv3 hM dX6_open_134 vl_RX6_173 rfl rfl rfl (Nat.le_of_ble_eq_true rfl) (Nat.le_of_ble_eq_true rfl) ?_
                  refine m_setT (by omega) (by omega) ⟨fun h => by omega, fun h => by omega⟩ (fun ρ239 a_ρ239 q_ρ239 => ?_)
                  refine r_aload_n hC dX6_open_137 rfl ?_
                  refine r_iload_n hC dX6_open_138 rfl ?_
                  refine r_iconst hC dX6_open_139 rfl ?_
                  refine r_iload_n hC dX6_open_140 rfl ?_
                  refine r_if_ne (tgt := 148) hC dX6_open_141 rfl (fun h240 => ?_) (fun h240 => by omega)
                  refine r_iload hC dX6_open_148 rfl ?_
                  refine z_inv3 hM dX6_open_150 vl_RX6_173 rfl rfl rfl (Nat.le_of_ble_eq_true rfl) (Nat.le_of_ble_eq_true rfl) ?_
                  refine m_setT (by omega) (by omega) ⟨fun h => by omega, fun h => by omega⟩ (fun ρ241 a_ρ241 q_ρ241 => ?_)
                  refine r_aload_n hC dX6_open_153 rfl ?_
                  refine r_iload_n hC dX6_open_154 rfl ?_
                  refine r_iconst hC dX6_open_155 rfl ?_
                  refine r_iload hC dX6_open_156 rfl ?_
                  refine z_inv3 hM dX6_open_158 vl_RX6_173 rfl rfl rfl (Nat.le_of_ble_eq_true rfl) (Nat.le_of_ble_eq_true rfl) ?_
                  refine m_set (by omega) (by omega) (by omega) ?_
                  refine r_aload_n hC dX6_open_161 rfl ?_
                  refine r_iload_n hC dX6_open_162 rfl ?_
                  refine r_bipush hC dX6_open_163 rfl ?_
                  refine r_iconst hC dX6_open_165 rfl ?_
                  refine z_inv3 hM dX6_open_166 vl_RX6_173 rfl rfl rfl (Nat.le_of_ble_eq_true rfl) (Nat.le_of_ble_eq_true rfl) ?_
                  refine m_set (by omega) (by omega) (by omega) ?_
                  refine r_aload_n hC dX6_open_169 rfl ?_
                  refine r_iload_n hC dX6_open_170 rfl ?_
                  refine z_inv1 hM dX6_open_171 vl_RX6_176 rfl rfl rfl (Nat.le_of_ble_eq_true rfl) (Nat.le_of_ble_eq_true rfl) ?_
                  refine m_endWatches ?_
                  refine r_aload_n hC dX6_open_174 rfl ?_
                  refine r_iload_n hC dX6_open_175 rfl ?_
                  refine z_inv1 hM dX6_open_176 vl_RX6_179 rfl rfl rfl (Nat.le_of_ble_eq_true rfl) (Nat.le_of_ble_eq_true rfl) ?_
                  refine m_endLinks (by omega) (fun ρ242 g_ρ242 t_ρ242 => ?_)
                  refine r_aload_n hC dX6_open_179 rfl ?_
                  refine z_inv0 hM dX6_open_180 vl_RX6_182 rfl rfl rfl (Nat.le_of_ble_eq_true rfl) (Nat.le_of_ble_eq_true rfl) ?_
                  refine m_openLanesX ?_
                  refine y_iret hK rfl dX6_open_183 ?_
                  have gg : Gx (fun c x y => c = 31 ∧ x = 0 ∧ 22 * l ≤ y ∧ y < 22 * l + 22 ∨ c = 45 ∧ x = 0) σ ρ242 := Gx.gx (((((((((((Gx.rf).al a_ρ209 (by first | (simp; done) | omega | (simp; omega))).al a_ρ211 (by first | (simp; done) | omega | (simp; omega))).al a_ρ213 (by first | (simp; done) | omega | (simp; omega))).al a_ρ215 (by first | (simp; done) | omega | (simp; omega))).al a_ρ218 (by first | (simp; done) | omega | (simp; omega))).al a_ρ235 (by first | (simp; done) | omega | (simp; omega))).al a_ρ237 (by first | (simp; done) | omega | (simp; omega))).al a_ρ238 (by first | (simp; done) | omega | (simp; omega))).al a_ρ239 (by first | (simp; done) | omega | (simp; omega))).al a_ρ241 (by first | (simp; done) | omega | (simp; omega))) g_ρ242 (by intro c x y h; omega)
                  have e0 := ((g_ρ242 _ _ _ (by omega)).trans ((a_ρ241 _ _ _ (by omega)).trans ((a_ρ239 _ _ _ (by omega)).trans ((a_ρ238 _ _ _ (by omega)).trans q_ρ237))))
                  have e1 := ((g_ρ242 _ _ _ (by omega)).trans ((a_ρ241 _ _ _ (by omega)).trans ((a_ρ239 _ _ _ (by omega)).trans q_ρ238)))
                  have e2 := ((g_ρ242 _ _ _ (by omega)).trans ((a_ρ241 _ _ _ (by omega)).trans q_ρ239))
                  have e3 := ((g_ρ242 _ _ _ (by omega)).trans q_ρ241)
                  have e5 := ((g_ρ242 _ _ _ (by omega)).trans ((a_ρ241 _ _ _ (by omega)).trans ((a_ρ239 _ _ _ (by omega)).trans ((a_ρ238 _ _ _ (by omega)).trans ((a_ρ237 _ _ _ (by omega)).trans ((a_ρ235 _ _ _ (by omega)).trans q_ρ218))))))
                  have e21 := ((g_ρ242 _ _ _ (by omega)).trans ((a_ρ241 _ _ _ (by omega)).trans ((a_ρ239 _ _ _ (by omega)).trans ((a_ρ238 _ _ _ (by omega)).trans ((a_ρ237 _ _ _ (by omega)).trans q_ρ235)))))
                  have gt : Gx (fun c x y => c = 31 ∧ x = 0 ∧ 22 * l ≤ y ∧ y < 22 * l + 22) σ ρ241 := ((((((((((Gx.rf).al a_ρ209 (by first | (simp; done) | omega | (simp; omega))).al a_ρ211 (by first | (simp; done) | omega | (simp; omega))).al a_ρ213 (by first | (simp; done) | omega | (simp; omega))).al a_ρ215 (by first | (simp; done) | omega | (simp; omega))).al a_ρ218 (by first | (simp; done) | omega | (simp; omega))).al a_ρ235 (by first | (simp; done) | omega | (simp; omega))).al a_ρ237 (by first | (simp; done) | omega | (simp; omega))).al a_ρ238 (by first | (simp; done) | omega | (simp; omega))).al a_ρ239 (by first | (simp; done) | omega | (simp; omega))).al a_ρ241 (by first | (simp; done) | omega | (simp; omega))
                  refine k1 (by omega) _ _ ⟨gg, (hL.lane31 (l := l) (ρ := ρ241) (fun c X y h => gt c X y h) ?_).to (fun c i j hD => g_ρ242 c i j (by rintro ⟨rfl, rfl⟩; exact hD))⟩ (by omega) (by omega) (fun i h0 h3 => by rw [t_ρ242 i h0 h3, gt 45 0 i (by omega)]) rfl
                  rw [← g_ρ242 31 0 (22 * l + 2) (by omega), ← g_ρ242 31 0 (22 * l + 3) (by omega), ← g_ρ242 31 0 (22 * l + 5) (by omega), e2, e3, e5]; unfold Rst; omega
                · refine r_iconst hC dX6_open_90 rfl ?_
                  refine y_iret hK rfl dX6_open_91 ?_
                  exact k0 (by omega)
            · refine r_if_eq (tgt := 75) hC dX6_open_55 rfl (fun h243 => ?_) (fun h243 => by omega)
              refine r_iconst hC dX6_open_75 rfl ?_
              refine y_iret hK rfl dX6_open_76 ?_
              exact k0 (by omega)
        · refine r_if_ne (tgt := 42) hC dX6_open_37 rfl (fun h244 => by omega) (fun h244 => ?_)
          refine r_iconst hC dX6_open_40 rfl ?_
          refine y_iret hK rfl dX6_open_41 ?_
          exact k0 (by omega)
      · refine r_if_eq (tgt := 40) hC dX6_open_25 rfl (fun h245 => ?_) (fun h245 => by omega)
        refine r_iconst hC dX6_open_40 rfl ?_
        refine y_iret hK rfl dX6_open_41 ?_
        exact k0 (by omega)
    · refine r_if_eq (tgt := 40) hC dX6_open_16 rfl (fun h246 => ?_) (fun h246 => by omega)
      refine r_iconst hC dX6_open_40 rfl ?_
      refine y_iret hK rfl dX6_open_41 ?_
      exact k0 (by omega)
  · refine r_if_eq (tgt := 40) hC dX6_open_6 rfl (fun h247 => ?_) (fun h247 => by omega)
    refine r_iconst hC dX6_open_40 rfl ?_
    refine y_iret hK rfl dX6_open_41 ?_
    exact k0 (by omega)
theorem no45 {l : Int} {c : Nat} {x y : Int} (hD : DL c y) (q : c = 31 ∧ x = 0 ∧ y = 22 * l + 0 ∨ c = 45 ∧ x = 0) : False := by
  rcases q with ⟨rfl, rfl, h⟩ | ⟨rfl, rfl⟩
  · simp only [DL] at hD
    omega
  · exact hD
theorem m_shut_S {d : Nat} {P : Option Vl → Mm → Prop} {σ : Mm} {l g0 : Int} (qg0 : σ 31 0 ((22 * l) + 0) = g0) (hL : InL σ)  (k1 : 0 ≤ l ∧ l ≤ 3 ∧ σ 31 0 (22 * l + 0) = 1 → ∀ ρ : Mm, GL (fun c x y => c = 31 ∧ x = 0 ∧ y = 22 * l + 0 ∨ c = 45 ∧ x = 0) σ ρ → ρ 31 0 (22 * l + 0) = 0 → (∀ i : Int, 0 ≤ i → i ≤ 3 → ρ 45 0 i = if i = l ∨ σ 45 0 i = l then -1 else σ 45 0 i) → P (some (vI 1)) ρ) (k0 : ¬ (0 ≤ l ∧ l ≤ 3 ∧ σ 31 0 (22 * l + 0) = 1) → P (some (vI 0)) σ) : WT (true, false, false) (d + 3) 176 [vR 30 0, vI l] σ P := by
  refine WT_in fun K hK => ?_
  have hK : StpY (true, false, false) cX6_shut RX6 (some .boolean) (WT (true, false, false) (d + 2)) P K := hK
  have hM := hK.1
  have hC := hK.1.1
  show K 0 [some (vR 30 0), some (vI l)] [] σ
  refine r_rngz hC (fun g0 => ?_)
  have r_l : -2147483648 ≤ l ∧ l ≤ 2147483647 := inR_le (g0 (vI l) (by simp))
  refine r_aload_n hC dX6_shut_0 rfl ?_
  refine r_iload_n hC dX6_shut_1 rfl ?_
  refine z_inv1 hM dX6_shut_2 vl_RX6_124 rfl rfl rfl (Nat.le_of_ble_eq_true rfl) (Nat.le_of_ble_eq_true rfl) ?_
  refine m_isLaneX (fun h1 => ?_) (fun h1 => ?_)
  · refine r_if_ne (tgt := 10) hC dX6_shut_5 rfl (fun h2 => ?_) (fun h2 => by omega)
    refine r_aload_n hC dX6_shut_10 rfl ?_
    refine r_iload_n hC dX6_shut_11 rfl ?_
    refine r_iconst hC dX6_shut_12 rfl ?_
    refine r_iconst hC dX6_shut_13 rfl ?_
    refine z_inv3 hM dX6_shut_14 vl_RX6_173 rfl rfl rfl (Nat.le_of_ble_eq_true rfl) (Nat.le_of_ble_eq_true rfl) ?_
    refine m_setT (by omega) (by omega) ⟨fun h => by omega, fun h => by omega⟩ (fun ρ3 a_ρ3 q_ρ3 => ?_)
    refine r_aload_n hC dX6_shut_17 rfl ?_
    refine r_iload_n hC dX6_shut_18 rfl ?_
    refine z_inv1 hM dX6_shut_19 vl_RX6_176 rfl rfl rfl (Nat.le_of_ble_eq_true rfl) (Nat.le_of_ble_eq_true rfl) ?_
    refine m_endWatches ?_
    refine r_aload_n hC dX6_shut_22 rfl ?_
    refine r_iload_n hC dX6_shut_23 rfl ?_
    refine z_inv1 hM dX6_shut_24 vl_RX6_179 rfl rfl rfl (Nat.le_of_ble_eq_true rfl) (Nat.le_of_ble_eq_true rfl) ?_
    refine m_endLinks (by omega) (fun ρ4 g_ρ4 t_ρ4 => ?_)
    refine r_iconst hC dX6_shut_27 rfl ?_
    refine y_zret hK rfl dX6_shut_28 (by omega) ?_
    have gg : Gx (fun c x y => c = 31 ∧ x = 0 ∧ y = 22 * l + 0 ∨ c = 45 ∧ x = 0) σ ρ4 := Gx.gx ((Gx.rf).al a_ρ3 (by first | (simp; done) | omega | (simp; omega))) g_ρ4 (by intro c x y h; omega)
    have gt : Gx (fun c x y => c = 31 ∧ x = 0 ∧ y = 22 * l + 0) σ ρ3 := (Gx.rf).al a_ρ3 (by first | (simp; done) | omega | (simp; omega))
    have e0 := ((g_ρ4 _ _ _ (by omega)).trans q_ρ3)
    exact k1 (by omega) _ ⟨gg, hL.to (fun c i j hD => gg c i j (fun q => no45 hD q))⟩ (by omega) (fun i h0 h3 => by rw [t_ρ4 i h0 h3, gt 45 0 i (by omega)])
  · refine r_if_ne (tgt := 10) hC dX6_shut_5 rfl (fun h5 => by omega) (fun h5 => ?_)
    refine r_iconst hC dX6_shut_8 rfl ?_
    refine y_zret hK rfl dX6_shut_9 (by omega) ?_
    exact k0 (by omega)
theorem m_link {e : Ev} {d : Nat} {P : Option Vl → Mm → Prop} {σ : Mm} {l o z w : Int}  (ho : ∀ i : Int, 0 ≤ i → i ≤ 3 → 0 ≤ σ 31 0 (22 * i + 1) ∧ σ 31 0 (22 * i + 1) ≤ 9)  (k1 : 0 ≤ l ∧ l ≤ 3 ∧ σ 31 0 (22 * l + 0) = 1 ∧ 0 ≤ w ∧ w < numF (σ 31 0 (22 * l + 1)) ∧ 0 ≤ o ∧ o ≤ 3 ∧ σ 31 0 (22 * o + 0) = 1 ∧ l ≠ o ∧ 0 ≤ z ∧ z ≤ 100000 ∧ σ 45 0 o < 0 → ¬ (∃ i : Int, 0 ≤ i ∧ i ≤ 3 ∧ σ 45 0 i = l) → ∀ ρ : Mm, Al1 σ ρ 45 0 l → ρ 45 0 l = o → P (some (vI 1)) ρ) (k0 : ¬ (0 ≤ l ∧ l ≤ 3 ∧ σ 31 0 (22 * l + 0) = 1 ∧ 0 ≤ w ∧ w < numF (σ 31 0 (22 * l + 1)) ∧ 0 ≤ o ∧ o ≤ 3 ∧ σ 31 0 (22 * o + 0) = 1 ∧ l ≠ o ∧ 0 ≤ z ∧ z ≤ 100000 ∧ σ 45 0 o < 0) → P (some (vI 0)) σ) (kE : (∃ i : Int, 0 ≤ i ∧ i ≤ 3 ∧ σ 45 0 i = l) → P (some (vI 0)) σ) : WT e (d + 4) 199 [vR 30 0, vI l, vI o, vI z, vI w] σ P := by
  refine WT_in fun K hK => ?_
  have hK : StpY e cX6_link RX6 (some .boolean) (WT e (d + 3)) P K := hK
  have hM := hK.1
  have hC := hK.1.1
  show K 0 [some (vR 30 0), some (vI l), some (vI o), some (vI z), some (vI w)] [] σ
  refine r_rngz hC (fun g0 => ?_)
  have r_l : -2147483648 ≤ l ∧ l ≤ 2147483647 := inR_le (g0 (vI l) (by simp))
  have r_o : -2147483648 ≤ o ∧ o ≤ 2147483647 := inR_le (g0 (vI o) (by simp))
  have r_z : -2147483648 ≤ z ∧ z ≤ 2147483647 := inR_le (g0 (vI z) (by simp))
  have r_w : -2147483648 ≤ w ∧ w ≤ 2147483647 := inR_le (g0 (vI w) (by simp))
  refine r_aload_n hC dX6_link_0 rfl ?_
  refine r_iload_n hC dX6_link_1 rfl ?_
  refine z_inv1 hM dX6_link_2 vl_RX6_124 rfl rfl rfl (Nat.le_of_ble_eq_true rfl) (Nat.le_of_ble_eq_true rfl) ?_
  refine m_isLaneX (fun h1 => ?_) (fun h1 => ?_)
  · refine r_if_eq (tgt := 50) hC dX6_link_5 rfl (fun h2 => by omega) (fun h2 => ?_)
    refine r_iload_n hC dX6_link_8 rfl ?_
    refine r_iload_n hC dX6_link_9 rfl ?_
    refine r_icmp_eq (tgt := 50) hC dX6_link_10 rfl (fun h3 => ?_) (fun h3 => ?_)
    · refine r_iconst hC dX6_link_50 rfl ?_
      refine y_zret hK rfl dX6_link_51 (by omega) ?_
      first | exact k0 (by omega) | exact kE (by assumption)
    · refine r_aload_n hC dX6_link_13 rfl ?_
      refine r_iload_n hC dX6_link_14 rfl ?_
      refine r_iload hC dX6_link_15 rfl ?_
      refine z_inv2 hM dX6_link_17 vl_RX6_207 rfl rfl rfl (Nat.le_of_ble_eq_true rfl) (Nat.le_of_ble_eq_true rfl) ?_
      refine m_isNumberX ho (fun h4 => ?_) (fun h4 => ?_)
      · have nr := numF_rng (σ 31 0 (22 * l + 1))
        refine r_if_eq (tgt := 50) hC dX6_link_20 rfl (fun h5 => by omega) (fun h5 => ?_)
        refine r_iload_n hC dX6_link_23 rfl ?_
        refine r_iconst hC dX6_link_24 rfl ?_
        refine r_ldc hC dX6_link_25 co_RX6_239 rfl ?_
        refine z_ins3 hM dX6_link_27 tl_RX6_76 rfl (Nat.le_of_ble_eq_true rfl) (Nat.le_of_ble_eq_true rfl) ?_
        refine m_isIn (fun h7 => ?_) (fun h7 => ?_)
        · refine r_if_eq (tgt := 50) hC dX6_link_30 rfl (fun h8 => by omega) (fun h8 => ?_)
          refine r_aload_n hC dX6_link_33 rfl ?_
          refine z_getR hM dX6_link_34 fl_RX6_52 rfl rfl (vld_of (n := 1) rfl (by omega) (by omega)) ?_
          refine r_iload_n hC dX6_link_37 rfl ?_
          refine z_iald hM dX6_link_38 rfl (by omega) (by omega) (fun v9 h_v9 o_v9 t_v9 => ?_)
          have w_v9 := t_v9 (Or.inl trivial)
          subst w_v9
          have q_v9 : -1 ≤ (σ 45 0 o) ∧ (σ 45 0 o) ≤ 3 := o_v9
          refine r_if_ge (tgt := 50) hC dX6_link_39 rfl (fun h10 => ?_) (fun h10 => ?_)
          · refine r_iconst hC dX6_link_50 rfl ?_
            refine y_zret hK rfl dX6_link_51 (by omega) ?_
            first | exact k0 (by omega) | exact kE (by assumption)
          · refine r_aload_n hC dX6_link_42 rfl ?_
            refine r_iload_n hC dX6_link_43 rfl ?_
            refine z_inv1 hM dX6_link_44 vl_RX6_240 rfl rfl rfl (Nat.le_of_ble_eq_true rfl) (Nat.le_of_ble_eq_true rfl) ?_
            refine m_isLinkedToX (fun h11 => ?_) (fun h11 => ?_)
            · refine r_if_eq (tgt := 52) hC dX6_link_47 rfl (fun h12 => by omega) (fun h12 => ?_)
              refine r_iconst hC dX6_link_50 rfl ?_
              refine y_zret hK rfl dX6_link_51 (by omega) ?_
              first | exact k0 (by omega) | exact kE (by assumption)
            · refine r_if_eq (tgt := 52) hC dX6_link_47 rfl (fun h13 => ?_) (fun h13 => by omega)
              refine r_aload_n hC dX6_link_52 rfl ?_
              refine z_getR hM dX6_link_53 fl_RX6_52 rfl rfl (vld_of (n := 1) rfl (by omega) (by omega)) ?_
              refine r_iload_n hC dX6_link_56 rfl ?_
              refine r_iload_n hC dX6_link_57 rfl ?_
              refine z_iastG hM dX6_link_58 rfl (by omega) (by omega) ⟨Or.inr (by simp [DL]), Or.inr (by simp [DF])⟩ (by simp only [Okv]; omega) (fun ρ14 a_ρ14 q_ρ14 => ?_)
              refine r_aload_n hC dX6_link_59 rfl ?_
              refine z_getR hM dX6_link_60 fl_RX6_55 rfl rfl (vld_of (n := 1) rfl (by omega) (by omega)) ?_
              refine r_iload_n hC dX6_link_63 rfl ?_
              refine r_iload_n hC dX6_link_64 rfl ?_
              refine z_iastU hM dX6_link_65 rfl (by omega) (by omega) (by simp [Un, Tb, DL, DF, DR]) (by simp [Okv]) ?_
              refine r_aload_n hC dX6_link_66 rfl ?_
              refine z_getR hM dX6_link_67 fl_RX6_58 rfl rfl (vld_of (n := 1) rfl (by omega) (by omega)) ?_
              refine r_iload_n hC dX6_link_70 rfl ?_
              refine r_iload hC dX6_link_71 rfl ?_
              refine z_iastU hM dX6_link_73 rfl (by omega) (by omega) (by simp [Un, Tb, DL, DF, DR]) (by simp [Okv]; try omega) ?_
              refine r_aload_n hC dX6_link_74 rfl ?_
              refine z_getR hM dX6_link_75 fl_RX6_61 rfl rfl (vld_of (n := 1) rfl (by omega) (by omega)) ?_
              refine r_iload_n hC dX6_link_78 rfl ?_
              refine r_iconst hC dX6_link_79 rfl ?_
              refine z_iastU hM dX6_link_80 rfl (by omega) (by omega) (by simp [Un, Tb, DL, DF, DR]) (by simp [Okv]) ?_
              refine r_iconst hC dX6_link_81 rfl ?_
              refine y_zret hK rfl dX6_link_82 (by omega) ?_
              exact k1 (by omega) (by assumption) _ a_ρ14 q_ρ14
        · refine r_if_eq (tgt := 50) hC dX6_link_30 rfl (fun h18 => ?_) (fun h18 => by omega)
          refine r_iconst hC dX6_link_50 rfl ?_
          refine y_zret hK rfl dX6_link_51 (by omega) ?_
          first | exact k0 (by omega) | exact kE (by assumption)
      · refine r_if_eq (tgt := 50) hC dX6_link_20 rfl (fun h19 => ?_) (fun h19 => by omega)
        refine r_iconst hC dX6_link_50 rfl ?_
        refine y_zret hK rfl dX6_link_51 (by omega) ?_
        first | exact k0 (by omega) | exact kE (by assumption)
  · refine r_if_eq (tgt := 50) hC dX6_link_5 rfl (fun h20 => ?_) (fun h20 => by omega)
    refine r_iconst hC dX6_link_50 rfl ?_
    refine y_zret hK rfl dX6_link_51 (by omega) ?_
    first | exact k0 (by omega) | exact kE (by assumption)
theorem m_unlink {e : Ev} {d : Nat} {P : Option Vl → Mm → Prop} {σ : Mm} {l : Int}   (k1 : 0 ≤ l ∧ l ≤ 3 ∧ σ 31 0 (22 * l + 0) = 1 ∧ 0 ≤ σ 45 0 l → ∀ ρ : Mm, Al1 σ ρ 45 0 l → ρ 45 0 l = -1 → P (some (vI 1)) ρ) (k0 : ¬ (0 ≤ l ∧ l ≤ 3 ∧ σ 31 0 (22 * l + 0) = 1 ∧ 0 ≤ σ 45 0 l) → P (some (vI 0)) σ) : WT e (d + 3) 200 [vR 30 0, vI l] σ P := by
  refine WT_in fun K hK => ?_
  have hK : StpY e cX6_unlink RX6 (some .boolean) (WT e (d + 2)) P K := hK
  have hM := hK.1
  have hC := hK.1.1
  show K 0 [some (vR 30 0), some (vI l)] [] σ
  refine r_rngz hC (fun g0 => ?_)
  have r_l : -2147483648 ≤ l ∧ l ≤ 2147483647 := inR_le (g0 (vI l) (by simp))
  refine r_aload_n hC dX6_unlink_0 rfl ?_
  refine r_iload_n hC dX6_unlink_1 rfl ?_
  refine z_inv1 hM dX6_unlink_2 vl_RX6_124 rfl rfl rfl (Nat.le_of_ble_eq_true rfl) (Nat.le_of_ble_eq_true rfl) ?_
  refine m_isLaneX (fun h1 => ?_) (fun h1 => ?_)
  · refine r_if_eq (tgt := 17) hC dX6_unlink_5 rfl (fun h2 => by omega) (fun h2 => ?_)
    refine r_aload_n hC dX6_unlink_8 rfl ?_
    refine z_getR hM dX6_unlink_9 fl_RX6_52 rfl rfl (vld_of (n := 1) rfl (by omega) (by omega)) ?_
    refine r_iload_n hC dX6_unlink_12 rfl ?_
    refine z_iald hM dX6_unlink_13 rfl (by omega) (by omega) (fun v3 h_v3 o_v3 t_v3 => ?_)
    have w_v3 := t_v3 (Or.inl trivial)
    subst w_v3
    have q_v3 : -1 ≤ (σ 45 0 l) ∧ (σ 45 0 l) ≤ 3 := o_v3
    refine r_if_ge (tgt := 19) hC dX6_unlink_14 rfl (fun h4 => ?_) (fun h4 => ?_)
    · refine r_aload_n hC dX6_unlink_19 rfl ?_
      refine z_getR hM dX6_unlink_20 fl_RX6_52 rfl rfl (vld_of (n := 1) rfl (by omega) (by omega)) ?_
      refine r_iload_n hC dX6_unlink_23 rfl ?_
      refine r_iconst hC dX6_unlink_24 rfl ?_
      refine z_iastG hM dX6_unlink_25 rfl (by omega) (by omega) ⟨Or.inr (by simp [DL]), Or.inr (by simp [DF])⟩ (by simp only [Okv]; omega) (fun ρ5 a_ρ5 q_ρ5 => ?_)
      refine r_iconst hC dX6_unlink_26 rfl ?_
      refine y_zret hK rfl dX6_unlink_27 (by omega) ?_
      exact k1 (by omega) _ a_ρ5 q_ρ5
    · refine r_iconst hC dX6_unlink_17 rfl ?_
      refine y_zret hK rfl dX6_unlink_18 (by omega) ?_
      exact k0 (by omega)
  · refine r_if_eq (tgt := 17) hC dX6_unlink_5 rfl (fun h6 => ?_) (fun h6 => by omega)
    refine r_iconst hC dX6_unlink_17 rfl ?_
    refine y_zret hK rfl dX6_unlink_18 (by omega) ?_
    exact k0 (by omega)
theorem m_table {e : Ev} {d : Nat} {P : Option Vl → Mm → Prop} {σ : Mm} {x y : Int}   (k1 : 0 ≤ x ∧ x ≤ 15 ∧ 0 ≤ y ∧ y ≤ 3 → ¬ (∃ i : Int, 0 ≤ i ∧ i ≤ 6 ∧ σ 31 0 (22 * i + 0) = 1 ∧ σ 31 0 (22 * i + 1) = 9) → ∀ ρ : Mm, Al1 σ ρ 35 0 x → ρ 35 0 x = y → P (some (vI 1)) ρ) (k0 : ¬ (0 ≤ x ∧ x ≤ 15 ∧ 0 ≤ y ∧ y ≤ 3) → P (some (vI 0)) σ) (kE : (∃ i : Int, 0 ≤ i ∧ i ≤ 6 ∧ σ 31 0 (22 * i + 0) = 1 ∧ σ 31 0 (22 * i + 1) = 9) → P (some (vI 0)) σ) : WT e (d + 3) 143 [vR 30 0, vI x, vI y] σ P := by
  refine WT_in fun K hK => ?_
  have hK : StpY e cX6_table RX6 (some .boolean) (WT e (d + 2)) P K := hK
  have hM := hK.1
  have hC := hK.1.1
  show K 0 [some (vR 30 0), some (vI x), some (vI y)] [] σ
  refine r_rngz hC (fun g0 => ?_)
  have r_x : -2147483648 ≤ x ∧ x ≤ 2147483647 := inR_le (g0 (vI x) (by simp))
  have r_y : -2147483648 ≤ y ∧ y ≤ 2147483647 := inR_le (g0 (vI y) (by simp))
  refine r_iload_n hC dX6_table_0 rfl ?_
  refine r_iconst hC dX6_table_1 rfl ?_
  refine r_bipush hC dX6_table_2 rfl ?_
  refine z_ins3 hM dX6_table_4 tl_RX6_76 rfl (Nat.le_of_ble_eq_true rfl) (Nat.le_of_ble_eq_true rfl) ?_
  refine m_isIn (fun h2 => ?_) (fun h2 => ?_)
  · refine r_if_eq (tgt := 28) hC dX6_table_7 rfl (fun h3 => by omega) (fun h3 => ?_)
    refine r_iload_n hC dX6_table_10 rfl ?_
    refine r_iconst hC dX6_table_11 rfl ?_
    refine r_iconst hC dX6_table_12 rfl ?_
    refine z_ins3 hM dX6_table_13 tl_RX6_76 rfl (Nat.le_of_ble_eq_true rfl) (Nat.le_of_ble_eq_true rfl) ?_
    refine m_isIn (fun h5 => ?_) (fun h5 => ?_)
    · refine r_if_eq (tgt := 28) hC dX6_table_16 rfl (fun h6 => by omega) (fun h6 => ?_)
      refine r_aload_n hC dX6_table_19 rfl ?_
      refine r_bipush hC dX6_table_20 rfl ?_
      refine z_inv1 hM dX6_table_22 vl_RX6_84 rfl rfl rfl (Nat.le_of_ble_eq_true rfl) (Nat.le_of_ble_eq_true rfl) ?_
      refine m_isUsedX (fun h7 => ?_) (fun h7 => ?_)
      · refine r_if_eq (tgt := 30) hC dX6_table_25 rfl (fun h8 => by omega) (fun h8 => ?_)
        refine r_iconst hC dX6_table_28 rfl ?_
        refine y_zret hK rfl dX6_table_29 (by omega) ?_
        first | exact k0 (by omega) | exact kE (by assumption)
      · refine r_if_eq (tgt := 30) hC dX6_table_25 rfl (fun h9 => ?_) (fun h9 => by omega)
        refine r_aload_n hC dX6_table_30 rfl ?_
        refine z_getR hM dX6_table_31 fl_RX6_22 rfl rfl (vld_of (n := 1) rfl (by omega) (by omega)) ?_
        refine r_iload_n hC dX6_table_34 rfl ?_
        refine r_iload_n hC dX6_table_35 rfl ?_
        refine z_iastG hM dX6_table_36 rfl (by omega) (by omega) ⟨Or.inr (by simp [DL]), Or.inr (by simp [DF])⟩ (by simp only [Okv]; omega) (fun ρ10 a_ρ10 q_ρ10 => ?_)
        refine r_iconst hC dX6_table_37 rfl ?_
        refine y_zret hK rfl dX6_table_38 (by omega) ?_
        exact k1 (by omega) (by assumption) _ a_ρ10 q_ρ10
    · refine r_if_eq (tgt := 28) hC dX6_table_16 rfl (fun h11 => ?_) (fun h11 => by omega)
      refine r_iconst hC dX6_table_28 rfl ?_
      refine y_zret hK rfl dX6_table_29 (by omega) ?_
      first | exact k0 (by omega) | exact kE (by assumption)
  · refine r_if_eq (tgt := 28) hC dX6_table_7 rfl (fun h12 => ?_) (fun h12 => by omega)
    refine r_iconst hC dX6_table_28 rfl ?_
    refine y_zret hK rfl dX6_table_29 (by omega) ?_
    first | exact k0 (by omega) | exact kE (by assumption)
theorem m_keep_S {d : Nat} {P : Option Vl → Mm → Prop} {σ : Mm} {l x : Int} (hL : InL σ)  (k1 : 0 ≤ l ∧ l ≤ 3 ∧ σ 31 0 (22 * l + 0) = 1 ∧ 0 ≤ x ∧ x ≤ 2 → ∀ (r : Int) (ρ : Mm), GL (fun c X y => c = 31 ∧ X = 0 ∧ 22 * (x + 4) ≤ y ∧ y < 22 * (x + 4) + 22) σ ρ → ρ 31 0 (22 * (x + 4) + 0) = σ 31 0 (22 * l + 0) → ρ 31 0 (22 * (x + 4) + 1) = σ 31 0 (22 * l + 1) → ρ 31 0 (22 * (x + 4) + 21) = l → P (some (vI r)) ρ) (k0 : ¬ (0 ≤ l ∧ l ≤ 3 ∧ σ 31 0 (22 * l + 0) = 1 ∧ 0 ≤ x ∧ x ≤ 2) → P (some (vI (-1))) σ) : WT (true, false, false) (d + 4) 254 [vR 30 0, vI l, vI x] σ P := by
  refine WT_in fun K hK => ?_
  have hK : StpY (true, false, false) cX6_keep RX6 (some .int) (WT (true, false, false) (d + 3)) P K := hK
  have hM := hK.1
  have hC := hK.1.1
  show K 0 [some (vR 30 0), some (vI l), some (vI x)] [] σ
  refine r_rngz hC (fun g0 => ?_)
  have r_l : -2147483648 ≤ l ∧ l ≤ 2147483647 := inR_le (g0 (vI l) (by simp))
  have r_x : -2147483648 ≤ x ∧ x ≤ 2147483647 := inR_le (g0 (vI x) (by simp))
  refine r_aload_n hC dX6_keep_0 rfl ?_
  refine r_iload_n hC dX6_keep_1 rfl ?_
  refine z_inv1 hM dX6_keep_2 vl_RX6_124 rfl rfl rfl (Nat.le_of_ble_eq_true rfl) (Nat.le_of_ble_eq_true rfl) ?_
  refine m_isLaneX (fun h1 => ?_) (fun h1 => ?_)
  · refine r_if_eq (tgt := 17) hC dX6_keep_5 rfl (fun h2 => by omega) (fun h2 => ?_)
    refine r_iload_n hC dX6_keep_8 rfl ?_
    refine r_iconst hC dX6_keep_9 rfl ?_
    refine r_iconst hC dX6_keep_10 rfl ?_
    refine z_ins3 hM dX6_keep_11 tl_RX6_76 rfl (Nat.le_of_ble_eq_true rfl) (Nat.le_of_ble_eq_true rfl) ?_
    refine m_isIn (fun h4 => ?_) (fun h4 => ?_)
    · refine r_if_ne (tgt := 19) hC dX6_keep_14 rfl (fun h5 => ?_) (fun h5 => by omega)
      refine r_aload_n hC dX6_keep_19 rfl ?_
      refine r_iload_n hC dX6_keep_20 rfl ?_
      refine r_iconst hC dX6_keep_21 rfl ?_
      refine r_iload_n hC dX6_keep_22 rfl ?_
      refine r_iaddE hC ((x + 4)) dX6_keep_23 (by omega) (by unfold inR; omega) ?_
      refine z_inv2 hM dX6_keep_24 vl_RX6_292 rfl rfl rfl (Nat.le_of_ble_eq_true rfl) (Nat.le_of_ble_eq_true rfl) ?_
      refine m_copyLane (by omega) (by omega) (by omega) ?_
      obtain ⟨ρ6, e_ρ6⟩ : ∃ ρ, ρ = cpy σ 31 0 (22 * l) 31 0 (22 * (x + 4)) 22 := ⟨_, rfl⟩
      rw [← e_ρ6]
      have g_ρ6 : Gx (fun c X y => c = 31 ∧ X = 0 ∧ 22 * (x + 4) ≤ y ∧ y < 22 * (x + 4) + 22) σ ρ6 := fun c X y h => by rw [e_ρ6]; exact if_neg h
      have q0 : ρ6 31 0 (22 * (x + 4) + 0) = σ 31 0 (22 * l + 0) := by rw [e_ρ6]; exact cpy_at (by omega)
      have q1 : ρ6 31 0 (22 * (x + 4) + 1) = σ 31 0 (22 * l + 1) := by rw [e_ρ6]; exact cpy_at (by omega)
      have q2 : ρ6 31 0 (22 * (x + 4) + 2) = σ 31 0 (22 * l + 2) := by rw [e_ρ6]; exact cpy_at (by omega)
      have q3 : ρ6 31 0 (22 * (x + 4) + 3) = σ 31 0 (22 * l + 3) := by rw [e_ρ6]; exact cpy_at (by omega)
      have q5 : ρ6 31 0 (22 * (x + 4) + 5) = σ 31 0 (22 * l + 5) := by rw [e_ρ6]; exact cpy_at (by omega)
      have q21 : ρ6 31 0 (22 * (x + 4) + 21) = σ 31 0 (22 * l + 21) := by rw [e_ρ6]; exact cpy_at (by omega)
      refine r_aload_n hC dX6_keep_27 rfl ?_
      refine r_iconst hC dX6_keep_28 rfl ?_
      refine r_iload_n hC dX6_keep_29 rfl ?_
      refine r_iaddE hC ((x + 4)) dX6_keep_30 (by omega) (by unfold inR; omega) ?_
      refine r_bipush hC dX6_keep_31 rfl ?_
      refine r_iload_n hC dX6_keep_33 rfl ?_
      refine z_inv3 hM dX6_keep_34 vl_RX6_173 rfl rfl rfl (Nat.le_of_ble_eq_true rfl) (Nat.le_of_ble_eq_true rfl) ?_
      refine m_setT (by omega) (by omega) ⟨fun h => by omega, fun h => by omega⟩ (fun ρ7 a_ρ7 qF => ?_)
      refine r_aload_n hC dX6_keep_37 rfl ?_
      refine r_iload_n hC dX6_keep_38 rfl ?_
      refine z_inv1 hM dX6_keep_39 vl_RX6_116 rfl rfl rfl (Nat.le_of_ble_eq_true rfl) (Nat.le_of_ble_eq_true rfl) ?_
      refine m_heldOf (by omega) (fun v8 h_v8 t_v8 => ?_)
      refine y_iret hK rfl dX6_keep_42 ?_
      have z0 := a_ρ7 31 0 (22 * (x + 4) + 0) (by omega)
      have z1 := a_ρ7 31 0 (22 * (x + 4) + 1) (by omega)
      have z2 := a_ρ7 31 0 (22 * (x + 4) + 2) (by omega)
      have z3 := a_ρ7 31 0 (22 * (x + 4) + 3) (by omega)
      have z5 := a_ρ7 31 0 (22 * (x + 4) + 5) (by omega)
      have hr := hL.2 l (by omega) (by omega)
      rw [← q2, ← q3, ← q5, ← z2, ← z3, ← z5] at hr
      have g0_ : ∀ (c : Nat) (X y : Int), ¬ (c = 31 ∧ X = 0 ∧ 22 * (x + 4) ≤ y ∧ y < 22 * (x + 4) + 22) → ρ7 c X y = σ c X y := fun c X y h => (a_ρ7 c X y (by omega)).trans (g_ρ6 c X y h)
      exact k1 (by omega) _ _ ⟨g0_, hL.lane31 (l := x + 4) g0_ hr⟩ (by omega) (by omega) qF
    · refine r_if_ne (tgt := 19) hC dX6_keep_14 rfl (fun h9 => by omega) (fun h9 => ?_)
      refine r_iconst hC dX6_keep_17 rfl ?_
      refine y_iret hK rfl dX6_keep_18 ?_
      exact k0 (by omega)
  · refine r_if_eq (tgt := 17) hC dX6_keep_5 rfl (fun h10 => ?_) (fun h10 => by omega)
    refine r_iconst hC dX6_keep_17 rfl ?_
    refine y_iret hK rfl dX6_keep_18 ?_
    exact k0 (by omega)
theorem m_back_S {d : Nat} {P : Option Vl → Mm → Prop} {σ : Mm} {x : Int} (hL : InL σ) {l : Int} (hl : 0 ≤ l ∧ l ≤ 3) (hn : 0 ≤ x → x ≤ 2 → σ 31 0 (22 * (x + 4) + 0) = 1 → σ 31 0 (22 * (x + 4) + 21) = l)  (k1 : 0 ≤ x ∧ x ≤ 2 ∧ σ 31 0 (22 * (x + 4) + 0) = 1 → ∀ (r : Int) (ρ : Mm), GL (fun c X y => c = 31 ∧ X = 0 ∧ 22 * l ≤ y ∧ y < 22 * l + 22 ∨ c = 45 ∧ X = 0) σ ρ → ρ 31 0 (22 * l + 0) = σ 31 0 (22 * (x + 4) + 0) → ρ 31 0 (22 * l + 1) = σ 31 0 (22 * (x + 4) + 1) → (∀ i : Int, 0 ≤ i → i ≤ 3 → ρ 45 0 i = if i = l ∨ σ 45 0 i = l then -1 else σ 45 0 i) → P (some (vI r)) ρ) (k0 : ¬ (0 ≤ x ∧ x ≤ 2 ∧ σ 31 0 (22 * (x + 4) + 0) = 1) → P (some (vI (-1))) σ) : WT (true, false, false) (d + 4) 255 [vR 30 0, vI x] σ P := by
  refine WT_in fun K hK => ?_
  have hK : StpY (true, false, false) cX6_back RX6 (some .int) (WT (true, false, false) (d + 3)) P K := hK
  have hM := hK.1
  have hC := hK.1.1
  show K 0 [some (vR 30 0), some (vI x), none] [] σ
  refine r_rngz hC (fun g0 => ?_)
  have r_x : -2147483648 ≤ x ∧ x ≤ 2147483647 := inR_le (g0 (vI x) (by simp))
  refine r_iload_n hC dX6_back_0 rfl ?_
  refine r_iconst hC dX6_back_1 rfl ?_
  refine r_iconst hC dX6_back_2 rfl ?_
  refine z_ins3 hM dX6_back_3 tl_RX6_76 rfl (Nat.le_of_ble_eq_true rfl) (Nat.le_of_ble_eq_true rfl) ?_
  refine m_isIn (fun h2 => ?_) (fun h2 => ?_)
  · refine r_if_eq (tgt := 20) hC dX6_back_6 rfl (fun h3 => by omega) (fun h3 => ?_)
    refine r_aload_n hC dX6_back_9 rfl ?_
    refine r_iconst hC dX6_back_10 rfl ?_
    refine r_iload_n hC dX6_back_11 rfl ?_
    refine r_iaddE hC ((x + 4)) dX6_back_12 (by omega) (by unfold inR; omega) ?_
    refine r_iconst hC dX6_back_13 rfl ?_
    refine z_inv2 hM dX6_back_14 vl_RX6_80 rfl rfl rfl (Nat.le_of_ble_eq_true rfl) (Nat.le_of_ble_eq_true rfl) ?_
    refine m_of (by omega) (by omega) (fun v4 h_v4 h5_v4 h0_v4 t_v4 => ?_)
    have w_v4 := t_v4 (Or.inl (by simp only [Tb]; try omega))
    subst w_v4
    have q_v4 := h0_v4 rfl
    refine r_if_ne (tgt := 22) hC dX6_back_17 rfl (fun h5 => ?_) (fun h5 => ?_)
    · refine r_aload_n hC dX6_back_22 rfl ?_
      refine r_iconst hC dX6_back_23 rfl ?_
      refine r_iload_n hC dX6_back_24 rfl ?_
      refine r_iaddE hC ((x + 4)) dX6_back_25 (by omega) (by unfold inR; omega) ?_
      refine r_bipush hC dX6_back_26 rfl ?_
      refine z_inv2 hM dX6_back_28 vl_RX6_80 rfl rfl rfl (Nat.le_of_ble_eq_true rfl) (Nat.le_of_ble_eq_true rfl) ?_
      refine m_of (by omega) (by omega) (fun v6 h_v6 h5_v6 h0_v6 t_v6 => ?_)
      have w_v6 : l = v6 := ((t_v6 (Or.inl (by simp only [Tb]; try omega))).trans (by omega)).symm
      subst w_v6
      refine r_istore_n hC dX6_back_31 rfl ?_
      refine r_aload_n hC dX6_back_32 rfl ?_
      refine r_iconst hC dX6_back_33 rfl ?_
      refine r_iload_n hC dX6_back_34 rfl ?_
      refine r_iaddE hC ((x + 4)) dX6_back_35 (by omega) (by unfold inR; omega) ?_
      refine r_iload_n hC dX6_back_36 rfl ?_
      refine z_inv2 hM dX6_back_37 vl_RX6_292 rfl rfl rfl (Nat.le_of_ble_eq_true rfl) (Nat.le_of_ble_eq_true rfl) ?_
      refine m_copyLane (by omega) (by omega) (by omega) ?_
      obtain ⟨ρ7, e_ρ7⟩ : ∃ ρ, ρ = cpy σ 31 0 (22 * (x + 4)) 31 0 (22 * l) 22 := ⟨_, rfl⟩
      rw [← e_ρ7]
      have g_ρ7 : Gx (fun c X y => c = 31 ∧ X = 0 ∧ 22 * l ≤ y ∧ y < 22 * l + 22) σ ρ7 := fun c X y h => by rw [e_ρ7]; exact if_neg h
      have q0 : ρ7 31 0 (22 * l + 0) = σ 31 0 (22 * (x + 4) + 0) := by rw [e_ρ7]; exact cpy_at (by omega)
      have q1 : ρ7 31 0 (22 * l + 1) = σ 31 0 (22 * (x + 4) + 1) := by rw [e_ρ7]; exact cpy_at (by omega)
      have q2 : ρ7 31 0 (22 * l + 2) = σ 31 0 (22 * (x + 4) + 2) := by rw [e_ρ7]; exact cpy_at (by omega)
      have q3 : ρ7 31 0 (22 * l + 3) = σ 31 0 (22 * (x + 4) + 3) := by rw [e_ρ7]; exact cpy_at (by omega)
      have q5 : ρ7 31 0 (22 * l + 5) = σ 31 0 (22 * (x + 4) + 5) := by rw [e_ρ7]; exact cpy_at (by omega)
      have q21 : ρ7 31 0 (22 * l + 21) = σ 31 0 (22 * (x + 4) + 21) := by rw [e_ρ7]; exact cpy_at (by omega)
      refine r_aload_n hC dX6_back_40 rfl ?_
      refine r_iload_n hC dX6_back_41 rfl ?_
      refine z_inv1 hM dX6_back_42 vl_RX6_176 rfl rfl rfl (Nat.le_of_ble_eq_true rfl) (Nat.le_of_ble_eq_true rfl) ?_
      refine m_endWatches ?_
      refine r_aload_n hC dX6_back_45 rfl ?_
      refine r_iload_n hC dX6_back_46 rfl ?_
      refine z_inv1 hM dX6_back_47 vl_RX6_179 rfl rfl rfl (Nat.le_of_ble_eq_true rfl) (Nat.le_of_ble_eq_true rfl) ?_
      refine m_endLinks (by omega) (fun ρ8 g_ρ8 t_ρ8 => ?_)
      refine r_aload_n hC dX6_back_50 rfl ?_
      refine r_iload_n hC dX6_back_51 rfl ?_
      refine z_inv1 hM dX6_back_52 vl_RX6_116 rfl rfl rfl (Nat.le_of_ble_eq_true rfl) (Nat.le_of_ble_eq_true rfl) ?_
      refine m_heldOf (by omega) (fun v9 h_v9 t_v9 => ?_)
      refine y_iret hK rfl dX6_back_55 ?_
      have z0 := g_ρ8 31 0 (22 * l + 0) (by omega)
      have z1 := g_ρ8 31 0 (22 * l + 1) (by omega)
      have z2 := g_ρ8 31 0 (22 * l + 2) (by omega)
      have z3 := g_ρ8 31 0 (22 * l + 3) (by omega)
      have z5 := g_ρ8 31 0 (22 * l + 5) (by omega)
      have hr := hL.2 (x + 4) (by omega) (by omega)
      rw [← q2, ← q3, ← q5] at hr
      have hI := (hL.lane31 (l := l) g_ρ7 hr).to (τ2 := ρ8) (fun c i j hD => g_ρ8 c i j (by rintro ⟨rfl, rfl⟩; exact hD))
      exact k1 (by omega) _ _ ⟨fun c X y h => (g_ρ8 c X y (by omega)).trans (g_ρ7 c X y (by omega)), hI⟩ (by omega) (by omega) (fun i h0 h3 => by rw [t_ρ8 i h0 h3, g_ρ7 45 0 i (by omega)])
    · refine r_iconst hC dX6_back_20 rfl ?_
      refine y_iret hK rfl dX6_back_21 ?_
      exact k0 (by omega)
  · refine r_if_eq (tgt := 20) hC dX6_back_6 rfl (fun h10 => ?_) (fun h10 => by omega)
    refine r_iconst hC dX6_back_20 rfl ?_
    refine y_iret hK rfl dX6_back_21 ?_
    exact k0 (by omega)
