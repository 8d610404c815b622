-- what is tracked is written
theorem s_Link_end {e : Ev} {d : Nat} {P : Option Vl → Mm → Prop} {σ : Mm} {i t : Int} (b_i : 0 ≤ i ∧ i ≤ 3) (qg0 : σ 13 i 0 = t)  (k : ∀ ρ : Mm, Al1 σ ρ 13 i 0 → ρ 13 i 0 = -1 → P none ρ) : WT e (d + 1) 40 [vR 13 i] σ P := by
  refine WT_in fun K hK => ?_
  have hK : StpY e cX3_end RX3 (none) (WT e (d + 0)) P K := hK
  have hM := hK.1
  have hC := hK.1.1
  show K 0 [some (vR 13 i)] [] σ
  refine r_aload_n hC dX3_end_0 rfl ?_
  refine r_iconst hC dX3_end_1 rfl ?_
  refine z_putIG (jz := 0) hM dX3_end_2 fw_RX3_9 rfl rfl rfl ⟨Or.inr (by simp [DL]), Or.inr (by simp [DF])⟩ (by first | trivial | (simp only [Okv]; omega) | (simp [Okv]; try omega)) (fun ρ1 a_ρ1 q_ρ1 => ?_)
  refine y_vret hK rfl dX3_end_5 ?_
  exact k _ ((Gx.rf).al a_ρ1 (by first | simp | omega)) (by have hq := q_ρ1; omega)
theorem s_endTies0 {e : Ev} {d : Nat} {P : Option Vl → Mm → Prop} {σ : Mm} {t0 t1 t2 t3 : Int} (qg0 : σ 13 0 0 = t0) (qg1 : σ 13 1 0 = t1) (qg2 : σ 13 2 0 = t2) (qg3 : σ 13 3 0 = t3)  (k : ∀ ρ : Mm, Gx (fun c x y => c = 13 ∧ y = 0) σ ρ → (∀ i : Int, 0 ≤ i → i ≤ 3 → ρ 13 i 0 = if i = 0 ∨ σ 13 i 0 = 0 then -1 else σ 13 i 0) → P none ρ) : WT e (d + 2) 108 [vR 2 0, vI 0] σ P := by
  refine WT_in fun K hK => ?_
  have hK : StpY e cX5_endTies RX5 (none) (WT e (d + 1)) P K := hK
  have hM := hK.1
  have hC := hK.1.1
  show K 0 [some (vR 2 0), some (vI 0), none] [] σ
  refine r_iconst hC dX5_endTies_0 rfl ?_
  refine r_istore_n hC dX5_endTies_1 rfl ?_
  have L2 : ∀ (n2 : Nat) (w1 : Int) (ρ2 : Mm), 0 ≤ w1 ∧ w1 ≤ 8 → 8 - w1 < (n2 : Int) → Gx (fun c x y => c = 13 ∧ y = 0) σ ρ2 → ρ2 13 0 0 = t0 → ρ2 13 1 0 = t1 → ρ2 13 2 0 = t2 → ρ2 13 3 0 = t3 → K 2 [some (vR 2 0), some (vI 0), some (vI w1)] [] ρ2 := by
    intro n2
    induction n2 with
    | zero => intro w1 ρ2 f_w1  hm g_ρ2 q0_ρ2 q1_ρ2 q2_ρ2 q3_ρ2; omega
    | succ n2 ih2 =>
      intro w1 ρ2 f_w1  hm2 g_ρ2 q0_ρ2 q1_ρ2 q2_ρ2 q3_ρ2
      refine r_iload_n hC dX5_endTies_2 rfl ?_
      refine r_bipush hC dX5_endTies_3 rfl ?_
      refine r_icmp_ge (tgt := 36) hC dX5_endTies_5 rfl (fun h3 => ?_) (fun h3 => ?_)
      · refine r_iconst hC dX5_endTies_36 rfl ?_
        refine r_istore_n hC dX5_endTies_37 rfl ?_
        refine r_iload_n hC dX5_endTies_38 rfl ?_
        refine r_iconst hC dX5_endTies_39 rfl ?_
        refine r_icmp_ge (tgt := 76) hC dX5_endTies_40 rfl (fun h4 => by omega) (fun h4 => ?_)
        refine r_iload_n hC dX5_endTies_43 rfl ?_
        refine r_iload_n hC dX5_endTies_44 rfl ?_
        refine r_icmp_eq (tgt := 61) hC dX5_endTies_45 rfl (fun h5 => ?_) (fun h5 => by omega)
        refine r_aload_n hC dX5_endTies_61 rfl ?_
        refine z_getR hM dX5_endTies_62 fl_RX5_19 rfl rfl (vld_of (n := 1) rfl (by omega) (by omega)) ?_
        refine r_iload_n hC dX5_endTies_65 rfl ?_
        refine z_aald hM dX5_endTies_66 rfl (by decide) (by omega) (by omega) (vld_of (n := 4) rfl (by omega) (by omega)) ?_
        refine z_inv0 hM dX5_endTies_67 vl_RX5_340 rfl rfl rfl (Nat.le_of_ble_eq_true rfl) (Nat.le_of_ble_eq_true rfl) ?_
        refine s_Link_end (t := t0) (by omega) (by have hq := q0_ρ2; omega) (fun ρ6 a_ρ6 q_ρ6 => ?_)
        refine r_iincE hC (1) dX5_endTies_70 rfl rfl (by omega) (by unfold inR; omega) ?_
        refine r_goto (tgt := 38) hC dX5_endTies_73 rfl ?_
        refine r_iload_n hC dX5_endTies_38 rfl ?_
        refine r_iconst hC dX5_endTies_39 rfl ?_
        refine r_icmp_ge (tgt := 76) hC dX5_endTies_40 rfl (fun h7 => by omega) (fun h7 => ?_)
        refine r_iload_n hC dX5_endTies_43 rfl ?_
        refine r_iload_n hC dX5_endTies_44 rfl ?_
        refine r_icmp_eq (tgt := 61) hC dX5_endTies_45 rfl (fun h8 => by omega) (fun h8 => ?_)
        refine r_aload_n hC dX5_endTies_48 rfl ?_
        refine z_getR hM dX5_endTies_49 fl_RX5_19 rfl rfl (vld_of (n := 1) rfl (by omega) (by omega)) ?_
        refine r_iload_n hC dX5_endTies_52 rfl ?_
        refine z_aald hM dX5_endTies_53 rfl (by decide) (by omega) (by omega) (vld_of (n := 4) rfl (by omega) (by omega)) ?_
        refine z_getI (jz := 0) hM dX5_endTies_54 fl_RX5_215 rfl rfl rfl (fun v9 h_v9 o_v9 t_v9 => ?_)
        have e_v9 : t1 = v9 := ((t_v9 (Or.inl (by simp [Tb]))).trans ((a_ρ6 _ _ _ (by omega)).trans q1_ρ2)).symm
        subst e_v9
        refine r_iload_n hC dX5_endTies_57 rfl ?_
        refine r_icmp_ne (tgt := 70) hC dX5_endTies_58 rfl (fun h10 => ?_) (fun h10 => ?_)
        · refine r_iincE hC (2) dX5_endTies_70 rfl rfl (by omega) (by unfold inR; omega) ?_
          refine r_goto (tgt := 38) hC dX5_endTies_73 rfl ?_
          refine r_iload_n hC dX5_endTies_38 rfl ?_
          refine r_iconst hC dX5_endTies_39 rfl ?_
          refine r_icmp_ge (tgt := 76) hC dX5_endTies_40 rfl (fun h11 => by omega) (fun h11 => ?_)
          refine r_iload_n hC dX5_endTies_43 rfl ?_
          refine r_iload_n hC dX5_endTies_44 rfl ?_
          refine r_icmp_eq (tgt := 61) hC dX5_endTies_45 rfl (fun h12 => by omega) (fun h12 => ?_)
          refine r_aload_n hC dX5_endTies_48 rfl ?_
          refine z_getR hM dX5_endTies_49 fl_RX5_19 rfl rfl (vld_of (n := 1) rfl (by omega) (by omega)) ?_
          refine r_iload_n hC dX5_endTies_52 rfl ?_
          refine z_aald hM dX5_endTies_53 rfl (by decide) (by omega) (by omega) (vld_of (n := 4) rfl (by omega) (by omega)) ?_
          refine z_getI (jz := 0) hM dX5_endTies_54 fl_RX5_215 rfl rfl rfl (fun v13 h_v13 o_v13 t_v13 => ?_)
          have e_v13 : t2 = v13 := ((t_v13 (Or.inl (by simp [Tb]))).trans ((a_ρ6 _ _ _ (by omega)).trans q2_ρ2)).symm
          subst e_v13
          refine r_iload_n hC dX5_endTies_57 rfl ?_
          refine r_icmp_ne (tgt := 70) hC dX5_endTies_58 rfl (fun h14 => ?_) (fun h14 => ?_)
          · refine r_iincE hC (3) dX5_endTies_70 rfl rfl (by omega) (by unfold inR; omega) ?_
            refine r_goto (tgt := 38) hC dX5_endTies_73 rfl ?_
            refine r_iload_n hC dX5_endTies_38 rfl ?_
            refine r_iconst hC dX5_endTies_39 rfl ?_
            refine r_icmp_ge (tgt := 76) hC dX5_endTies_40 rfl (fun h15 => by omega) (fun h15 => ?_)
            refine r_iload_n hC dX5_endTies_43 rfl ?_
            refine r_iload_n hC dX5_endTies_44 rfl ?_
            refine r_icmp_eq (tgt := 61) hC dX5_endTies_45 rfl (fun h16 => by omega) (fun h16 => ?_)
            refine r_aload_n hC dX5_endTies_48 rfl ?_
            refine z_getR hM dX5_endTies_49 fl_RX5_19 rfl rfl (vld_of (n := 1) rfl (by omega) (by omega)) ?_
            refine r_iload_n hC dX5_endTies_52 rfl ?_
            refine z_aald hM dX5_endTies_53 rfl (by decide) (by omega) (by omega) (vld_of (n := 4) rfl (by omega) (by omega)) ?_
            refine z_getI (jz := 0) hM dX5_endTies_54 fl_RX5_215 rfl rfl rfl (fun v17 h_v17 o_v17 t_v17 => ?_)
            have e_v17 : t3 = v17 := ((t_v17 (Or.inl (by simp [Tb]))).trans ((a_ρ6 _ _ _ (by omega)).trans q3_ρ2)).symm
            subst e_v17
            refine r_iload_n hC dX5_endTies_57 rfl ?_
            refine r_icmp_ne (tgt := 70) hC dX5_endTies_58 rfl (fun h18 => ?_) (fun h18 => ?_)
            · refine r_iincE hC (4) dX5_endTies_70 rfl rfl (by omega) (by unfold inR; omega) ?_
              refine r_goto (tgt := 38) hC dX5_endTies_73 rfl ?_
              refine r_iload_n hC dX5_endTies_38 rfl ?_
              refine r_iconst hC dX5_endTies_39 rfl ?_
              refine r_icmp_ge (tgt := 76) hC dX5_endTies_40 rfl (fun h19 => ?_) (fun h19 => by omega)
              refine y_vret hK rfl dX5_endTies_76 ?_
              have z0 := q_ρ6
              have z1 := ((a_ρ6 _ _ _ (by omega)).trans q1_ρ2)
              have z2 := ((a_ρ6 _ _ _ (by omega)).trans q2_ρ2)
              have z3 := ((a_ρ6 _ _ _ (by omega)).trans q3_ρ2)
              refine k _ ((g_ρ2).al a_ρ6 (by first | simp | omega)) (fun i h0 h3 => ?_)
              rcases (by omega : i = 0 ∨ i = 1 ∨ i = 2 ∨ i = 3) with rfl | rfl | rfl | rfl <;> split <;> omega
            · refine r_aload_n hC dX5_endTies_61 rfl ?_
              refine z_getR hM dX5_endTies_62 fl_RX5_19 rfl rfl (vld_of (n := 1) rfl (by omega) (by omega)) ?_
              refine r_iload_n hC dX5_endTies_65 rfl ?_
              refine z_aald hM dX5_endTies_66 rfl (by decide) (by omega) (by omega) (vld_of (n := 4) rfl (by omega) (by omega)) ?_
              refine z_inv0 hM dX5_endTies_67 vl_RX5_340 rfl rfl rfl (Nat.le_of_ble_eq_true rfl) (Nat.le_of_ble_eq_true rfl) ?_
              refine s_Link_end (t := t3) (by omega) (by have hq := ((a_ρ6 _ _ _ (by omega)).trans q3_ρ2); omega) (fun ρ20 a_ρ20 q_ρ20 => ?_)
              refine r_iincE hC (4) dX5_endTies_70 rfl rfl (by omega) (by unfold inR; omega) ?_
              refine r_goto (tgt := 38) hC dX5_endTies_73 rfl ?_
              refine r_iload_n hC dX5_endTies_38 rfl ?_
              refine r_iconst hC dX5_endTies_39 rfl ?_
              refine r_icmp_ge (tgt := 76) hC dX5_endTies_40 rfl (fun h21 => ?_) (fun h21 => by omega)
              refine y_vret hK rfl dX5_endTies_76 ?_
              have z0 := ((a_ρ20 _ _ _ (by omega)).trans q_ρ6)
              have z1 := ((a_ρ20 _ _ _ (by omega)).trans ((a_ρ6 _ _ _ (by omega)).trans q1_ρ2))
              have z2 := ((a_ρ20 _ _ _ (by omega)).trans ((a_ρ6 _ _ _ (by omega)).trans q2_ρ2))
              have z3 := q_ρ20
              refine k _ (((g_ρ2).al a_ρ6 (by first | simp | omega)).al a_ρ20 (by first | simp | omega)) (fun i h0 h3 => ?_)
              rcases (by omega : i = 0 ∨ i = 1 ∨ i = 2 ∨ i = 3) with rfl | rfl | rfl | rfl <;> split <;> omega
          · refine r_aload_n hC dX5_endTies_61 rfl ?_
            refine z_getR hM dX5_endTies_62 fl_RX5_19 rfl rfl (vld_of (n := 1) rfl (by omega) (by omega)) ?_
            refine r_iload_n hC dX5_endTies_65 rfl ?_
            refine z_aald hM dX5_endTies_66 rfl (by decide) (by omega) (by omega) (vld_of (n := 4) rfl (by omega) (by omega)) ?_
            refine z_inv0 hM dX5_endTies_67 vl_RX5_340 rfl rfl rfl (Nat.le_of_ble_eq_true rfl) (Nat.le_of_ble_eq_true rfl) ?_
            refine s_Link_end (t := t2) (by omega) (by have hq := ((a_ρ6 _ _ _ (by omega)).trans q2_ρ2); omega) (fun ρ22 a_ρ22 q_ρ22 => ?_)
            refine r_iincE hC (3) dX5_endTies_70 rfl rfl (by omega) (by unfold inR; omega) ?_
            refine r_goto (tgt := 38) hC dX5_endTies_73 rfl ?_
            refine r_iload_n hC dX5_endTies_38 rfl ?_
            refine r_iconst hC dX5_endTies_39 rfl ?_
            refine r_icmp_ge (tgt := 76) hC dX5_endTies_40 rfl (fun h23 => by omega) (fun h23 => ?_)
            refine r_iload_n hC dX5_endTies_43 rfl ?_
            refine r_iload_n hC dX5_endTies_44 rfl ?_
            refine r_icmp_eq (tgt := 61) hC dX5_endTies_45 rfl (fun h24 => by omega) (fun h24 => ?_)
            refine r_aload_n hC dX5_endTies_48 rfl ?_
            refine z_getR hM dX5_endTies_49 fl_RX5_19 rfl rfl (vld_of (n := 1) rfl (by omega) (by omega)) ?_
            refine r_iload_n hC dX5_endTies_52 rfl ?_
            refine z_aald hM dX5_endTies_53 rfl (by decide) (by omega) (by omega) (vld_of (n := 4) rfl (by omega) (by omega)) ?_
            refine z_getI (jz := 0) hM dX5_endTies_54 fl_RX5_215 rfl rfl rfl (fun v25 h_v25 o_v25 t_v25 => ?_)
            have e_v25 : t3 = v25 := ((t_v25 (Or.inl (by simp [Tb]))).trans ((a_ρ22 _ _ _ (by omega)).trans ((a_ρ6 _ _ _ (by omega)).trans q3_ρ2))).symm
            subst e_v25
            refine r_iload_n hC dX5_endTies_57 rfl ?_
            refine r_icmp_ne (tgt := 70) hC dX5_endTies_58 rfl (fun h26 => ?_) (fun h26 => ?_)
            · refine r_iincE hC (4) dX5_endTies_70 rfl rfl (by omega) (by unfold inR; omega) ?_
              refine r_goto (tgt := 38) hC dX5_endTies_73 rfl ?_
              refine r_iload_n hC dX5_endTies_38 rfl ?_
              refine r_iconst hC dX5_endTies_39 rfl ?_
              refine r_icmp_ge (tgt := 76) hC dX5_endTies_40 rfl (fun h27 => ?_) (fun h27 => by omega)
              refine y_vret hK rfl dX5_endTies_76 ?_
              have z0 := ((a_ρ22 _ _ _ (by omega)).trans q_ρ6)
              have z1 := ((a_ρ22 _ _ _ (by omega)).trans ((a_ρ6 _ _ _ (by omega)).trans q1_ρ2))
              have z2 := q_ρ22
              have z3 := ((a_ρ22 _ _ _ (by omega)).trans ((a_ρ6 _ _ _ (by omega)).trans q3_ρ2))
              refine k _ (((g_ρ2).al a_ρ6 (by first | simp | omega)).al a_ρ22 (by first | simp | omega)) (fun i h0 h3 => ?_)
              rcases (by omega : i = 0 ∨ i = 1 ∨ i = 2 ∨ i = 3) with rfl | rfl | rfl | rfl <;> split <;> omega
            · refine r_aload_n hC dX5_endTies_61 rfl ?_
              refine z_getR hM dX5_endTies_62 fl_RX5_19 rfl rfl (vld_of (n := 1) rfl (by omega) (by omega)) ?_
              refine r_iload_n hC dX5_endTies_65 rfl ?_
              refine z_aald hM dX5_endTies_66 rfl (by decide) (by omega) (by omega) (vld_of (n := 4) rfl (by omega) (by omega)) ?_
              refine z_inv0 hM dX5_endTies_67 vl_RX5_340 rfl rfl rfl (Nat.le_of_ble_eq_true rfl) (Nat.le_of_ble_eq_true rfl) ?_
              refine s_Link_end (t := t3) (by omega) (by have hq := ((a_ρ22 _ _ _ (by omega)).trans ((a_ρ6 _ _ _ (by omega)).trans q3_ρ2)); omega) (fun ρ28 a_ρ28 q_ρ28 => ?_)
              refine r_iincE hC (4) dX5_endTies_70 rfl rfl (by omega) (by unfold inR; omega) ?_
              refine r_goto (tgt := 38) hC dX5_endTies_73 rfl ?_
              refine r_iload_n hC dX5_endTies_38 rfl ?_
              refine r_iconst hC dX5_endTies_39 rfl ?_
              refine r_icmp_ge (tgt := 76) hC dX5_endTies_40 rfl (fun h29 => ?_) (fun h29 => by omega)
              refine y_vret hK rfl dX5_endTies_76 ?_
              have z0 := ((a_ρ28 _ _ _ (by omega)).trans ((a_ρ22 _ _ _ (by omega)).trans q_ρ6))
              have z1 := ((a_ρ28 _ _ _ (by omega)).trans ((a_ρ22 _ _ _ (by omega)).trans ((a_ρ6 _ _ _ (by omega)).trans q1_ρ2)))
              have z2 := ((a_ρ28 _ _ _ (by omega)).trans q_ρ22)
              have z3 := q_ρ28
              refine k _ ((((g_ρ2).al a_ρ6 (by first | simp | omega)).al a_ρ22 (by first | simp | omega)).al a_ρ28 (by first | simp | omega)) (fun i h0 h3 => ?_)
              rcases (by omega : i = 0 ∨ i = 1 ∨ i = 2 ∨ i = 3) with rfl | rfl | rfl | rfl <;> split <;> omega
        · refine r_aload_n hC dX5_endTies_61 rfl ?_
          refine z_getR hM dX5_endTies_62 fl_RX5_19 rfl rfl (vld_of (n := 1) rfl (by omega) (by omega)) ?_
          refine r_iload_n hC dX5_endTies_65 rfl ?_
          refine z_aald hM dX5_endTies_66 rfl (by decide) (by omega) (by omega) (vld_of (n := 4) rfl (by omega) (by omega)) ?_
          refine z_inv0 hM dX5_endTies_67 vl_RX5_340 rfl rfl rfl (Nat.le_of_ble_eq_true rfl) (Nat.le_of_ble_eq_true rfl) ?_
          refine s_Link_end (t := t1) (by omega) (by have hq := ((a_ρ6 _ _ _ (by omega)).trans q1_ρ2); omega) (fun ρ30 a_ρ30 q_ρ30 => ?_)
          refine r_iincE hC (2) dX5_endTies_70 rfl rfl (by omega) (by unfold inR; omega) ?_
          refine r_goto (tgt := 38) hC dX5_endTies_73 rfl ?_
          refine r_iload_n hC dX5_endTies_38 rfl ?_
          refine r_iconst hC dX5_endTies_39 rfl ?_
          refine r_icmp_ge (tgt := 76) hC dX5_endTies_40 rfl (fun h31 => by omega) (fun h31 => ?_)
          refine r_iload_n hC dX5_endTies_43 rfl ?_
          refine r_iload_n hC dX5_endTies_44 rfl ?_
          refine r_icmp_eq (tgt := 61) hC dX5_endTies_45 rfl (fun h32 => by omega) (fun h32 => ?_)
          refine r_aload_n hC dX5_endTies_48 rfl ?_
          refine z_getR hM dX5_endTies_49 fl_RX5_19 rfl rfl (vld_of (n := 1) rfl (by omega) (by omega)) ?_
          refine r_iload_n hC dX5_endTies_52 rfl ?_
          refine z_aald hM dX5_endTies_53 rfl (by decide) (by omega) (by omega) (vld_of (n := 4) rfl (by omega) (by omega)) ?_
          refine z_getI (jz := 0) hM dX5_endTies_54 fl_RX5_215 rfl rfl rfl (fun v33 h_v33 o_v33 t_v33 => ?_)
          have e_v33 : t2 = v33 := ((t_v33 (Or.inl (by simp [Tb]))).trans ((a_ρ30 _ _ _ (by omega)).trans ((a_ρ6 _ _ _ (by omega)).trans q2_ρ2))).symm
          subst e_v33
          refine r_iload_n hC dX5_endTies_57 rfl ?_
          refine r_icmp_ne (tgt := 70) hC dX5_endTies_58 rfl (fun h34 => ?_) (fun h34 => ?_)
          · refine r_iincE hC (3) dX5_endTies_70 rfl rfl (by omega) (by unfold inR; omega) ?_
            refine r_goto (tgt := 38) hC dX5_endTies_73 rfl ?_
            refine r_iload_n hC dX5_endTies_38 rfl ?_
            refine r_iconst hC dX5_endTies_39 rfl ?_
            refine r_icmp_ge (tgt := 76) hC dX5_endTies_40 rfl (fun h35 => by omega) (fun h35 => ?_)
            refine r_iload_n hC dX5_endTies_43 rfl ?_
            refine r_iload_n hC dX5_endTies_44 rfl ?_
            refine r_icmp_eq (tgt := 61) hC dX5_endTies_45 rfl (fun h36 => by omega) (fun h36 => ?_)
            refine r_aload_n hC dX5_endTies_48 rfl ?_
            refine z_getR hM dX5_endTies_49 fl_RX5_19 rfl rfl (vld_of (n := 1) rfl (by omega) (by omega)) ?_
            refine r_iload_n hC dX5_endTies_52 rfl ?_
            refine z_aald hM dX5_endTies_53 rfl (by decide) (by omega) (by omega) (vld_of (n := 4) rfl (by omega) (by omega)) ?_
            refine z_getI (jz := 0) hM dX5_endTies_54 fl_RX5_215 rfl rfl rfl (fun v37 h_v37 o_v37 t_v37 => ?_)
            have e_v37 : t3 = v37 := ((t_v37 (Or.inl (by simp [Tb]))).trans ((a_ρ30 _ _ _ (by omega)).trans ((a_ρ6 _ _ _ (by omega)).trans q3_ρ2))).symm
            subst e_v37
            refine r_iload_n hC dX5_endTies_57 rfl ?_
            refine r_icmp_ne (tgt := 70) hC dX5_endTies_58 rfl (fun h38 => ?_) (fun h38 => ?_)
            · refine r_iincE hC (4) dX5_endTies_70 rfl rfl (by omega) (by unfold inR; omega) ?_
              refine r_goto (tgt := 38) hC dX5_endTies_73 rfl ?_
              refine r_iload_n hC dX5_endTies_38 rfl ?_
              refine r_iconst hC dX5_endTies_39 rfl ?_
              refine r_icmp_ge (tgt := 76) hC dX5_endTies_40 rfl (fun h39 => ?_) (fun h39 => by omega)
              refine y_vret hK rfl dX5_endTies_76 ?_
              have z0 := ((a_ρ30 _ _ _ (by omega)).trans q_ρ6)
              have z1 := q_ρ30
              have z2 := ((a_ρ30 _ _ _ (by omega)).trans ((a_ρ6 _ _ _ (by omega)).trans q2_ρ2))
              have z3 := ((a_ρ30 _ _ _ (by omega)).trans ((a_ρ6 _ _ _ (by omega)).trans q3_ρ2))
              refine k _ (((g_ρ2).al a_ρ6 (by first | simp | omega)).al a_ρ30 (by first | simp | omega)) (fun i h0 h3 => ?_)
              rcases (by omega : i = 0 ∨ i = 1 ∨ i = 2 ∨ i = 3) with rfl | rfl | rfl | rfl <;> split <;> omega
            · refine r_aload_n hC dX5_endTies_61 rfl ?_
              refine z_getR hM dX5_endTies_62 fl_RX5_19 rfl rfl (vld_of (n := 1) rfl (by omega) (by omega)) ?_
              refine r_iload_n hC dX5_endTies_65 rfl ?_
              refine z_aald hM dX5_endTies_66 rfl (by decide) (by omega) (by omega) (vld_of (n := 4) rfl (by omega) (by omega)) ?_
              refine z_inv0 hM dX5_endTies_67 vl_RX5_340 rfl rfl rfl (Nat.le_of_ble_eq_true rfl) (Nat.le_of_ble_eq_true rfl) ?_
              refine s_Link_end (t := t3) (by omega) (by have hq := ((a_ρ30 _ _ _ (by omega)).trans ((a_ρ6 _ _ _ (by omega)).trans q3_ρ2)); omega) (fun ρ40 a_ρ40 q_ρ40 => ?_)
              refine r_iincE hC (4) dX5_endTies_70 rfl rfl (by omega) (by unfold inR; omega) ?_
              refine r_goto (tgt := 38) hC dX5_endTies_73 rfl ?_
              refine r_iload_n hC dX5_endTies_38 rfl ?_
              refine r_iconst hC dX5_endTies_39 rfl ?_
              refine r_icmp_ge (tgt := 76) hC dX5_endTies_40 rfl (fun h41 => ?_) (fun h41 => by omega)
              refine y_vret hK rfl dX5_endTies_76 ?_
              have z0 := ((a_ρ40 _ _ _ (by omega)).trans ((a_ρ30 _ _ _ (by omega)).trans q_ρ6))
              have z1 := ((a_ρ40 _ _ _ (by omega)).trans q_ρ30)
              have z2 := ((a_ρ40 _ _ _ (by omega)).trans ((a_ρ30 _ _ _ (by omega)).trans ((a_ρ6 _ _ _ (by omega)).trans q2_ρ2)))
              have z3 := q_ρ40
              refine k _ ((((g_ρ2).al a_ρ6 (by first | simp | omega)).al a_ρ30 (by first | simp | omega)).al a_ρ40 (by first | simp | omega)) (fun i h0 h3 => ?_)
              rcases (by omega : i = 0 ∨ i = 1 ∨ i = 2 ∨ i = 3) with rfl | rfl | rfl | rfl <;> split <;> omega
          · refine r_aload_n hC dX5_endTies_61 rfl ?_
            refine z_getR hM dX5_endTies_62 fl_RX5_19 rfl rfl (vld_of (n := 1) rfl (by omega) (by omega)) ?_
            refine r_iload_n hC dX5_endTies_65 rfl ?_
            refine z_aald hM dX5_endTies_66 rfl (by decide) (by omega) (by omega) (vld_of (n := 4) rfl (by omega) (by omega)) ?_
            refine z_inv0 hM dX5_endTies_67 vl_RX5_340 rfl rfl rfl (Nat.le_of_ble_eq_true rfl) (Nat.le_of_ble_eq_true rfl) ?_
            refine s_Link_end (t := t2) (by omega) (by have hq := ((a_ρ30 _ _ _ (by omega)).trans ((a_ρ6 _ _ _ (by omega)).trans q2_ρ2)); omega) (fun ρ42 a_ρ42 q_ρ42 => ?_)
            refine r_iincE hC (3) dX5_endTies_70 rfl rfl (by omega) (by unfold inR; omega) ?_
            refine r_goto (tgt := 38) hC dX5_endTies_73 rfl ?_
            refine r_iload_n hC dX5_endTies_38 rfl ?_
            refine r_iconst hC dX5_endTies_39 rfl ?_
            refine r_icmp_ge (tgt := 76) hC dX5_endTies_40 rfl (fun h43 => by omega) (fun h43 => ?_)
            refine r_iload_n hC dX5_endTies_43 rfl ?_
            refine r_iload_n hC dX5_endTies_44 rfl ?_
            refine r_icmp_eq (tgt := 61) hC dX5_endTies_45 rfl (fun h44 => by omega) (fun h44 => ?_)
            refine r_aload_n hC dX5_endTies_48 rfl ?_
            refine z_getR hM dX5_endTies_49 fl_RX5_19 rfl rfl (vld_of (n := 1) rfl (by omega) (by omega)) ?_
            refine r_iload_n hC dX5_endTies_52 rfl ?_
            refine z_aald hM dX5_endTies_53 rfl (by decide) (by omega) (by omega) (vld_of (n := 4) rfl (by omega) (by omega)) ?_
            refine z_getI (jz := 0) hM dX5_endTies_54 fl_RX5_215 rfl rfl rfl (fun v45 h_v45 o_v45 t_v45 => ?_)
            have e_v45 : t3 = v45 := ((t_v45 (Or.inl (by simp [Tb]))).trans ((a_ρ42 _ _ _ (by omega)).trans ((a_ρ30 _ _ _ (by omega)).trans ((a_ρ6 _ _ _ (by omega)).trans q3_ρ2)))).symm
            subst e_v45
            refine r_iload_n hC dX5_endTies_57 rfl ?_
            refine r_icmp_ne (tgt := 70) hC dX5_endTies_58 rfl (fun h46 => ?_) (fun h46 => ?_)
            · refine r_iincE hC (4) dX5_endTies_70 rfl rfl (by omega) (by unfold inR; omega) ?_
              refine r_goto (tgt := 38) hC dX5_endTies_73 rfl ?_
              refine r_iload_n hC dX5_endTies_38 rfl ?_
              refine r_iconst hC dX5_endTies_39 rfl ?_
              refine r_icmp_ge (tgt := 76) hC dX5_endTies_40 rfl (fun h47 => ?_) (fun h47 => by omega)
              refine y_vret hK rfl dX5_endTies_76 ?_
              have z0 := ((a_ρ42 _ _ _ (by omega)).trans ((a_ρ30 _ _ _ (by omega)).trans q_ρ6))
              have z1 := ((a_ρ42 _ _ _ (by omega)).trans q_ρ30)
              have z2 := q_ρ42
              have z3 := ((a_ρ42 _ _ _ (by omega)).trans ((a_ρ30 _ _ _ (by omega)).trans ((a_ρ6 _ _ _ (by omega)).trans q3_ρ2)))
              refine k _ ((((g_ρ2).al a_ρ6 (by first | simp | omega)).al a_ρ30 (by first | simp | omega)).al a_ρ42 (by first | simp | omega)) (fun i h0 h3 => ?_)
              rcases (by omega : i = 0 ∨ i = 1 ∨ i = 2 ∨ i = 3) with rfl | rfl | rfl | rfl <;> split <;> omega
            · refine r_aload_n hC dX5_endTies_61 rfl ?_
              refine z_getR hM dX5_endTies_62 fl_RX5_19 rfl rfl (vld_of (n := 1) rfl (by omega) (by omega)) ?_
              refine r_iload_n hC dX5_endTies_65 rfl ?_
              refine z_aald hM dX5_endTies_66 rfl (by decide) (by omega) (by omega) (vld_of (n := 4) rfl (by omega) (by omega)) ?_
              refine z_inv0 hM dX5_endTies_67 vl_RX5_340 rfl rfl rfl (Nat.le_of_ble_eq_true rfl) (Nat.le_of_ble_eq_true rfl) ?_
              refine s_Link_end (t := t3) (by omega) (by have hq := ((a_ρ42 _ _ _ (by omega)).trans ((a_ρ30 _ _ _ (by omega)).trans ((a_ρ6 _ _ _ (by omega)).trans q3_ρ2))); omega) (fun ρ48 a_ρ48 q_ρ48 => ?_)
              refine r_iincE hC (4) dX5_endTies_70 rfl rfl (by omega) (by unfold inR; omega) ?_
              refine r_goto (tgt := 38) hC dX5_endTies_73 rfl ?_
              refine r_iload_n hC dX5_endTies_38 rfl ?_
              refine r_iconst hC dX5_endTies_39 rfl ?_
              refine r_icmp_ge (tgt := 76) hC dX5_endTies_40 rfl (fun h49 => ?_) (fun h49 => by omega)
              refine y_vret hK rfl dX5_endTies_76 ?_
              have z0 := ((a_ρ48 _ _ _ (by omega)).trans ((a_ρ42 _ _ _ (by omega)).trans ((a_ρ30 _ _ _ (by omega)).trans q_ρ6)))
              have z1 := ((a_ρ48 _ _ _ (by omega)).trans ((a_ρ42 _ _ _ (by omega)).trans q_ρ30))
              have z2 := ((a_ρ48 _ _ _ (by omega)).trans q_ρ42)
              have z3 := q_ρ48
              refine k _ (((((g_ρ2).al a_ρ6 (by first | simp | omega)).al a_ρ30 (by first | simp | omega)).al a_ρ42 (by first | simp | omega)).al a_ρ48 (by first | simp | omega)) (fun i h0 h3 => ?_)
              rcases (by omega : i = 0 ∨ i = 1 ∨ i = 2 ∨ i = 3) with rfl | rfl | rfl | rfl <;> split <;> omega
      · refine r_aload_n hC dX5_endTies_8 rfl ?_
        refine z_getR hM dX5_endTies_9 fl_RX5_32 rfl rfl (vld_of (n := 1) rfl (by omega) (by omega)) ?_
        refine r_iload_n hC dX5_endTies_12 rfl ?_
        refine z_aald hM dX5_endTies_13 rfl (by decide) (by omega) (by omega) (vld_of (n := 8) rfl (by omega) (by omega)) ?_
        refine z_getI (jz := 0) hM dX5_endTies_14 fl_RX5_321 rfl rfl rfl (fun v50 h_v50 o_v50 t_v50 => ?_)
        refine r_iload_n hC dX5_endTies_17 rfl ?_
        refine r_icmp_ne (tgt := 30) hC dX5_endTies_18 rfl (fun h51 => ?_) (fun h51 => ?_)
        · refine r_iincE hC ((w1 + 1)) dX5_endTies_30 rfl rfl (by omega) (by unfold inR; omega) ?_
          refine r_goto (tgt := 2) hC dX5_endTies_33 rfl ?_
          exact ih2 ((w1 + 1)) ρ2 (by omega)  (by omega) (g_ρ2) (by have hq := q0_ρ2; omega) (by have hq := q1_ρ2; omega) (by have hq := q2_ρ2; omega) (by have hq := q3_ρ2; omega)
        · refine r_aload_n hC dX5_endTies_21 rfl ?_
          refine z_getR hM dX5_endTies_22 fl_RX5_32 rfl rfl (vld_of (n := 1) rfl (by omega) (by omega)) ?_
          refine r_iload_n hC dX5_endTies_25 rfl ?_
          refine z_aald hM dX5_endTies_26 rfl (by decide) (by omega) (by omega) (vld_of (n := 8) rfl (by omega) (by omega)) ?_
          refine z_inv0 hM dX5_endTies_27 vl_RX5_344 rfl rfl rfl (Nat.le_of_ble_eq_true rfl) (Nat.le_of_ble_eq_true rfl) ?_
          refine s_Watch_end (by omega) ?_
          refine r_iincE hC ((w1 + 1)) dX5_endTies_30 rfl rfl (by omega) (by unfold inR; omega) ?_
          refine r_goto (tgt := 2) hC dX5_endTies_33 rfl ?_
          exact ih2 ((w1 + 1)) ρ2 (by omega)  (by omega) (g_ρ2) (by have hq := q0_ρ2; omega) (by have hq := q1_ρ2; omega) (by have hq := q2_ρ2; omega) (by have hq := q3_ρ2; omega)
  exact L2 10 (0) σ (by omega)  (by omega) (Gx.rf) (by have hq := qg0; omega) (by have hq := qg1; omega) (by have hq := qg2; omega) (by have hq := qg3; omega)
theorem s_endTies1 {e : Ev} {d : Nat} {P : Option Vl → Mm → Prop} {σ : Mm} {t0 t1 t2 t3 : Int} (qg0 : σ 13 0 0 = t0) (qg1 : σ 13 1 0 = t1) (qg2 : σ 13 2 0 = t2) (qg3 : σ 13 3 0 = t3)  (k : ∀ ρ : Mm, Gx (fun c x y => c = 13 ∧ y = 0) σ ρ → (∀ i : Int, 0 ≤ i → i ≤ 3 → ρ 13 i 0 = if i = 1 ∨ σ 13 i 0 = 1 then -1 else σ 13 i 0) → P none ρ) : WT e (d + 2) 108 [vR 2 0, vI 1] σ P := by
  refine WT_in fun K hK => ?_
  have hK : StpY e cX5_endTies RX5 (none) (WT e (d + 1)) P K := hK
  have hM := hK.1
  have hC := hK.1.1
  show K 0 [some (vR 2 0), some (vI 1), none] [] σ
  refine r_iconst hC dX5_endTies_0 rfl ?_
  refine r_istore_n hC dX5_endTies_1 rfl ?_
  have L2 : ∀ (n2 : Nat) (w1 : Int) (ρ2 : Mm), 0 ≤ w1 ∧ w1 ≤ 8 → 8 - w1 < (n2 : Int) → Gx (fun c x y => c = 13 ∧ y = 0) σ ρ2 → ρ2 13 0 0 = t0 → ρ2 13 1 0 = t1 → ρ2 13 2 0 = t2 → ρ2 13 3 0 = t3 → K 2 [some (vR 2 0), some (vI 1), some (vI w1)] [] ρ2 := by
    intro n2
    induction n2 with
    | zero => intro w1 ρ2 f_w1  hm g_ρ2 q0_ρ2 q1_ρ2 q2_ρ2 q3_ρ2; omega
    | succ n2 ih2 =>
      intro w1 ρ2 f_w1  hm2 g_ρ2 q0_ρ2 q1_ρ2 q2_ρ2 q3_ρ2
      refine r_iload_n hC dX5_endTies_2 rfl ?_
      refine r_bipush hC dX5_endTies_3 rfl ?_
      refine r_icmp_ge (tgt := 36) hC dX5_endTies_5 rfl (fun h3 => ?_) (fun h3 => ?_)
      · refine r_iconst hC dX5_endTies_36 rfl ?_
        refine r_istore_n hC dX5_endTies_37 rfl ?_
        refine r_iload_n hC dX5_endTies_38 rfl ?_
        refine r_iconst hC dX5_endTies_39 rfl ?_
        refine r_icmp_ge (tgt := 76) hC dX5_endTies_40 rfl (fun h4 => by omega) (fun h4 => ?_)
        refine r_iload_n hC dX5_endTies_43 rfl ?_
        refine r_iload_n hC dX5_endTies_44 rfl ?_
        refine r_icmp_eq (tgt := 61) hC dX5_endTies_45 rfl (fun h5 => by omega) (fun h5 => ?_)
        refine r_aload_n hC dX5_endTies_48 rfl ?_
        refine z_getR hM dX5_endTies_49 fl_RX5_19 rfl rfl (vld_of (n := 1) rfl (by omega) (by omega)) ?_
        refine r_iload_n hC dX5_endTies_52 rfl ?_
        refine z_aald hM dX5_endTies_53 rfl (by decide) (by omega) (by omega) (vld_of (n := 4) rfl (by omega) (by omega)) ?_
        refine z_getI (jz := 0) hM dX5_endTies_54 fl_RX5_215 rfl rfl rfl (fun v6 h_v6 o_v6 t_v6 => ?_)
        have e_v6 : t0 = v6 := ((t_v6 (Or.inl (by simp [Tb]))).trans q0_ρ2).symm
        subst e_v6
        refine r_iload_n hC dX5_endTies_57 rfl ?_
        refine r_icmp_ne (tgt := 70) hC dX5_endTies_58 rfl (fun h7 => ?_) (fun h7 => ?_)
        · refine r_iincE hC (1) dX5_endTies_70 rfl rfl (by omega) (by unfold inR; omega) ?_
          refine r_goto (tgt := 38) hC dX5_endTies_73 rfl ?_
          refine r_iload_n hC dX5_endTies_38 rfl ?_
          refine r_iconst hC dX5_endTies_39 rfl ?_
          refine r_icmp_ge (tgt := 76) hC dX5_endTies_40 rfl (fun h8 => by omega) (fun h8 => ?_)
          refine r_iload_n hC dX5_endTies_43 rfl ?_
          refine r_iload_n hC dX5_endTies_44 rfl ?_
          refine r_icmp_eq (tgt := 61) hC dX5_endTies_45 rfl (fun h9 => ?_) (fun h9 => by omega)
          refine r_aload_n hC dX5_endTies_61 rfl ?_
          refine z_getR hM dX5_endTies_62 fl_RX5_19 rfl rfl (vld_of (n := 1) rfl (by omega) (by omega)) ?_
          refine r_iload_n hC dX5_endTies_65 rfl ?_
          refine z_aald hM dX5_endTies_66 rfl (by decide) (by omega) (by omega) (vld_of (n := 4) rfl (by omega) (by omega)) ?_
          refine z_inv0 hM dX5_endTies_67 vl_RX5_340 rfl rfl rfl (Nat.le_of_ble_eq_true rfl) (Nat.le_of_ble_eq_true rfl) ?_
          refine s_Link_end (t := t1) (by omega) (by have hq := q1_ρ2; omega) (fun ρ10 a_ρ10 q_ρ10 => ?_)
          refine r_iincE hC (2) dX5_endTies_70 rfl rfl (by omega) (by unfold inR; omega) ?_
          refine r_goto (tgt := 38) hC dX5_endTies_73 rfl ?_
          refine r_iload_n hC dX5_endTies_38 rfl ?_
          refine r_iconst hC dX5_endTies_39 rfl ?_
          refine r_icmp_ge (tgt := 76) hC dX5_endTies_40 rfl (fun h11 => by omega) (fun h11 => ?_)
          refine r_iload_n hC dX5_endTies_43 rfl ?_
          refine r_iload_n hC dX5_endTies_44 rfl ?_
          refine r_icmp_eq (tgt := 61) hC dX5_endTies_45 rfl (fun h12 => by omega) (fun h12 => ?_)
          refine r_aload_n hC dX5_endTies_48 rfl ?_
          refine z_getR hM dX5_endTies_49 fl_RX5_19 rfl rfl (vld_of (n := 1) rfl (by omega) (by omega)) ?_
          refine r_iload_n hC dX5_endTies_52 rfl ?_
          refine z_aald hM dX5_endTies_53 rfl (by decide) (by omega) (by omega) (vld_of (n := 4) rfl (by omega) (by omega)) ?_
          refine z_getI (jz := 0) hM dX5_endTies_54 fl_RX5_215 rfl rfl rfl (fun v13 h_v13 o_v13 t_v13 => ?_)
          have e_v13 : t2 = v13 := ((t_v13 (Or.inl (by simp [Tb]))).trans ((a_ρ10 _ _ _ (by omega)).trans q2_ρ2)).symm
          subst e_v13
          refine r_iload_n hC dX5_endTies_57 rfl ?_
          refine r_icmp_ne (tgt := 70) hC dX5_endTies_58 rfl (fun h14 => ?_) (fun h14 => ?_)
          · refine r_iincE hC (3) dX5_endTies_70 rfl rfl (by omega) (by unfold inR; omega) ?_
            refine r_goto (tgt := 38) hC dX5_endTies_73 rfl ?_
            refine r_iload_n hC dX5_endTies_38 rfl ?_
            refine r_iconst hC dX5_endTies_39 rfl ?_
            refine r_icmp_ge (tgt := 76) hC dX5_endTies_40 rfl (fun h15 => by omega) (fun h15 => ?_)
            refine r_iload_n hC dX5_endTies_43 rfl ?_
            refine r_iload_n hC dX5_endTies_44 rfl ?_
            refine r_icmp_eq (tgt := 61) hC dX5_endTies_45 rfl (fun h16 => by omega) (fun h16 => ?_)
            refine r_aload_n hC dX5_endTies_48 rfl ?_
            refine z_getR hM dX5_endTies_49 fl_RX5_19 rfl rfl (vld_of (n := 1) rfl (by omega) (by omega)) ?_
            refine r_iload_n hC dX5_endTies_52 rfl ?_
            refine z_aald hM dX5_endTies_53 rfl (by decide) (by omega) (by omega) (vld_of (n := 4) rfl (by omega) (by omega)) ?_
            refine z_getI (jz := 0) hM dX5_endTies_54 fl_RX5_215 rfl rfl rfl (fun v17 h_v17 o_v17 t_v17 => ?_)
            have e_v17 : t3 = v17 := ((t_v17 (Or.inl (by simp [Tb]))).trans ((a_ρ10 _ _ _ (by omega)).trans q3_ρ2)).symm
            subst e_v17
            refine r_iload_n hC dX5_endTies_57 rfl ?_
            refine r_icmp_ne (tgt := 70) hC dX5_endTies_58 rfl (fun h18 => ?_) (fun h18 => ?_)
            · refine r_iincE hC (4) dX5_endTies_70 rfl rfl (by omega) (by unfold inR; omega) ?_
              refine r_goto (tgt := 38) hC dX5_endTies_73 rfl ?_
              refine r_iload_n hC dX5_endTies_38 rfl ?_
              refine r_iconst hC dX5_endTies_39 rfl ?_
              refine r_icmp_ge (tgt := 76) hC dX5_endTies_40 rfl (fun h19 => ?_) (fun h19 => by omega)
              refine y_vret hK rfl dX5_endTies_76 ?_
              have z0 := ((a_ρ10 _ _ _ (by omega)).trans q0_ρ2)
              have z1 := q_ρ10
              have z2 := ((a_ρ10 _ _ _ (by omega)).trans q2_ρ2)
              have z3 := ((a_ρ10 _ _ _ (by omega)).trans q3_ρ2)
              refine k _ ((g_ρ2).al a_ρ10 (by first | simp | omega)) (fun i h0 h3 => ?_)
              rcases (by omega : i = 0 ∨ i = 1 ∨ i = 2 ∨ i = 3) with rfl | rfl | rfl | rfl <;> split <;> omega
            · refine r_aload_n hC dX5_endTies_61 rfl ?_
              refine z_getR hM dX5_endTies_62 fl_RX5_19 rfl rfl (vld_of (n := 1) rfl (by omega) (by omega)) ?_
              refine r_iload_n hC dX5_endTies_65 rfl ?_
              refine z_aald hM dX5_endTies_66 rfl (by decide) (by omega) (by omega) (vld_of (n := 4) rfl (by omega) (by omega)) ?_
              refine z_inv0 hM dX5_endTies_67 vl_RX5_340 rfl rfl rfl (Nat.le_of_ble_eq_true rfl) (Nat.le_of_ble_eq_true rfl) ?_
              refine s_Link_end (t := t3) (by omega) (by have hq := ((a_ρ10 _ _ _ (by omega)).trans q3_ρ2); omega) (fun ρ20 a_ρ20 q_ρ20 => ?_)
              refine r_iincE hC (4) dX5_endTies_70 rfl rfl (by omega) (by unfold inR; omega) ?_
              refine r_goto (tgt := 38) hC dX5_endTies_73 rfl ?_
              refine r_iload_n hC dX5_endTies_38 rfl ?_
              refine r_iconst hC dX5_endTies_39 rfl ?_
              refine r_icmp_ge (tgt := 76) hC dX5_endTies_40 rfl (fun h21 => ?_) (fun h21 => by omega)
              refine y_vret hK rfl dX5_endTies_76 ?_
              have z0 := ((a_ρ20 _ _ _ (by omega)).trans ((a_ρ10 _ _ _ (by omega)).trans q0_ρ2))
              have z1 := ((a_ρ20 _ _ _ (by omega)).trans q_ρ10)
              have z2 := ((a_ρ20 _ _ _ (by omega)).trans ((a_ρ10 _ _ _ (by omega)).trans q2_ρ2))
              have z3 := q_ρ20
              refine k _ (((g_ρ2).al a_ρ10 (by first | simp | omega)).al a_ρ20 (by first | simp | omega)) (fun i h0 h3 => ?_)
              rcases (by omega : i = 0 ∨ i = 1 ∨ i = 2 ∨ i = 3) with rfl | rfl | rfl | rfl <;> split <;> omega
          · refine r_aload_n hC dX5_endTies_61 rfl ?_
            refine z_getR hM dX5_endTies_62 fl_RX5_19 rfl rfl (vld_of (n := 1) rfl (by omega) (by omega)) ?_
            refine r_iload_n hC dX5_endTies_65 rfl ?_
            refine z_aald hM dX5_endTies_66 rfl (by decide) (by omega) (by omega) (vld_of (n := 4) rfl (by omega) (by omega)) ?_
            refine z_inv0 hM dX5_endTies_67 vl_RX5_340 rfl rfl rfl (Nat.le_of_ble_eq_true rfl) (Nat.le_of_ble_eq_true rfl) ?_
            refine s_Link_end (t := t2) (by omega) (by have hq := ((a_ρ10 _ _ _ (by omega)).trans q2_ρ2); omega) (fun ρ22 a_ρ22 q_ρ22 => ?_)
            refine r_iincE hC (3) dX5_endTies_70 rfl rfl (by omega) (by unfold inR; omega) ?_
            refine r_goto (tgt := 38) hC dX5_endTies_73 rfl ?_
            refine r_iload_n hC dX5_endTies_38 rfl ?_
            refine r_iconst hC dX5_endTies_39 rfl ?_
            refine r_icmp_ge (tgt := 76) hC dX5_endTies_40 rfl (fun h23 => by omega) (fun h23 => ?_)
            refine r_iload_n hC dX5_endTies_43 rfl ?_
            refine r_iload_n hC dX5_endTies_44 rfl ?_
            refine r_icmp_eq (tgt := 61) hC dX5_endTies_45 rfl (fun h24 => by omega) (fun h24 => ?_)
            refine r_aload_n hC dX5_endTies_48 rfl ?_
            refine z_getR hM dX5_endTies_49 fl_RX5_19 rfl rfl (vld_of (n := 1) rfl (by omega) (by omega)) ?_
            refine r_iload_n hC dX5_endTies_52 rfl ?_
            refine z_aald hM dX5_endTies_53 rfl (by decide) (by omega) (by omega) (vld_of (n := 4) rfl (by omega) (by omega)) ?_
            refine z_getI (jz := 0) hM dX5_endTies_54 fl_RX5_215 rfl rfl rfl (fun v25 h_v25 o_v25 t_v25 => ?_)
            have e_v25 : t3 = v25 := ((t_v25 (Or.inl (by simp [Tb]))).trans ((a_ρ22 _ _ _ (by omega)).trans ((a_ρ10 _ _ _ (by omega)).trans q3_ρ2))).symm
            subst e_v25
            refine r_iload_n hC dX5_endTies_57 rfl ?_
            refine r_icmp_ne (tgt := 70) hC dX5_endTies_58 rfl (fun h26 => ?_) (fun h26 => ?_)
            · refine r_iincE hC (4) dX5_endTies_70 rfl rfl (by omega) (by unfold inR; omega) ?_
              refine r_goto (tgt := 38) hC dX5_endTies_73 rfl ?_
              refine r_iload_n hC dX5_endTies_38 rfl ?_
              refine r_iconst hC dX5_endTies_39 rfl ?_
              refine r_icmp_ge (tgt := 76) hC dX5_endTies_40 rfl (fun h27 => ?_) (fun h27 => by omega)
              refine y_vret hK rfl dX5_endTies_76 ?_
              have z0 := ((a_ρ22 _ _ _ (by omega)).trans ((a_ρ10 _ _ _ (by omega)).trans q0_ρ2))
              have z1 := ((a_ρ22 _ _ _ (by omega)).trans q_ρ10)
              have z2 := q_ρ22
              have z3 := ((a_ρ22 _ _ _ (by omega)).trans ((a_ρ10 _ _ _ (by omega)).trans q3_ρ2))
              refine k _ (((g_ρ2).al a_ρ10 (by first | simp | omega)).al a_ρ22 (by first | simp | omega)) (fun i h0 h3 => ?_)
              rcases (by omega : i = 0 ∨ i = 1 ∨ i = 2 ∨ i = 3) with rfl | rfl | rfl | rfl <;> split <;> omega
            · refine r_aload_n hC dX5_endTies_61 rfl ?_
              refine z_getR hM dX5_endTies_62 fl_RX5_19 rfl rfl (vld_of (n := 1) rfl (by omega) (by omega)) ?_
              refine r_iload_n hC dX5_endTies_65 rfl ?_
              refine z_aald hM dX5_endTies_66 rfl (by decide) (by omega) (by omega) (vld_of (n := 4) rfl (by omega) (by omega)) ?_
              refine z_inv0 hM dX5_endTies_67 vl_RX5_340 rfl rfl rfl (Nat.le_of_ble_eq_true rfl) (Nat.le_of_ble_eq_true rfl) ?_
              refine s_Link_end (t := t3) (by omega) (by have hq := ((a_ρ22 _ _ _ (by omega)).trans ((a_ρ10 _ _ _ (by omega)).trans q3_ρ2)); omega) (fun ρ28 a_ρ28 q_ρ28 => ?_)
              refine r_iincE hC (4) dX5_endTies_70 rfl rfl (by omega) (by unfold inR; omega) ?_
              refine r_goto (tgt := 38) hC dX5_endTies_73 rfl ?_
              refine r_iload_n hC dX5_endTies_38 rfl ?_
              refine r_iconst hC dX5_endTies_39 rfl ?_
              refine r_icmp_ge (tgt := 76) hC dX5_endTies_40 rfl (fun h29 => ?_) (fun h29 => by omega)
              refine y_vret hK rfl dX5_endTies_76 ?_
              have z0 := ((a_ρ28 _ _ _ (by omega)).trans ((a_ρ22 _ _ _ (by omega)).trans ((a_ρ10 _ _ _ (by omega)).trans q0_ρ2)))
              have z1 := ((a_ρ28 _ _ _ (by omega)).trans ((a_ρ22 _ _ _ (by omega)).trans q_ρ10))
              have z2 := ((a_ρ28 _ _ _ (by omega)).trans q_ρ22)
              have z3 := q_ρ28
              refine k _ ((((g_ρ2).al a_ρ10 (by first | simp | omega)).al a_ρ22 (by first | simp | omega)).al a_ρ28 (by first | simp | omega)) (fun i h0 h3 => ?_)
              rcases (by omega : i = 0 ∨ i = 1 ∨ i = 2 ∨ i = 3) with rfl | rfl | rfl | rfl <;> split <;> omega
        · refine r_aload_n hC dX5_endTies_61 rfl ?_
          refine z_getR hM dX5_endTies_62 fl_RX5_19 rfl rfl (vld_of (n := 1) rfl (by omega) (by omega)) ?_
          refine r_iload_n hC dX5_endTies_65 rfl ?_
          refine z_aald hM dX5_endTies_66 rfl (by decide) (by omega) (by omega) (vld_of (n := 4) rfl (by omega) (by omega)) ?_
          refine z_inv0 hM dX5_endTies_67 vl_RX5_340 rfl rfl rfl (Nat.le_of_ble_eq_true rfl) (Nat.le_of_ble_eq_true rfl) ?_
          refine s_Link_end (t := t0) (by omega) (by have hq := q0_ρ2; omega) (fun ρ30 a_ρ30 q_ρ30 => ?_)
          refine r_iincE hC (1) dX5_endTies_70 rfl rfl (by omega) (by unfold inR; omega) ?_
          refine r_goto (tgt := 38) hC dX5_endTies_73 rfl ?_
          refine r_iload_n hC dX5_endTies_38 rfl ?_
          refine r_iconst hC dX5_endTies_39 rfl ?_
          refine r_icmp_ge (tgt := 76) hC dX5_endTies_40 rfl (fun h31 => by omega) (fun h31 => ?_)
          refine r_iload_n hC dX5_endTies_43 rfl ?_
          refine r_iload_n hC dX5_endTies_44 rfl ?_
          refine r_icmp_eq (tgt := 61) hC dX5_endTies_45 rfl (fun h32 => ?_) (fun h32 => by omega)
          refine r_aload_n hC dX5_endTies_61 rfl ?_
          refine z_getR hM dX5_endTies_62 fl_RX5_19 rfl rfl (vld_of (n := 1) rfl (by omega) (by omega)) ?_
          refine r_iload_n hC dX5_endTies_65 rfl ?_
          refine z_aald hM dX5_endTies_66 rfl (by decide) (by omega) (by omega) (vld_of (n := 4) rfl (by omega) (by omega)) ?_
          refine z_inv0 hM dX5_endTies_67 vl_RX5_340 rfl rfl rfl (Nat.le_of_ble_eq_true rfl) (Nat.le_of_ble_eq_true rfl) ?_
          refine s_Link_end (t := t1) (by omega) (by have hq := ((a_ρ30 _ _ _ (by omega)).trans q1_ρ2); omega) (fun ρ33 a_ρ33 q_ρ33 => ?_)
          refine r_iincE hC (2) dX5_endTies_70 rfl rfl (by omega) (by unfold inR; omega) ?_
          refine r_goto (tgt := 38) hC dX5_endTies_73 rfl ?_
          refine r_iload_n hC dX5_endTies_38 rfl ?_
          refine r_iconst hC dX5_endTies_39 rfl ?_
          refine r_icmp_ge (tgt := 76) hC dX5_endTies_40 rfl (fun h34 => by omega) (fun h34 => ?_)
          refine r_iload_n hC dX5_endTies_43 rfl ?_
          refine r_iload_n hC dX5_endTies_44 rfl ?_
          refine r_icmp_eq (tgt := 61) hC dX5_endTies_45 rfl (fun h35 => by omega) (fun h35 => ?_)
          refine r_aload_n hC dX5_endTies_48 rfl ?_
          refine z_getR hM dX5_endTies_49 fl_RX5_19 rfl rfl (vld_of (n := 1) rfl (by omega) (by omega)) ?_
          refine r_iload_n hC dX5_endTies_52 rfl ?_
          refine z_aald hM dX5_endTies_53 rfl (by decide) (by omega) (by omega) (vld_of (n := 4) rfl (by omega) (by omega)) ?_
          refine z_getI (jz := 0) hM dX5_endTies_54 fl_RX5_215 rfl rfl rfl (fun v36 h_v36 o_v36 t_v36 => ?_)
          have e_v36 : t2 = v36 := ((t_v36 (Or.inl (by simp [Tb]))).trans ((a_ρ33 _ _ _ (by omega)).trans ((a_ρ30 _ _ _ (by omega)).trans q2_ρ2))).symm
          subst e_v36
          refine r_iload_n hC dX5_endTies_57 rfl ?_
          refine r_icmp_ne (tgt := 70) hC dX5_endTies_58 rfl (fun h37 => ?_) (fun h37 => ?_)
          · refine r_iincE hC (3) dX5_endTies_70 rfl rfl (by omega) (by unfold inR; omega) ?_
            refine r_goto (tgt := 38) hC dX5_endTies_73 rfl ?_
            refine r_iload_n hC dX5_endTies_38 rfl ?_
            refine r_iconst hC dX5_endTies_39 rfl ?_
            refine r_icmp_ge (tgt := 76) hC dX5_endTies_40 rfl (fun h38 => by omega) (fun h38 => ?_)
            refine r_iload_n hC dX5_endTies_43 rfl ?_
            refine r_iload_n hC dX5_endTies_44 rfl ?_
            refine r_icmp_eq (tgt := 61) hC dX5_endTies_45 rfl (fun h39 => by omega) (fun h39 => ?_)
            refine r_aload_n hC dX5_endTies_48 rfl ?_
            refine z_getR hM dX5_endTies_49 fl_RX5_19 rfl rfl (vld_of (n := 1) rfl (by omega) (by omega)) ?_
            refine r_iload_n hC dX5_endTies_52 rfl ?_
            refine z_aald hM dX5_endTies_53 rfl (by decide) (by omega) (by omega) (vld_of (n := 4) rfl (by omega) (by omega)) ?_
            refine z_getI (jz := 0) hM dX5_endTies_54 fl_RX5_215 rfl rfl rfl (fun v40 h_v40 o_v40 t_v40 => ?_)
            have e_v40 : t3 = v40 := ((t_v40 (Or.inl (by simp [Tb]))).trans ((a_ρ33 _ _ _ (by omega)).trans ((a_ρ30 _ _ _ (by omega)).trans q3_ρ2))).symm
            subst e_v40
            refine r_iload_n hC dX5_endTies_57 rfl ?_
            refine r_icmp_ne (tgt := 70) hC dX5_endTies_58 rfl (fun h41 => ?_) (fun h41 => ?_)
            · refine r_iincE hC (4) dX5_endTies_70 rfl rfl (by omega) (by unfold inR; omega) ?_
              refine r_goto (tgt := 38) hC dX5_endTies_73 rfl ?_
              refine r_iload_n hC dX5_endTies_38 rfl ?_
              refine r_iconst hC dX5_endTies_39 rfl ?_
              refine r_icmp_ge (tgt := 76) hC dX5_endTies_40 rfl (fun h42 => ?_) (fun h42 => by omega)
              refine y_vret hK rfl dX5_endTies_76 ?_
              have z0 := ((a_ρ33 _ _ _ (by omega)).trans q_ρ30)
              have z1 := q_ρ33
              have z2 := ((a_ρ33 _ _ _ (by omega)).trans ((a_ρ30 _ _ _ (by omega)).trans q2_ρ2))
              have z3 := ((a_ρ33 _ _ _ (by omega)).trans ((a_ρ30 _ _ _ (by omega)).trans q3_ρ2))
              refine k _ (((g_ρ2).al a_ρ30 (by first | simp | omega)).al a_ρ33 (by first | simp | omega)) (fun i h0 h3 => ?_)
              rcases (by omega : i = 0 ∨ i = 1 ∨ i = 2 ∨ i = 3) with rfl | rfl | rfl | rfl <;> split <;> omega
            · refine r_aload_n hC dX5_endTies_61 rfl ?_
              refine z_getR hM dX5_endTies_62 fl_RX5_19 rfl rfl (vld_of (n := 1) rfl (by omega) (by omega)) ?_
              refine r_iload_n hC dX5_endTies_65 rfl ?_
              refine z_aald hM dX5_endTies_66 rfl (by decide) (by omega) (by omega) (vld_of (n := 4) rfl (by omega) (by omega)) ?_
              refine z_inv0 hM dX5_endTies_67 vl_RX5_340 rfl rfl rfl (Nat.le_of_ble_eq_true rfl) (Nat.le_of_ble_eq_true rfl) ?_
              refine s_Link_end (t := t3) (by omega) (by have hq := ((a_ρ33 _ _ _ (by omega)).trans ((a_ρ30 _ _ _ (by omega)).trans q3_ρ2)); omega) (fun ρ43 a_ρ43 q_ρ43 => ?_)
              refine r_iincE hC (4) dX5_endTies_70 rfl rfl (by omega) (by unfold inR; omega) ?_
              refine r_goto (tgt := 38) hC dX5_endTies_73 rfl ?_
              refine r_iload_n hC dX5_endTies_38 rfl ?_
              refine r_iconst hC dX5_endTies_39 rfl ?_
              refine r_icmp_ge (tgt := 76) hC dX5_endTies_40 rfl (fun h44 => ?_) (fun h44 => by omega)
              refine y_vret hK rfl dX5_endTies_76 ?_
              have z0 := ((a_ρ43 _ _ _ (by omega)).trans ((a_ρ33 _ _ _ (by omega)).trans q_ρ30))
              have z1 := ((a_ρ43 _ _ _ (by omega)).trans q_ρ33)
              have z2 := ((a_ρ43 _ _ _ (by omega)).trans ((a_ρ33 _ _ _ (by omega)).trans ((a_ρ30 _ _ _ (by omega)).trans q2_ρ2)))
              have z3 := q_ρ43
              refine k _ ((((g_ρ2).al a_ρ30 (by first | simp | omega)).al a_ρ33 (by first | simp | omega)).al a_ρ43 (by first | simp | omega)) (fun i h0 h3 => ?_)
              rcases (by omega : i = 0 ∨ i = 1 ∨ i = 2 ∨ i = 3) with rfl | rfl | rfl | rfl <;> split <;> omega
          · refine r_aload_n hC dX5_endTies_61 rfl ?_
            refine z_getR hM dX5_endTies_62 fl_RX5_19 rfl rfl (vld_of (n := 1) rfl (by omega) (by omega)) ?_
            refine r_iload_n hC dX5_endTies_65 rfl ?_
            refine z_aald hM dX5_endTies_66 rfl (by decide) (by omega) (by omega) (vld_of (n := 4) rfl (by omega) (by omega)) ?_
            refine z_inv0 hM dX5_endTies_67 vl_RX5_340 rfl rfl rfl (Nat.le_of_ble_eq_true rfl) (Nat.le_of_ble_eq_true rfl) ?_
            refine s_Link_end (t := t2) (by omega) (by have hq := ((a_ρ33 _ _ _ (by omega)).trans ((a_ρ30 _ _ _ (by omega)).trans q2_ρ2)); omega) (fun ρ45 a_ρ45 q_ρ45 => ?_)
            refine r_iincE hC (3) dX5_endTies_70 rfl rfl (by omega) (by unfold inR; omega) ?_
            refine r_goto (tgt := 38) hC dX5_endTies_73 rfl ?_
            refine r_iload_n hC dX5_endTies_38 rfl ?_
            refine r_iconst hC dX5_endTies_39 rfl ?_
            refine r_icmp_ge (tgt := 76) hC dX5_endTies_40 rfl (fun h46 => by omega) (fun h46 => ?_)
            refine r_iload_n hC dX5_endTies_43 rfl ?_
            refine r_iload_n hC dX5_endTies_44 rfl ?_
            refine r_icmp_eq (tgt := 61) hC dX5_endTies_45 rfl (fun h47 => by omega) (fun h47 => ?_)
            refine r_aload_n hC dX5_endTies_48 rfl ?_
            refine z_getR hM dX5_endTies_49 fl_RX5_19 rfl rfl (vld_of (n := 1) rfl (by omega) (by omega)) ?_
            refine r_iload_n hC dX5_endTies_52 rfl ?_
            refine z_aald hM dX5_endTies_53 rfl (by decide) (by omega) (by omega) (vld_of (n := 4) rfl (by omega) (by omega)) ?_
            refine z_getI (jz := 0) hM dX5_endTies_54 fl_RX5_215 rfl rfl rfl (fun v48 h_v48 o_v48 t_v48 => ?_)
            have e_v48 : t3 = v48 := ((t_v48 (Or.inl (by simp [Tb]))).trans ((a_ρ45 _ _ _ (by omega)).trans ((a_ρ33 _ _ _ (by omega)).trans ((a_ρ30 _ _ _ (by omega)).trans q3_ρ2)))).symm
            subst e_v48
            refine r_iload_n hC dX5_endTies_57 rfl ?_
            refine r_icmp_ne (tgt := 70) hC dX5_endTies_58 rfl (fun h49 => ?_) (fun h49 => ?_)
            · refine r_iincE hC (4) dX5_endTies_70 rfl rfl (by omega) (by unfold inR; omega) ?_
              refine r_goto (tgt := 38) hC dX5_endTies_73 rfl ?_
              refine r_iload_n hC dX5_endTies_38 rfl ?_
              refine r_iconst hC dX5_endTies_39 rfl ?_
              refine r_icmp_ge (tgt := 76) hC dX5_endTies_40 rfl (fun h50 => ?_) (fun h50 => by omega)
              refine y_vret hK rfl dX5_endTies_76 ?_
              have z0 := ((a_ρ45 _ _ _ (by omega)).trans ((a_ρ33 _ _ _ (by omega)).trans q_ρ30))
              have z1 := ((a_ρ45 _ _ _ (by omega)).trans q_ρ33)
              have z2 := q_ρ45
              have z3 := ((a_ρ45 _ _ _ (by omega)).trans ((a_ρ33 _ _ _ (by omega)).trans ((a_ρ30 _ _ _ (by omega)).trans q3_ρ2)))
              refine k _ ((((g_ρ2).al a_ρ30 (by first | simp | omega)).al a_ρ33 (by first | simp | omega)).al a_ρ45 (by first | simp | omega)) (fun i h0 h3 => ?_)
              rcases (by omega : i = 0 ∨ i = 1 ∨ i = 2 ∨ i = 3) with rfl | rfl | rfl | rfl <;> split <;> omega
            · refine r_aload_n hC dX5_endTies_61 rfl ?_
              refine z_getR hM dX5_endTies_62 fl_RX5_19 rfl rfl (vld_of (n := 1) rfl (by omega) (by omega)) ?_
              refine r_iload_n hC dX5_endTies_65 rfl ?_
              refine z_aald hM dX5_endTies_66 rfl (by decide) (by omega) (by omega) (vld_of (n := 4) rfl (by omega) (by omega)) ?_
              refine z_inv0 hM dX5_endTies_67 vl_RX5_340 rfl rfl rfl (Nat.le_of_ble_eq_true rfl) (Nat.le_of_ble_eq_true rfl) ?_
              refine s_Link_end (t := t3) (by omega) (by have hq := ((a_ρ45 _ _ _ (by omega)).trans ((a_ρ33 _ _ _ (by omega)).trans ((a_ρ30 _ _ _ (by omega)).trans q3_ρ2))); omega) (fun ρ51 a_ρ51 q_ρ51 => ?_)
              refine r_iincE hC (4) dX5_endTies_70 rfl rfl (by omega) (by unfold inR; omega) ?_
              refine r_goto (tgt := 38) hC dX5_endTies_73 rfl ?_
              refine r_iload_n hC dX5_endTies_38 rfl ?_
              refine r_iconst hC dX5_endTies_39 rfl ?_
              refine r_icmp_ge (tgt := 76) hC dX5_endTies_40 rfl (fun h52 => ?_) (fun h52 => by omega)
              refine y_vret hK rfl dX5_endTies_76 ?_
              have z0 := ((a_ρ51 _ _ _ (by omega)).trans ((a_ρ45 _ _ _ (by omega)).trans ((a_ρ33 _ _ _ (by omega)).trans q_ρ30)))
              have z1 := ((a_ρ51 _ _ _ (by omega)).trans ((a_ρ45 _ _ _ (by omega)).trans q_ρ33))
              have z2 := ((a_ρ51 _ _ _ (by omega)).trans q_ρ45)
              have z3 := q_ρ51
              refine k _ (((((g_ρ2).al a_ρ30 (by first | simp | omega)).al a_ρ33 (by first | simp | omega)).al a_ρ45 (by first | simp | omega)).al a_ρ51 (by first | simp | omega)) (fun i h0 h3 => ?_)
              rcases (by omega : i = 0 ∨ i = 1 ∨ i = 2 ∨ i = 3) with rfl | rfl | rfl | rfl <;> split <;> omega
      · refine r_aload_n hC dX5_endTies_8 rfl ?_
        refine z_getR hM dX5_endTies_9 fl_RX5_32 rfl rfl (vld_of (n := 1) rfl (by omega) (by omega)) ?_
        refine r_iload_n hC dX5_endTies_12 rfl ?_
        refine z_aald hM dX5_endTies_13 rfl (by decide) (by omega) (by omega) (vld_of (n := 8) rfl (by omega) (by omega)) ?_
        refine z_getI (jz := 0) hM dX5_endTies_14 fl_RX5_321 rfl rfl rfl (fun v53 h_v53 o_v53 t_v53 => ?_)
        refine r_iload_n hC dX5_endTies_17 rfl ?_
        refine r_icmp_ne (tgt := 30) hC dX5_endTies_18 rfl (fun h54 => ?_) (fun h54 => ?_)
        · refine r_iincE hC ((w1 + 1)) dX5_endTies_30 rfl rfl (by omega) (by unfold inR; omega) ?_
          refine r_goto (tgt := 2) hC dX5_endTies_33 rfl ?_
          exact ih2 ((w1 + 1)) ρ2 (by omega)  (by omega) (g_ρ2) (by have hq := q0_ρ2; omega) (by have hq := q1_ρ2; omega) (by have hq := q2_ρ2; omega) (by have hq := q3_ρ2; omega)
        · refine r_aload_n hC dX5_endTies_21 rfl ?_
          refine z_getR hM dX5_endTies_22 fl_RX5_32 rfl rfl (vld_of (n := 1) rfl (by omega) (by omega)) ?_
          refine r_iload_n hC dX5_endTies_25 rfl ?_
          refine z_aald hM dX5_endTies_26 rfl (by decide) (by omega) (by omega) (vld_of (n := 8) rfl (by omega) (by omega)) ?_
          refine z_inv0 hM dX5_endTies_27 vl_RX5_344 rfl rfl rfl (Nat.le_of_ble_eq_true rfl) (Nat.le_of_ble_eq_true rfl) ?_
          refine s_Watch_end (by omega) ?_
          refine r_iincE hC ((w1 + 1)) dX5_endTies_30 rfl rfl (by omega) (by unfold inR; omega) ?_
          refine r_goto (tgt := 2) hC dX5_endTies_33 rfl ?_
          exact ih2 ((w1 + 1)) ρ2 (by omega)  (by omega) (g_ρ2) (by have hq := q0_ρ2; omega) (by have hq := q1_ρ2; omega) (by have hq := q2_ρ2; omega) (by have hq := q3_ρ2; omega)
  exact L2 10 (0) σ (by omega)  (by omega) (Gx.rf) (by have hq := qg0; omega) (by have hq := qg1; omega) (by have hq := qg2; omega) (by have hq := qg3; omega)
theorem s_endTies2 {e : Ev} {d : Nat} {P : Option Vl → Mm → Prop} {σ : Mm} {t0 t1 t2 t3 : Int} (qg0 : σ 13 0 0 = t0) (qg1 : σ 13 1 0 = t1) (qg2 : σ 13 2 0 = t2) (qg3 : σ 13 3 0 = t3)  (k : ∀ ρ : Mm, Gx (fun c x y => c = 13 ∧ y = 0) σ ρ → (∀ i : Int, 0 ≤ i → i ≤ 3 → ρ 13 i 0 = if i = 2 ∨ σ 13 i 0 = 2 then -1 else σ 13 i 0) → P none ρ) : WT e (d + 2) 108 [vR 2 0, vI 2] σ P := by
  refine WT_in fun K hK => ?_
  have hK : StpY e cX5_endTies RX5 (none) (WT e (d + 1)) P K := hK
  have hM := hK.1
  have hC := hK.1.1
  show K 0 [some (vR 2 0), some (vI 2), none] [] σ
  refine r_iconst hC dX5_endTies_0 rfl ?_
  refine r_istore_n hC dX5_endTies_1 rfl ?_
  have L2 : ∀ (n2 : Nat) (w1 : Int) (ρ2 : Mm), 0 ≤ w1 ∧ w1 ≤ 8 → 8 - w1 < (n2 : Int) → Gx (fun c x y => c = 13 ∧ y = 0) σ ρ2 → ρ2 13 0 0 = t0 → ρ2 13 1 0 = t1 → ρ2 13 2 0 = t2 → ρ2 13 3 0 = t3 → K 2 [some (vR 2 0), some (vI 2), some (vI w1)] [] ρ2 := by
    intro n2
    induction n2 with
    | zero => intro w1 ρ2 f_w1  hm g_ρ2 q0_ρ2 q1_ρ2 q2_ρ2 q3_ρ2; omega
    | succ n2 ih2 =>
      intro w1 ρ2 f_w1  hm2 g_ρ2 q0_ρ2 q1_ρ2 q2_ρ2 q3_ρ2
      refine r_iload_n hC dX5_endTies_2 rfl ?_
      refine r_bipush hC dX5_endTies_3 rfl ?_
      refine r_icmp_ge (tgt := 36) hC dX5_endTies_5 rfl (fun h3 => ?_) (fun h3 => ?_)
      · refine r_iconst hC dX5_endTies_36 rfl ?_
        refine r_istore_n hC dX5_endTies_37 rfl ?_
        refine r_iload_n hC dX5_endTies_38 rfl ?_
        refine r_iconst hC dX5_endTies_39 rfl ?_
        refine r_icmp_ge (tgt := 76) hC dX5_endTies_40 rfl (fun h4 => by omega) (fun h4 => ?_)
        refine r_iload_n hC dX5_endTies_43 rfl ?_
        refine r_iload_n hC dX5_endTies_44 rfl ?_
        refine r_icmp_eq (tgt := 61) hC dX5_endTies_45 rfl (fun h5 => by omega) (fun h5 => ?_)
        refine r_aload_n hC dX5_endTies_48 rfl ?_
        refine z_getR hM dX5_endTies_49 fl_RX5_19 rfl rfl (vld_of (n := 1) rfl (by omega) (by omega)) ?_
        refine r_iload_n hC dX5_endTies_52 rfl ?_
        refine z_aald hM dX5_endTies_53 rfl (by decide) (by omega) (by omega) (vld_of (n := 4) rfl (by omega) (by omega)) ?_
        refine z_getI (jz := 0) hM dX5_endTies_54 fl_RX5_215 rfl rfl rfl (fun v6 h_v6 o_v6 t_v6 => ?_)
        have e_v6 : t0 = v6 := ((t_v6 (Or.inl (by simp [Tb]))).trans q0_ρ2).symm
        subst e_v6
        refine r_iload_n hC dX5_endTies_57 rfl ?_
        refine r_icmp_ne (tgt := 70) hC dX5_endTies_58 rfl (fun h7 => ?_) (fun h7 => ?_)
        · refine r_iincE hC (1) dX5_endTies_70 rfl rfl (by omega) (by unfold inR; omega) ?_
          refine r_goto (tgt := 38) hC dX5_endTies_73 rfl ?_
          refine r_iload_n hC dX5_endTies_38 rfl ?_
          refine r_iconst hC dX5_endTies_39 rfl ?_
          refine r_icmp_ge (tgt := 76) hC dX5_endTies_40 rfl (fun h8 => by omega) (fun h8 => ?_)
          refine r_iload_n hC dX5_endTies_43 rfl ?_
          refine r_iload_n hC dX5_endTies_44 rfl ?_
          refine r_icmp_eq (tgt := 61) hC dX5_endTies_45 rfl (fun h9 => by omega) (fun h9 => ?_)
          refine r_aload_n hC dX5_endTies_48 rfl ?_
          refine z_getR hM dX5_endTies_49 fl_RX5_19 rfl rfl (vld_of (n := 1) rfl (by omega) (by omega)) ?_
          refine r_iload_n hC dX5_endTies_52 rfl ?_
          refine z_aald hM dX5_endTies_53 rfl (by decide) (by omega) (by omega) (vld_of (n := 4) rfl (by omega) (by omega)) ?_
          refine z_getI (jz := 0) hM dX5_endTies_54 fl_RX5_215 rfl rfl rfl (fun v10 h_v10 o_v10 t_v10 => ?_)
          have e_v10 : t1 = v10 := ((t_v10 (Or.inl (by simp [Tb]))).trans q1_ρ2).symm
          subst e_v10
          refine r_iload_n hC dX5_endTies_57 rfl ?_
          refine r_icmp_ne (tgt := 70) hC dX5_endTies_58 rfl (fun h11 => ?_) (fun h11 => ?_)
          · refine r_iincE hC (2) dX5_endTies_70 rfl rfl (by omega) (by unfold inR; omega) ?_
            refine r_goto (tgt := 38) hC dX5_endTies_73 rfl ?_
            refine r_iload_n hC dX5_endTies_38 rfl ?_
            refine r_iconst hC dX5_endTies_39 rfl ?_
            refine r_icmp_ge (tgt := 76) hC dX5_endTies_40 rfl (fun h12 => by omega) (fun h12 => ?_)
            refine r_iload_n hC dX5_endTies_43 rfl ?_
            refine r_iload_n hC dX5_endTies_44 rfl ?_
            refine r_icmp_eq (tgt := 61) hC dX5_endTies_45 rfl (fun h13 => ?_) (fun h13 => by omega)
            refine r_aload_n hC dX5_endTies_61 rfl ?_
            refine z_getR hM dX5_endTies_62 fl_RX5_19 rfl rfl (vld_of (n := 1) rfl (by omega) (by omega)) ?_
            refine r_iload_n hC dX5_endTies_65 rfl ?_
            refine z_aald hM dX5_endTies_66 rfl (by decide) (by omega) (by omega) (vld_of (n := 4) rfl (by omega) (by omega)) ?_
            refine z_inv0 hM dX5_endTies_67 vl_RX5_340 rfl rfl rfl (Nat.le_of_ble_eq_true rfl) (Nat.le_of_ble_eq_true rfl) ?_
            refine s_Link_end (t := t2) (by omega) (by have hq := q2_ρ2; omega) (fun ρ14 a_ρ14 q_ρ14 => ?_)
            refine r_iincE hC (3) dX5_endTies_70 rfl rfl (by omega) (by unfold inR; omega) ?_
            refine r_goto (tgt := 38) hC dX5_endTies_73 rfl ?_
            refine r_iload_n hC dX5_endTies_38 rfl ?_
            refine r_iconst hC dX5_endTies_39 rfl ?_
            refine r_icmp_ge (tgt := 76) hC dX5_endTies_40 rfl (fun h15 => by omega) (fun h15 => ?_)
            refine r_iload_n hC dX5_endTies_43 rfl ?_
            refine r_iload_n hC dX5_endTies_44 rfl ?_
            refine r_icmp_eq (tgt := 61) hC dX5_endTies_45 rfl (fun h16 => by omega) (fun h16 => ?_)
            refine r_aload_n hC dX5_endTies_48 rfl ?_
            refine z_getR hM dX5_endTies_49 fl_RX5_19 rfl rfl (vld_of (n := 1) rfl (by omega) (by omega)) ?_
            refine r_iload_n hC dX5_endTies_52 rfl ?_
            refine z_aald hM dX5_endTies_53 rfl (by decide) (by omega) (by omega) (vld_of (n := 4) rfl (by omega) (by omega)) ?_
            refine z_getI (jz := 0) hM dX5_endTies_54 fl_RX5_215 rfl rfl rfl (fun v17 h_v17 o_v17 t_v17 => ?_)
            have e_v17 : t3 = v17 := ((t_v17 (Or.inl (by simp [Tb]))).trans ((a_ρ14 _ _ _ (by omega)).trans q3_ρ2)).symm
            subst e_v17
            refine r_iload_n hC dX5_endTies_57 rfl ?_
            refine r_icmp_ne (tgt := 70) hC dX5_endTies_58 rfl (fun h18 => ?_) (fun h18 => ?_)
            · refine r_iincE hC (4) dX5_endTies_70 rfl rfl (by omega) (by unfold inR; omega) ?_
              refine r_goto (tgt := 38) hC dX5_endTies_73 rfl ?_
              refine r_iload_n hC dX5_endTies_38 rfl ?_
              refine r_iconst hC dX5_endTies_39 rfl ?_
              refine r_icmp_ge (tgt := 76) hC dX5_endTies_40 rfl (fun h19 => ?_) (fun h19 => by omega)
              refine y_vret hK rfl dX5_endTies_76 ?_
              have z0 := ((a_ρ14 _ _ _ (by omega)).trans q0_ρ2)
              have z1 := ((a_ρ14 _ _ _ (by omega)).trans q1_ρ2)
              have z2 := q_ρ14
              have z3 := ((a_ρ14 _ _ _ (by omega)).trans q3_ρ2)
              refine k _ ((g_ρ2).al a_ρ14 (by first | simp | omega)) (fun i h0 h3 => ?_)
              rcases (by omega : i = 0 ∨ i = 1 ∨ i = 2 ∨ i = 3) with rfl | rfl | rfl | rfl <;> split <;> omega
            · refine r_aload_n hC dX5_endTies_61 rfl ?_
              refine z_getR hM dX5_endTies_62 fl_RX5_19 rfl rfl (vld_of (n := 1) rfl (by omega) (by omega)) ?_
              refine r_iload_n hC dX5_endTies_65 rfl ?_
              refine z_aald hM dX5_endTies_66 rfl (by decide) (by omega) (by omega) (vld_of (n := 4) rfl (by omega) (by omega)) ?_
              refine z_inv0 hM dX5_endTies_67 vl_RX5_340 rfl rfl rfl (Nat.le_of_ble_eq_true rfl) (Nat.le_of_ble_eq_true rfl) ?_
              refine s_Link_end (t := t3) (by omega) (by have hq := ((a_ρ14 _ _ _ (by omega)).trans q3_ρ2); omega) (fun ρ20 a_ρ20 q_ρ20 => ?_)
              refine r_iincE hC (4) dX5_endTies_70 rfl rfl (by omega) (by unfold inR; omega) ?_
              refine r_goto (tgt := 38) hC dX5_endTies_73 rfl ?_
              refine r_iload_n hC dX5_endTies_38 rfl ?_
              refine r_iconst hC dX5_endTies_39 rfl ?_
              refine r_icmp_ge (tgt := 76) hC dX5_endTies_40 rfl (fun h21 => ?_) (fun h21 => by omega)
              refine y_vret hK rfl dX5_endTies_76 ?_
              have z0 := ((a_ρ20 _ _ _ (by omega)).trans ((a_ρ14 _ _ _ (by omega)).trans q0_ρ2))
              have z1 := ((a_ρ20 _ _ _ (by omega)).trans ((a_ρ14 _ _ _ (by omega)).trans q1_ρ2))
              have z2 := ((a_ρ20 _ _ _ (by omega)).trans q_ρ14)
              have z3 := q_ρ20
              refine k _ (((g_ρ2).al a_ρ14 (by first | simp | omega)).al a_ρ20 (by first | simp | omega)) (fun i h0 h3 => ?_)
              rcases (by omega : i = 0 ∨ i = 1 ∨ i = 2 ∨ i = 3) with rfl | rfl | rfl | rfl <;> split <;> omega
          · refine r_aload_n hC dX5_endTies_61 rfl ?_
            refine z_getR hM dX5_endTies_62 fl_RX5_19 rfl rfl (vld_of (n := 1) rfl (by omega) (by omega)) ?_
            refine r_iload_n hC dX5_endTies_65 rfl ?_
            refine z_aald hM dX5_endTies_66 rfl (by decide) (by omega) (by omega) (vld_of (n := 4) rfl (by omega) (by omega)) ?_
            refine z_inv0 hM dX5_endTies_67 vl_RX5_340 rfl rfl rfl (Nat.le_of_ble_eq_true rfl) (Nat.le_of_ble_eq_true rfl) ?_
            refine s_Link_end (t := t1) (by omega) (by have hq := q1_ρ2; omega) (fun ρ22 a_ρ22 q_ρ22 => ?_)
            refine r_iincE hC (2) dX5_endTies_70 rfl rfl (by omega) (by unfold inR; omega) ?_
            refine r_goto (tgt := 38) hC dX5_endTies_73 rfl ?_
            refine r_iload_n hC dX5_endTies_38 rfl ?_
            refine r_iconst hC dX5_endTies_39 rfl ?_
            refine r_icmp_ge (tgt := 76) hC dX5_endTies_40 rfl (fun h23 => by omega) (fun h23 => ?_)
            refine r_iload_n hC dX5_endTies_43 rfl ?_
            refine r_iload_n hC dX5_endTies_44 rfl ?_
            refine r_icmp_eq (tgt := 61) hC dX5_endTies_45 rfl (fun h24 => ?_) (fun h24 => by omega)
            refine r_aload_n hC dX5_endTies_61 rfl ?_
            refine z_getR hM dX5_endTies_62 fl_RX5_19 rfl rfl (vld_of (n := 1) rfl (by omega) (by omega)) ?_
            refine r_iload_n hC dX5_endTies_65 rfl ?_
            refine z_aald hM dX5_endTies_66 rfl (by decide) (by omega) (by omega) (vld_of (n := 4) rfl (by omega) (by omega)) ?_
            refine z_inv0 hM dX5_endTies_67 vl_RX5_340 rfl rfl rfl (Nat.le_of_ble_eq_true rfl) (Nat.le_of_ble_eq_true rfl) ?_
            refine s_Link_end (t := t2) (by omega) (by have hq := ((a_ρ22 _ _ _ (by omega)).trans q2_ρ2); omega) (fun ρ25 a_ρ25 q_ρ25 => ?_)
            refine r_iincE hC (3) dX5_endTies_70 rfl rfl (by omega) (by unfold inR; omega) ?_
            refine r_goto (tgt := 38) hC dX5_endTies_73 rfl ?_
            refine r_iload_n hC dX5_endTies_38 rfl ?_
            refine r_iconst hC dX5_endTies_39 rfl ?_
            refine r_icmp_ge (tgt := 76) hC dX5_endTies_40 rfl (fun h26 => by omega) (fun h26 => ?_)
            refine r_iload_n hC dX5_endTies_43 rfl ?_
            refine r_iload_n hC dX5_endTies_44 rfl ?_
            refine r_icmp_eq (tgt := 61) hC dX5_endTies_45 rfl (fun h27 => by omega) (fun h27 => ?_)
            refine r_aload_n hC dX5_endTies_48 rfl ?_
            refine z_getR hM dX5_endTies_49 fl_RX5_19 rfl rfl (vld_of (n := 1) rfl (by omega) (by omega)) ?_
            refine r_iload_n hC dX5_endTies_52 rfl ?_
            refine z_aald hM dX5_endTies_53 rfl (by decide) (by omega) (by omega) (vld_of (n := 4) rfl (by omega) (by omega)) ?_
            refine z_getI (jz := 0) hM dX5_endTies_54 fl_RX5_215 rfl rfl rfl (fun v28 h_v28 o_v28 t_v28 => ?_)
            have e_v28 : t3 = v28 := ((t_v28 (Or.inl (by simp [Tb]))).trans ((a_ρ25 _ _ _ (by omega)).trans ((a_ρ22 _ _ _ (by omega)).trans q3_ρ2))).symm
            subst e_v28
            refine r_iload_n hC dX5_endTies_57 rfl ?_
            refine r_icmp_ne (tgt := 70) hC dX5_endTies_58 rfl (fun h29 => ?_) (fun h29 => ?_)
            · refine r_iincE hC (4) dX5_endTies_70 rfl rfl (by omega) (by unfold inR; omega) ?_
              refine r_goto (tgt := 38) hC dX5_endTies_73 rfl ?_
              refine r_iload_n hC dX5_endTies_38 rfl ?_
              refine r_iconst hC dX5_endTies_39 rfl ?_
              refine r_icmp_ge (tgt := 76) hC dX5_endTies_40 rfl (fun h30 => ?_) (fun h30 => by omega)
              refine y_vret hK rfl dX5_endTies_76 ?_
              have z0 := ((a_ρ25 _ _ _ (by omega)).trans ((a_ρ22 _ _ _ (by omega)).trans q0_ρ2))
              have z1 := ((a_ρ25 _ _ _ (by omega)).trans q_ρ22)
              have z2 := q_ρ25
              have z3 := ((a_ρ25 _ _ _ (by omega)).trans ((a_ρ22 _ _ _ (by omega)).trans q3_ρ2))
              refine k _ (((g_ρ2).al a_ρ22 (by first | simp | omega)).al a_ρ25 (by first | simp | omega)) (fun i h0 h3 => ?_)
              rcases (by omega : i = 0 ∨ i = 1 ∨ i = 2 ∨ i = 3) with rfl | rfl | rfl | rfl <;> split <;> omega
            · refine r_aload_n hC dX5_endTies_61 rfl ?_
              refine z_getR hM dX5_endTies_62 fl_RX5_19 rfl rfl (vld_of (n := 1) rfl (by omega) (by omega)) ?_
              refine r_iload_n hC dX5_endTies_65 rfl ?_
              refine z_aald hM dX5_endTies_66 rfl (by decide) (by omega) (by omega) (vld_of (n := 4) rfl (by omega) (by omega)) ?_
              refine z_inv0 hM dX5_endTies_67 vl_RX5_340 rfl rfl rfl (Nat.le_of_ble_eq_true rfl) (Nat.le_of_ble_eq_true rfl) ?_
              refine s_Link_end (t := t3) (by omega) (by have hq := ((a_ρ25 _ _ _ (by omega)).trans ((a_ρ22 _ _ _ (by omega)).trans q3_ρ2)); omega) (fun ρ31 a_ρ31 q_ρ31 => ?_)
              refine r_iincE hC (4) dX5_endTies_70 rfl rfl (by omega) (by unfold inR; omega) ?_
              refine r_goto (tgt := 38) hC dX5_endTies_73 rfl ?_
              refine r_iload_n hC dX5_endTies_38 rfl ?_
              refine r_iconst hC dX5_endTies_39 rfl ?_
              refine r_icmp_ge (tgt := 76) hC dX5_endTies_40 rfl (fun h32 => ?_) (fun h32 => by omega)
              refine y_vret hK rfl dX5_endTies_76 ?_
              have z0 := ((a_ρ31 _ _ _ (by omega)).trans ((a_ρ25 _ _ _ (by omega)).trans ((a_ρ22 _ _ _ (by omega)).trans q0_ρ2)))
              have z1 := ((a_ρ31 _ _ _ (by omega)).trans ((a_ρ25 _ _ _ (by omega)).trans q_ρ22))
              have z2 := ((a_ρ31 _ _ _ (by omega)).trans q_ρ25)
              have z3 := q_ρ31
              refine k _ ((((g_ρ2).al a_ρ22 (by first | simp | omega)).al a_ρ25 (by first | simp | omega)).al a_ρ31 (by first | simp | omega)) (fun i h0 h3 => ?_)
              rcases (by omega : i = 0 ∨ i = 1 ∨ i = 2 ∨ i = 3) with rfl | rfl | rfl | rfl <;> split <;> omega
        · refine r_aload_n hC dX5_endTies_61 rfl ?_
          refine z_getR hM dX5_endTies_62 fl_RX5_19 rfl rfl (vld_of (n := 1) rfl (by omega) (by omega)) ?_
          refine r_iload_n hC dX5_endTies_65 rfl ?_
          refine z_aald hM dX5_endTies_66 rfl (by decide) (by omega) (by omega) (vld_of (n := 4) rfl (by omega) (by omega)) ?_
          refine z_inv0 hM dX5_endTies_67 vl_RX5_340 rfl rfl rfl (Nat.le_of_ble_eq_true rfl) (Nat.le_of_ble_eq_true rfl) ?_
          refine s_Link_end (t := t0) (by omega) (by have hq := q0_ρ2; omega) (fun ρ33 a_ρ33 q_ρ33 => ?_)
          refine r_iincE hC (1) dX5_endTies_70 rfl rfl (by omega) (by unfold inR; omega) ?_
          refine r_goto (tgt := 38) hC dX5_endTies_73 rfl ?_
          refine r_iload_n hC dX5_endTies_38 rfl ?_
          refine r_iconst hC dX5_endTies_39 rfl ?_
          refine r_icmp_ge (tgt := 76) hC dX5_endTies_40 rfl (fun h34 => by omega) (fun h34 => ?_)
          refine r_iload_n hC dX5_endTies_43 rfl ?_
          refine r_iload_n hC dX5_endTies_44 rfl ?_
          refine r_icmp_eq (tgt := 61) hC dX5_endTies_45 rfl (fun h35 => by omega) (fun h35 => ?_)
          refine r_aload_n hC dX5_endTies_48 rfl ?_
          refine z_getR hM dX5_endTies_49 fl_RX5_19 rfl rfl (vld_of (n := 1) rfl (by omega) (by omega)) ?_
          refine r_iload_n hC dX5_endTies_52 rfl ?_
          refine z_aald hM dX5_endTies_53 rfl (by decide) (by omega) (by omega) (vld_of (n := 4) rfl (by omega) (by omega)) ?_
          refine z_getI (jz := 0) hM dX5_endTies_54 fl_RX5_215 rfl rfl rfl (fun v36 h_v36 o_v36 t_v36 => ?_)
          have e_v36 : t1 = v36 := ((t_v36 (Or.inl (by simp [Tb]))).trans ((a_ρ33 _ _ _ (by omega)).trans q1_ρ2)).symm
          subst e_v36
          refine r_iload_n hC dX5_endTies_57 rfl ?_
          refine r_icmp_ne (tgt := 70) hC dX5_endTies_58 rfl (fun h37 => ?_) (fun h37 => ?_)
          · refine r_iincE hC (2) dX5_endTies_70 rfl rfl (by omega) (by unfold inR; omega) ?_
            refine r_goto (tgt := 38) hC dX5_endTies_73 rfl ?_
            refine r_iload_n hC dX5_endTies_38 rfl ?_
            refine r_iconst hC dX5_endTies_39 rfl ?_
            refine r_icmp_ge (tgt := 76) hC dX5_endTies_40 rfl (fun h38 => by omega) (fun h38 => ?_)
            refine r_iload_n hC dX5_endTies_43 rfl ?_
            refine r_iload_n hC dX5_endTies_44 rfl ?_
            refine r_icmp_eq (tgt := 61) hC dX5_endTies_45 rfl (fun h39 => ?_) (fun h39 => by omega)
            refine r_aload_n hC dX5_endTies_61 rfl ?_
            refine z_getR hM dX5_endTies_62 fl_RX5_19 rfl rfl (vld_of (n := 1) rfl (by omega) (by omega)) ?_
            refine r_iload_n hC dX5_endTies_65 rfl ?_
            refine z_aald hM dX5_endTies_66 rfl (by decide) (by omega) (by omega) (vld_of (n := 4) rfl (by omega) (by omega)) ?_
            refine z_inv0 hM dX5_endTies_67 vl_RX5_340 rfl rfl rfl (Nat.le_of_ble_eq_true rfl) (Nat.le_of_ble_eq_true rfl) ?_
            refine s_Link_end (t := t2) (by omega) (by have hq := ((a_ρ33 _ _ _ (by omega)).trans q2_ρ2); omega) (fun ρ40 a_ρ40 q_ρ40 => ?_)
            refine r_iincE hC (3) dX5_endTies_70 rfl rfl (by omega) (by unfold inR; omega) ?_
            refine r_goto (tgt := 38) hC dX5_endTies_73 rfl ?_
            refine r_iload_n hC dX5_endTies_38 rfl ?_
            refine r_iconst hC dX5_endTies_39 rfl ?_
            refine r_icmp_ge (tgt := 76) hC dX5_endTies_40 rfl (fun h41 => by omega) (fun h41 => ?_)
            refine r_iload_n hC dX5_endTies_43 rfl ?_
            refine r_iload_n hC dX5_endTies_44 rfl ?_
            refine r_icmp_eq (tgt := 61) hC dX5_endTies_45 rfl (fun h42 => by omega) (fun h42 => ?_)
            refine r_aload_n hC dX5_endTies_48 rfl ?_
            refine z_getR hM dX5_endTies_49 fl_RX5_19 rfl rfl (vld_of (n := 1) rfl (by omega) (by omega)) ?_
            refine r_iload_n hC dX5_endTies_52 rfl ?_
            refine z_aald hM dX5_endTies_53 rfl (by decide) (by omega) (by omega) (vld_of (n := 4) rfl (by omega) (by omega)) ?_
            refine z_getI (jz := 0) hM dX5_endTies_54 fl_RX5_215 rfl rfl rfl (fun v43 h_v43 o_v43 t_v43 => ?_)
            have e_v43 : t3 = v43 := ((t_v43 (Or.inl (by simp [Tb]))).trans ((a_ρ40 _ _ _ (by omega)).trans ((a_ρ33 _ _ _ (by omega)).trans q3_ρ2))).symm
            subst e_v43
            refine r_iload_n hC dX5_endTies_57 rfl ?_
            refine r_icmp_ne (tgt := 70) hC dX5_endTies_58 rfl (fun h44 => ?_) (fun h44 => ?_)
            · refine r_iincE hC (4) dX5_endTies_70 rfl rfl (by omega) (by unfold inR; omega) ?_
              refine r_goto (tgt := 38) hC dX5_endTies_73 rfl ?_
              refine r_iload_n hC dX5_endTies_38 rfl ?_
              refine r_iconst hC dX5_endTies_39 rfl ?_
              refine r_icmp_ge (tgt := 76) hC dX5_endTies_40 rfl (fun h45 => ?_) (fun h45 => by omega)
              refine y_vret hK rfl dX5_endTies_76 ?_
              have z0 := ((a_ρ40 _ _ _ (by omega)).trans q_ρ33)
              have z1 := ((a_ρ40 _ _ _ (by omega)).trans ((a_ρ33 _ _ _ (by omega)).trans q1_ρ2))
              have z2 := q_ρ40
              have z3 := ((a_ρ40 _ _ _ (by omega)).trans ((a_ρ33 _ _ _ (by omega)).trans q3_ρ2))
              refine k _ (((g_ρ2).al a_ρ33 (by first | simp | omega)).al a_ρ40 (by first | simp | omega)) (fun i h0 h3 => ?_)
              rcases (by omega : i = 0 ∨ i = 1 ∨ i = 2 ∨ i = 3) with rfl | rfl | rfl | rfl <;> split <;> omega
            · refine r_aload_n hC dX5_endTies_61 rfl ?_
              refine z_getR hM dX5_endTies_62 fl_RX5_19 rfl rfl (vld_of (n := 1) rfl (by omega) (by omega)) ?_
              refine r_iload_n hC dX5_endTies_65 rfl ?_
              refine z_aald hM dX5_endTies_66 rfl (by decide) (by omega) (by omega) (vld_of (n := 4) rfl (by omega) (by omega)) ?_
              refine z_inv0 hM dX5_endTies_67 vl_RX5_340 rfl rfl rfl (Nat.le_of_ble_eq_true rfl) (Nat.le_of_ble_eq_true rfl) ?_
              refine s_Link_end (t := t3) (by omega) (by have hq := ((a_ρ40 _ _ _ (by omega)).trans ((a_ρ33 _ _ _ (by omega)).trans q3_ρ2)); omega) (fun ρ46 a_ρ46 q_ρ46 => ?_)
              refine r_iincE hC (4) dX5_endTies_70 rfl rfl (by omega) (by unfold inR; omega) ?_
              refine r_goto (tgt := 38) hC dX5_endTies_73 rfl ?_
              refine r_iload_n hC dX5_endTies_38 rfl ?_
              refine r_iconst hC dX5_endTies_39 rfl ?_
              refine r_icmp_ge (tgt := 76) hC dX5_endTies_40 rfl (fun h47 => ?_) (fun h47 => by omega)
              refine y_vret hK rfl dX5_endTies_76 ?_
              have z0 := ((a_ρ46 _ _ _ (by omega)).trans ((a_ρ40 _ _ _ (by omega)).trans q_ρ33))
              have z1 := ((a_ρ46 _ _ _ (by omega)).trans ((a_ρ40 _ _ _ (by omega)).trans ((a_ρ33 _ _ _ (by omega)).trans q1_ρ2)))
              have z2 := ((a_ρ46 _ _ _ (by omega)).trans q_ρ40)
              have z3 := q_ρ46
              refine k _ ((((g_ρ2).al a_ρ33 (by first | simp | omega)).al a_ρ40 (by first | simp | omega)).al a_ρ46 (by first | simp | omega)) (fun i h0 h3 => ?_)
              rcases (by omega : i = 0 ∨ i = 1 ∨ i = 2 ∨ i = 3) with rfl | rfl | rfl | rfl <;> split <;> omega
          · refine r_aload_n hC dX5_endTies_61 rfl ?_
            refine z_getR hM dX5_endTies_62 fl_RX5_19 rfl rfl (vld_of (n := 1) rfl (by omega) (by omega)) ?_
            refine r_iload_n hC dX5_endTies_65 rfl ?_
            refine z_aald hM dX5_endTies_66 rfl (by decide) (by omega) (by omega) (vld_of (n := 4) rfl (by omega) (by omega)) ?_
            refine z_inv0 hM dX5_endTies_67 vl_RX5_340 rfl rfl rfl (Nat.le_of_ble_eq_true rfl) (Nat.le_of_ble_eq_true rfl) ?_
            refine s_Link_end (t := t1) (by omega) (by have hq := ((a_ρ33 _ _ _ (by omega)).trans q1_ρ2); omega) (fun ρ48 a_ρ48 q_ρ48 => ?_)
            refine r_iincE hC (2) dX5_endTies_70 rfl rfl (by omega) (by unfold inR; omega) ?_
            refine r_goto (tgt := 38) hC dX5_endTies_73 rfl ?_
            refine r_iload_n hC dX5_endTies_38 rfl ?_
            refine r_iconst hC dX5_endTies_39 rfl ?_
            refine r_icmp_ge (tgt := 76) hC dX5_endTies_40 rfl (fun h49 => by omega) (fun h49 => ?_)
            refine r_iload_n hC dX5_endTies_43 rfl ?_
            refine r_iload_n hC dX5_endTies_44 rfl ?_
            refine r_icmp_eq (tgt := 61) hC dX5_endTies_45 rfl (fun h50 => ?_) (fun h50 => by omega)
            refine r_aload_n hC dX5_endTies_61 rfl ?_
            refine z_getR hM dX5_endTies_62 fl_RX5_19 rfl rfl (vld_of (n := 1) rfl (by omega) (by omega)) ?_
            refine r_iload_n hC dX5_endTies_65 rfl ?_
            refine z_aald hM dX5_endTies_66 rfl (by decide) (by omega) (by omega) (vld_of (n := 4) rfl (by omega) (by omega)) ?_
            refine z_inv0 hM dX5_endTies_67 vl_RX5_340 rfl rfl rfl (Nat.le_of_ble_eq_true rfl) (Nat.le_of_ble_eq_true rfl) ?_
            refine s_Link_end (t := t2) (by omega) (by have hq := ((a_ρ48 _ _ _ (by omega)).trans ((a_ρ33 _ _ _ (by omega)).trans q2_ρ2)); omega) (fun ρ51 a_ρ51 q_ρ51 => ?_)
            refine r_iincE hC (3) dX5_endTies_70 rfl rfl (by omega) (by unfold inR; omega) ?_
            refine r_goto (tgt := 38) hC dX5_endTies_73 rfl ?_
            refine r_iload_n hC dX5_endTies_38 rfl ?_
            refine r_iconst hC dX5_endTies_39 rfl ?_
            refine r_icmp_ge (tgt := 76) hC dX5_endTies_40 rfl (fun h52 => by omega) (fun h52 => ?_)
            refine r_iload_n hC dX5_endTies_43 rfl ?_
            refine r_iload_n hC dX5_endTies_44 rfl ?_
            refine r_icmp_eq (tgt := 61) hC dX5_endTies_45 rfl (fun h53 => by omega) (fun h53 => ?_)
            refine r_aload_n hC dX5_endTies_48 rfl ?_
            refine z_getR hM dX5_endTies_49 fl_RX5_19 rfl rfl (vld_of (n := 1) rfl (by omega) (by omega)) ?_
            refine r_iload_n hC dX5_endTies_52 rfl ?_
            refine z_aald hM dX5_endTies_53 rfl (by decide) (by omega) (by omega) (vld_of (n := 4) rfl (by omega) (by omega)) ?_
            refine z_getI (jz := 0) hM dX5_endTies_54 fl_RX5_215 rfl rfl rfl (fun v54 h_v54 o_v54 t_v54 => ?_)
            have e_v54 : t3 = v54 := ((t_v54 (Or.inl (by simp [Tb]))).trans ((a_ρ51 _ _ _ (by omega)).trans ((a_ρ48 _ _ _ (by omega)).trans ((a_ρ33 _ _ _ (by omega)).trans q3_ρ2)))).symm
            subst e_v54
            refine r_iload_n hC dX5_endTies_57 rfl ?_
            refine r_icmp_ne (tgt := 70) hC dX5_endTies_58 rfl (fun h55 => ?_) (fun h55 => ?_)
            · refine r_iincE hC (4) dX5_endTies_70 rfl rfl (by omega) (by unfold inR; omega) ?_
              refine r_goto (tgt := 38) hC dX5_endTies_73 rfl ?_
              refine r_iload_n hC dX5_endTies_38 rfl ?_
              refine r_iconst hC dX5_endTies_39 rfl ?_
              refine r_icmp_ge (tgt := 76) hC dX5_endTies_40 rfl (fun h56 => ?_) (fun h56 => by omega)
              refine y_vret hK rfl dX5_endTies_76 ?_
              have z0 := ((a_ρ51 _ _ _ (by omega)).trans ((a_ρ48 _ _ _ (by omega)).trans q_ρ33))
              have z1 := ((a_ρ51 _ _ _ (by omega)).trans q_ρ48)
              have z2 := q_ρ51
              have z3 := ((a_ρ51 _ _ _ (by omega)).trans ((a_ρ48 _ _ _ (by omega)).trans ((a_ρ33 _ _ _ (by omega)).trans q3_ρ2)))
              refine k _ ((((g_ρ2).al a_ρ33 (by first | simp | omega)).al a_ρ48 (by first | simp | omega)).al a_ρ51 (by first | simp | omega)) (fun i h0 h3 => ?_)
              rcases (by omega : i = 0 ∨ i = 1 ∨ i = 2 ∨ i = 3) with rfl | rfl | rfl | rfl <;> split <;> omega
            · refine r_aload_n hC dX5_endTies_61 rfl ?_
              refine z_getR hM dX5_endTies_62 fl_RX5_19 rfl rfl (vld_of (n := 1) rfl (by omega) (by omega)) ?_
              refine r_iload_n hC dX5_endTies_65 rfl ?_
              refine z_aald hM dX5_endTies_66 rfl (by decide) (by omega) (by omega) (vld_of (n := 4) rfl (by omega) (by omega)) ?_
              refine z_inv0 hM dX5_endTies_67 vl_RX5_340 rfl rfl rfl (Nat.le_of_ble_eq_true rfl) (Nat.le_of_ble_eq_true rfl) ?_
              refine s_Link_end (t := t3) (by omega) (by have hq := ((a_ρ51 _ _ _ (by omega)).trans ((a_ρ48 _ _ _ (by omega)).trans ((a_ρ33 _ _ _ (by omega)).trans q3_ρ2))); omega) (fun ρ57 a_ρ57 q_ρ57 => ?_)
              refine r_iincE hC (4) dX5_endTies_70 rfl rfl (by omega) (by unfold inR; omega) ?_
              refine r_goto (tgt := 38) hC dX5_endTies_73 rfl ?_
              refine r_iload_n hC dX5_endTies_38 rfl ?_
              refine r_iconst hC dX5_endTies_39 rfl ?_
              refine r_icmp_ge (tgt := 76) hC dX5_endTies_40 rfl (fun h58 => ?_) (fun h58 => by omega)
              refine y_vret hK rfl dX5_endTies_76 ?_
              have z0 := ((a_ρ57 _ _ _ (by omega)).trans ((a_ρ51 _ _ _ (by omega)).trans ((a_ρ48 _ _ _ (by omega)).trans q_ρ33)))
              have z1 := ((a_ρ57 _ _ _ (by omega)).trans ((a_ρ51 _ _ _ (by omega)).trans q_ρ48))
              have z2 := ((a_ρ57 _ _ _ (by omega)).trans q_ρ51)
              have z3 := q_ρ57
              refine k _ (((((g_ρ2).al a_ρ33 (by first | simp | omega)).al a_ρ48 (by first | simp | omega)).al a_ρ51 (by first | simp | omega)).al a_ρ57 (by first | simp | omega)) (fun i h0 h3 => ?_)
              rcases (by omega : i = 0 ∨ i = 1 ∨ i = 2 ∨ i = 3) with rfl | rfl | rfl | rfl <;> split <;> omega
      · refine r_aload_n hC dX5_endTies_8 rfl ?_
        refine z_getR hM dX5_endTies_9 fl_RX5_32 rfl rfl (vld_of (n := 1) rfl (by omega) (by omega)) ?_
        refine r_iload_n hC dX5_endTies_12 rfl ?_
        refine z_aald hM dX5_endTies_13 rfl (by decide) (by omega) (by omega) (vld_of (n := 8) rfl (by omega) (by omega)) ?_
        refine z_getI (jz := 0) hM dX5_endTies_14 fl_RX5_321 rfl rfl rfl (fun v59 h_v59 o_v59 t_v59 => ?_)
        refine r_iload_n hC dX5_endTies_17 rfl ?_
        refine r_icmp_ne (tgt := 30) hC dX5_endTies_18 rfl (fun h60 => ?_) (fun h60 => ?_)
        · refine r_iincE hC ((w1 + 1)) dX5_endTies_30 rfl rfl (by omega) (by unfold inR; omega) ?_
          refine r_goto (tgt := 2) hC dX5_endTies_33 rfl ?_
          exact ih2 ((w1 + 1)) ρ2 (by omega)  (by omega) (g_ρ2) (by have hq := q0_ρ2; omega) (by have hq := q1_ρ2; omega) (by have hq := q2_ρ2; omega) (by have hq := q3_ρ2; omega)
        · refine r_aload_n hC dX5_endTies_21 rfl ?_
          refine z_getR hM dX5_endTies_22 fl_RX5_32 rfl rfl (vld_of (n := 1) rfl (by omega) (by omega)) ?_
          refine r_iload_n hC dX5_endTies_25 rfl ?_
          refine z_aald hM dX5_endTies_26 rfl (by decide) (by omega) (by omega) (vld_of (n := 8) rfl (by omega) (by omega)) ?_
          refine z_inv0 hM dX5_endTies_27 vl_RX5_344 rfl rfl rfl (Nat.le_of_ble_eq_true rfl) (Nat.le_of_ble_eq_true rfl) ?_
          refine s_Watch_end (by omega) ?_
          refine r_iincE hC ((w1 + 1)) dX5_endTies_30 rfl rfl (by omega) (by unfold inR; omega) ?_
          refine r_goto (tgt := 2) hC dX5_endTies_33 rfl ?_
          exact ih2 ((w1 + 1)) ρ2 (by omega)  (by omega) (g_ρ2) (by have hq := q0_ρ2; omega) (by have hq := q1_ρ2; omega) (by have hq := q2_ρ2; omega) (by have hq := q3_ρ2; omega)
  exact L2 10 (0) σ (by omega)  (by omega) (Gx.rf) (by have hq := qg0; omega) (by have hq := qg1; omega) (by have hq := qg2; omega) (by have hq := qg3; omega)
theorem s_endTies3 {e : Ev} {d : Nat} {P : Option Vl → Mm → Prop} {σ : Mm} {t0 t1 t2 t3 : Int} (qg0 : σ 13 0 0 = t0) (qg1 : σ 13 1 0 = t1) (qg2 : σ 13 2 0 = t2) (qg3 : σ 13 3 0 = t3)  (k : ∀ ρ : Mm, Gx (fun c x y => c = 13 ∧ y = 0) σ ρ → (∀ i : Int, 0 ≤ i → i ≤ 3 → ρ 13 i 0 = if i = 3 ∨ σ 13 i 0 = 3 then -1 else σ 13 i 0) → P none ρ) : WT e (d + 2) 108 [vR 2 0, vI 3] σ P := by
  refine WT_in fun K hK => ?_
  have hK : StpY e cX5_endTies RX5 (none) (WT e (d + 1)) P K := hK
  have hM := hK.1
  have hC := hK.1.1
  show K 0 [some (vR 2 0), some (vI 3), none] [] σ
  refine r_iconst hC dX5_endTies_0 rfl ?_
  refine r_istore_n hC dX5_endTies_1 rfl ?_
  have L2 : ∀ (n2 : Nat) (w1 : Int) (ρ2 : Mm), 0 ≤ w1 ∧ w1 ≤ 8 → 8 - w1 < (n2 : Int) → Gx (fun c x y => c = 13 ∧ y = 0) σ ρ2 → ρ2 13 0 0 = t0 → ρ2 13 1 0 = t1 → ρ2 13 2 0 = t2 → ρ2 13 3 0 = t3 → K 2 [some (vR 2 0), some (vI 3), some (vI w1)] [] ρ2 := by
    intro n2
    induction n2 with
    | zero => intro w1 ρ2 f_w1  hm g_ρ2 q0_ρ2 q1_ρ2 q2_ρ2 q3_ρ2; omega
    | succ n2 ih2 =>
      intro w1 ρ2 f_w1  hm2 g_ρ2 q0_ρ2 q1_ρ2 q2_ρ2 q3_ρ2
      refine r_iload_n hC dX5_endTies_2 rfl ?_
      refine r_bipush hC dX5_endTies_3 rfl ?_
      refine r_icmp_ge (tgt := 36) hC dX5_endTies_5 rfl (fun h3 => ?_) (fun h3 => ?_)
      · refine r_iconst hC dX5_endTies_36 rfl ?_
        refine r_istore_n hC dX5_endTies_37 rfl ?_
        refine r_iload_n hC dX5_endTies_38 rfl ?_
        refine r_iconst hC dX5_endTies_39 rfl ?_
        refine r_icmp_ge (tgt := 76) hC dX5_endTies_40 rfl (fun h4 => by omega) (fun h4 => ?_)
        refine r_iload_n hC dX5_endTies_43 rfl ?_
        refine r_iload_n hC dX5_endTies_44 rfl ?_
        refine r_icmp_eq (tgt := 61) hC dX5_endTies_45 rfl (fun h5 => by omega) (fun h5 => ?_)
        refine r_aload_n hC dX5_endTies_48 rfl ?_
        refine z_getR hM dX5_endTies_49 fl_RX5_19 rfl rfl (vld_of (n := 1) rfl (by omega) (by omega)) ?_
        refine r_iload_n hC dX5_endTies_52 rfl ?_
        refine z_aald hM dX5_endTies_53 rfl (by decide) (by omega) (by omega) (vld_of (n := 4) rfl (by omega) (by omega)) ?_
        refine z_getI (jz := 0) hM dX5_endTies_54 fl_RX5_215 rfl rfl rfl (fun v6 h_v6 o_v6 t_v6 => ?_)
        have e_v6 : t0 = v6 := ((t_v6 (Or.inl (by simp [Tb]))).trans q0_ρ2).symm
        subst e_v6
        refine r_iload_n hC dX5_endTies_57 rfl ?_
        refine r_icmp_ne (tgt := 70) hC dX5_endTies_58 rfl (fun h7 => ?_) (fun h7 => ?_)
        · refine r_iincE hC (1) dX5_endTies_70 rfl rfl (by omega) (by unfold inR; omega) ?_
          refine r_goto (tgt := 38) hC dX5_endTies_73 rfl ?_
          refine r_iload_n hC dX5_endTies_38 rfl ?_
          refine r_iconst hC dX5_endTies_39 rfl ?_
          refine r_icmp_ge (tgt := 76) hC dX5_endTies_40 rfl (fun h8 => by omega) (fun h8 => ?_)
          refine r_iload_n hC dX5_endTies_43 rfl ?_
          refine r_iload_n hC dX5_endTies_44 rfl ?_
          refine r_icmp_eq (tgt := 61) hC dX5_endTies_45 rfl (fun h9 => by omega) (fun h9 => ?_)
          refine r_aload_n hC dX5_endTies_48 rfl ?_
          refine z_getR hM dX5_endTies_49 fl_RX5_19 rfl rfl (vld_of (n := 1) rfl (by omega) (by omega)) ?_
          refine r_iload_n hC dX5_endTies_52 rfl ?_
          refine z_aald hM dX5_endTies_53 rfl (by decide) (by omega) (by omega) (vld_of (n := 4) rfl (by omega) (by omega)) ?_
          refine z_getI (jz := 0) hM dX5_endTies_54 fl_RX5_215 rfl rfl rfl (fun v10 h_v10 o_v10 t_v10 => ?_)
          have e_v10 : t1 = v10 := ((t_v10 (Or.inl (by simp [Tb]))).trans q1_ρ2).symm
          subst e_v10
          refine r_iload_n hC dX5_endTies_57 rfl ?_
          refine r_icmp_ne (tgt := 70) hC dX5_endTies_58 rfl (fun h11 => ?_) (fun h11 => ?_)
          · refine r_iincE hC (2) dX5_endTies_70 rfl rfl (by omega) (by unfold inR; omega) ?_
            refine r_goto (tgt := 38) hC dX5_endTies_73 rfl ?_
            refine r_iload_n hC dX5_endTies_38 rfl ?_
            refine r_iconst hC dX5_endTies_39 rfl ?_
            refine r_icmp_ge (tgt := 76) hC dX5_endTies_40 rfl (fun h12 => by omega) (fun h12 => ?_)
            refine r_iload_n hC dX5_endTies_43 rfl ?_
            refine r_iload_n hC dX5_endTies_44 rfl ?_
            refine r_icmp_eq (tgt := 61) hC dX5_endTies_45 rfl (fun h13 => by omega) (fun h13 => ?_)
            refine r_aload_n hC dX5_endTies_48 rfl ?_
            refine z_getR hM dX5_endTies_49 fl_RX5_19 rfl rfl (vld_of (n := 1) rfl (by omega) (by omega)) ?_
            refine r_iload_n hC dX5_endTies_52 rfl ?_
            refine z_aald hM dX5_endTies_53 rfl (by decide) (by omega) (by omega) (vld_of (n := 4) rfl (by omega) (by omega)) ?_
            refine z_getI (jz := 0) hM dX5_endTies_54 fl_RX5_215 rfl rfl rfl (fun v14 h_v14 o_v14 t_v14 => ?_)
            have e_v14 : t2 = v14 := ((t_v14 (Or.inl (by simp [Tb]))).trans q2_ρ2).symm
            subst e_v14
            refine r_iload_n hC dX5_endTies_57 rfl ?_
            refine r_icmp_ne (tgt := 70) hC dX5_endTies_58 rfl (fun h15 => ?_) (fun h15 => ?_)
            · refine r_iincE hC (3) dX5_endTies_70 rfl rfl (by omega) (by unfold inR; omega) ?_
              refine r_goto (tgt := 38) hC dX5_endTies_73 rfl ?_
              refine r_iload_n hC dX5_endTies_38 rfl ?_
              refine r_iconst hC dX5_endTies_39 rfl ?_
              refine r_icmp_ge (tgt := 76) hC dX5_endTies_40 rfl (fun h16 => by omega) (fun h16 => ?_)
              refine r_iload_n hC dX5_endTies_43 rfl ?_
              refine r_iload_n hC dX5_endTies_44 rfl ?_
              refine r_icmp_eq (tgt := 61) hC dX5_endTies_45 rfl (fun h17 => ?_) (fun h17 => by omega)
              refine r_aload_n hC dX5_endTies_61 rfl ?_
              refine z_getR hM dX5_endTies_62 fl_RX5_19 rfl rfl (vld_of (n := 1) rfl (by omega) (by omega)) ?_
              refine r_iload_n hC dX5_endTies_65 rfl ?_
              refine z_aald hM dX5_endTies_66 rfl (by decide) (by omega) (by omega) (vld_of (n := 4) rfl (by omega) (by omega)) ?_
              refine z_inv0 hM dX5_endTies_67 vl_RX5_340 rfl rfl rfl (Nat.le_of_ble_eq_true rfl) (Nat.le_of_ble_eq_true rfl) ?_
              refine s_Link_end (t := t3) (by omega) (by have hq := q3_ρ2; omega) (fun ρ18 a_ρ18 q_ρ18 => ?_)
              refine r_iincE hC (4) dX5_endTies_70 rfl rfl (by omega) (by unfold inR; omega) ?_
              refine r_goto (tgt := 38) hC dX5_endTies_73 rfl ?_
              refine r_iload_n hC dX5_endTies_38 rfl ?_
              refine r_iconst hC dX5_endTies_39 rfl ?_
              refine r_icmp_ge (tgt := 76) hC dX5_endTies_40 rfl (fun h19 => ?_) (fun h19 => by omega)
              refine y_vret hK rfl dX5_endTies_76 ?_
              have z0 := ((a_ρ18 _ _ _ (by omega)).trans q0_ρ2)
              have z1 := ((a_ρ18 _ _ _ (by omega)).trans q1_ρ2)
              have z2 := ((a_ρ18 _ _ _ (by omega)).trans q2_ρ2)
              have z3 := q_ρ18
              refine k _ ((g_ρ2).al a_ρ18 (by first | simp | omega)) (fun i h0 h3 => ?_)
              rcases (by omega : i = 0 ∨ i = 1 ∨ i = 2 ∨ i = 3) with rfl | rfl | rfl | rfl <;> split <;> omega
            · refine r_aload_n hC dX5_endTies_61 rfl ?_
              refine z_getR hM dX5_endTies_62 fl_RX5_19 rfl rfl (vld_of (n := 1) rfl (by omega) (by omega)) ?_
              refine r_iload_n hC dX5_endTies_65 rfl ?_
              refine z_aald hM dX5_endTies_66 rfl (by decide) (by omega) (by omega) (vld_of (n := 4) rfl (by omega) (by omega)) ?_
              refine z_inv0 hM dX5_endTies_67 vl_RX5_340 rfl rfl rfl (Nat.le_of_ble_eq_true rfl) (Nat.le_of_ble_eq_true rfl) ?_
              refine s_Link_end (t := t2) (by omega) (by have hq := q2_ρ2; omega) (fun ρ20 a_ρ20 q_ρ20 => ?_)
              refine r_iincE hC (3) dX5_endTies_70 rfl rfl (by omega) (by unfold inR; omega) ?_
              refine r_goto (tgt := 38) hC dX5_endTies_73 rfl ?_
              refine r_iload_n hC dX5_endTies_38 rfl ?_
              refine r_iconst hC dX5_endTies_39 rfl ?_
              refine r_icmp_ge (tgt := 76) hC dX5_endTies_40 rfl (fun h21 => by omega) (fun h21 => ?_)
              refine r_iload_n hC dX5_endTies_43 rfl ?_
              refine r_iload_n hC dX5_endTies_44 rfl ?_
              refine r_icmp_eq (tgt := 61) hC dX5_endTies_45 rfl (fun h22 => ?_) (fun h22 => by omega)
              refine r_aload_n hC dX5_endTies_61 rfl ?_
              refine z_getR hM dX5_endTies_62 fl_RX5_19 rfl rfl (vld_of (n := 1) rfl (by omega) (by omega)) ?_
              refine r_iload_n hC dX5_endTies_65 rfl ?_
              refine z_aald hM dX5_endTies_66 rfl (by decide) (by omega) (by omega) (vld_of (n := 4) rfl (by omega) (by omega)) ?_
              refine z_inv0 hM dX5_endTies_67 vl_RX5_340 rfl rfl rfl (Nat.le_of_ble_eq_true rfl) (Nat.le_of_ble_eq_true rfl) ?_
              refine s_Link_end (t := t3) (by omega) (by have hq := ((a_ρ20 _ _ _ (by omega)).trans q3_ρ2); omega) (fun ρ23 a_ρ23 q_ρ23 => ?_)
              refine r_iincE hC (4) dX5_endTies_70 rfl rfl (by omega) (by unfold inR; omega) ?_
              refine r_goto (tgt := 38) hC dX5_endTies_73 rfl ?_
              refine r_iload_n hC dX5_endTies_38 rfl ?_
              refine r_iconst hC dX5_endTies_39 rfl ?_
              refine r_icmp_ge (tgt := 76) hC dX5_endTies_40 rfl (fun h24 => ?_) (fun h24 => by omega)
              refine y_vret hK rfl dX5_endTies_76 ?_
              have z0 := ((a_ρ23 _ _ _ (by omega)).trans ((a_ρ20 _ _ _ (by omega)).trans q0_ρ2))
              have z1 := ((a_ρ23 _ _ _ (by omega)).trans ((a_ρ20 _ _ _ (by omega)).trans q1_ρ2))
              have z2 := ((a_ρ23 _ _ _ (by omega)).trans q_ρ20)
              have z3 := q_ρ23
              refine k _ (((g_ρ2).al a_ρ20 (by first | simp | omega)).al a_ρ23 (by first | simp | omega)) (fun i h0 h3 => ?_)
              rcases (by omega : i = 0 ∨ i = 1 ∨ i = 2 ∨ i = 3) with rfl | rfl | rfl | rfl <;> split <;> omega
          · refine r_aload_n hC dX5_endTies_61 rfl ?_
            refine z_getR hM dX5_endTies_62 fl_RX5_19 rfl rfl (vld_of (n := 1) rfl (by omega) (by omega)) ?_
            refine r_iload_n hC dX5_endTies_65 rfl ?_
            refine z_aald hM dX5_endTies_66 rfl (by decide) (by omega) (by omega) (vld_of (n := 4) rfl (by omega) (by omega)) ?_
            refine z_inv0 hM dX5_endTies_67 vl_RX5_340 rfl rfl rfl (Nat.le_of_ble_eq_true rfl) (Nat.le_of_ble_eq_true rfl) ?_
            refine s_Link_end (t := t1) (by omega) (by have hq := q1_ρ2; omega) (fun ρ25 a_ρ25 q_ρ25 => ?_)
            refine r_iincE hC (2) dX5_endTies_70 rfl rfl (by omega) (by unfold inR; omega) ?_
            refine r_goto (tgt := 38) hC dX5_endTies_73 rfl ?_
            refine r_iload_n hC dX5_endTies_38 rfl ?_
            refine r_iconst hC dX5_endTies_39 rfl ?_
            refine r_icmp_ge (tgt := 76) hC dX5_endTies_40 rfl (fun h26 => by omega) (fun h26 => ?_)
            refine r_iload_n hC dX5_endTies_43 rfl ?_
            refine r_iload_n hC dX5_endTies_44 rfl ?_
            refine r_icmp_eq (tgt := 61) hC dX5_endTies_45 rfl (fun h27 => by omega) (fun h27 => ?_)
            refine r_aload_n hC dX5_endTies_48 rfl ?_
            refine z_getR hM dX5_endTies_49 fl_RX5_19 rfl rfl (vld_of (n := 1) rfl (by omega) (by omega)) ?_
            refine r_iload_n hC dX5_endTies_52 rfl ?_
            refine z_aald hM dX5_endTies_53 rfl (by decide) (by omega) (by omega) (vld_of (n := 4) rfl (by omega) (by omega)) ?_
            refine z_getI (jz := 0) hM dX5_endTies_54 fl_RX5_215 rfl rfl rfl (fun v28 h_v28 o_v28 t_v28 => ?_)
            have e_v28 : t2 = v28 := ((t_v28 (Or.inl (by simp [Tb]))).trans ((a_ρ25 _ _ _ (by omega)).trans q2_ρ2)).symm
            subst e_v28
            refine r_iload_n hC dX5_endTies_57 rfl ?_
            refine r_icmp_ne (tgt := 70) hC dX5_endTies_58 rfl (fun h29 => ?_) (fun h29 => ?_)
            · refine r_iincE hC (3) dX5_endTies_70 rfl rfl (by omega) (by unfold inR; omega) ?_
              refine r_goto (tgt := 38) hC dX5_endTies_73 rfl ?_
              refine r_iload_n hC dX5_endTies_38 rfl ?_
              refine r_iconst hC dX5_endTies_39 rfl ?_
              refine r_icmp_ge (tgt := 76) hC dX5_endTies_40 rfl (fun h30 => by omega) (fun h30 => ?_)
              refine r_iload_n hC dX5_endTies_43 rfl ?_
              refine r_iload_n hC dX5_endTies_44 rfl ?_
              refine r_icmp_eq (tgt := 61) hC dX5_endTies_45 rfl (fun h31 => ?_) (fun h31 => by omega)
              refine r_aload_n hC dX5_endTies_61 rfl ?_
              refine z_getR hM dX5_endTies_62 fl_RX5_19 rfl rfl (vld_of (n := 1) rfl (by omega) (by omega)) ?_
              refine r_iload_n hC dX5_endTies_65 rfl ?_
              refine z_aald hM dX5_endTies_66 rfl (by decide) (by omega) (by omega) (vld_of (n := 4) rfl (by omega) (by omega)) ?_
              refine z_inv0 hM dX5_endTies_67 vl_RX5_340 rfl rfl rfl (Nat.le_of_ble_eq_true rfl) (Nat.le_of_ble_eq_true rfl) ?_
              refine s_Link_end (t := t3) (by omega) (by have hq := ((a_ρ25 _ _ _ (by omega)).trans q3_ρ2); omega) (fun ρ32 a_ρ32 q_ρ32 => ?_)
              refine r_iincE hC (4) dX5_endTies_70 rfl rfl (by omega) (by unfold inR; omega) ?_
              refine r_goto (tgt := 38) hC dX5_endTies_73 rfl ?_
              refine r_iload_n hC dX5_endTies_38 rfl ?_
              refine r_iconst hC dX5_endTies_39 rfl ?_
              refine r_icmp_ge (tgt := 76) hC dX5_endTies_40 rfl (fun h33 => ?_) (fun h33 => by omega)
              refine y_vret hK rfl dX5_endTies_76 ?_
              have z0 := ((a_ρ32 _ _ _ (by omega)).trans ((a_ρ25 _ _ _ (by omega)).trans q0_ρ2))
              have z1 := ((a_ρ32 _ _ _ (by omega)).trans q_ρ25)
              have z2 := ((a_ρ32 _ _ _ (by omega)).trans ((a_ρ25 _ _ _ (by omega)).trans q2_ρ2))
              have z3 := q_ρ32
              refine k _ (((g_ρ2).al a_ρ25 (by first | simp | omega)).al a_ρ32 (by first | simp | omega)) (fun i h0 h3 => ?_)
              rcases (by omega : i = 0 ∨ i = 1 ∨ i = 2 ∨ i = 3) with rfl | rfl | rfl | rfl <;> split <;> omega
            · refine r_aload_n hC dX5_endTies_61 rfl ?_
              refine z_getR hM dX5_endTies_62 fl_RX5_19 rfl rfl (vld_of (n := 1) rfl (by omega) (by omega)) ?_
              refine r_iload_n hC dX5_endTies_65 rfl ?_
              refine z_aald hM dX5_endTies_66 rfl (by decide) (by omega) (by omega) (vld_of (n := 4) rfl (by omega) (by omega)) ?_
              refine z_inv0 hM dX5_endTies_67 vl_RX5_340 rfl rfl rfl (Nat.le_of_ble_eq_true rfl) (Nat.le_of_ble_eq_true rfl) ?_
              refine s_Link_end (t := t2) (by omega) (by have hq := ((a_ρ25 _ _ _ (by omega)).trans q2_ρ2); omega) (fun ρ34 a_ρ34 q_ρ34 => ?_)
              refine r_iincE hC (3) dX5_endTies_70 rfl rfl (by omega) (by unfold inR; omega) ?_
              refine r_goto (tgt := 38) hC dX5_endTies_73 rfl ?_
              refine r_iload_n hC dX5_endTies_38 rfl ?_
              refine r_iconst hC dX5_endTies_39 rfl ?_
              refine r_icmp_ge (tgt := 76) hC dX5_endTies_40 rfl (fun h35 => by omega) (fun h35 => ?_)
              refine r_iload_n hC dX5_endTies_43 rfl ?_
              refine r_iload_n hC dX5_endTies_44 rfl ?_
              refine r_icmp_eq (tgt := 61) hC dX5_endTies_45 rfl (fun h36 => ?_) (fun h36 => by omega)
              refine r_aload_n hC dX5_endTies_61 rfl ?_
              refine z_getR hM dX5_endTies_62 fl_RX5_19 rfl rfl (vld_of (n := 1) rfl (by omega) (by omega)) ?_
              refine r_iload_n hC dX5_endTies_65 rfl ?_
              refine z_aald hM dX5_endTies_66 rfl (by decide) (by omega) (by omega) (vld_of (n := 4) rfl (by omega) (by omega)) ?_
              refine z_inv0 hM dX5_endTies_67 vl_RX5_340 rfl rfl rfl (Nat.le_of_ble_eq_true rfl) (Nat.le_of_ble_eq_true rfl) ?_
              refine s_Link_end (t := t3) (by omega) (by have hq := ((a_ρ34 _ _ _ (by omega)).trans ((a_ρ25 _ _ _ (by omega)).trans q3_ρ2)); omega) (fun ρ37 a_ρ37 q_ρ37 => ?_)
              refine r_iincE hC (4) dX5_endTies_70 rfl rfl (by omega) (by unfold inR; omega) ?_
              refine r_goto (tgt := 38) hC dX5_endTies_73 rfl ?_
              refine r_iload_n hC dX5_endTies_38 rfl ?_
              refine r_iconst hC dX5_endTies_39 rfl ?_
              refine r_icmp_ge (tgt := 76) hC dX5_endTies_40 rfl (fun h38 => ?_) (fun h38 => by omega)
              refine y_vret hK rfl dX5_endTies_76 ?_
              have z0 := ((a_ρ37 _ _ _ (by omega)).trans ((a_ρ34 _ _ _ (by omega)).trans ((a_ρ25 _ _ _ (by omega)).trans q0_ρ2)))
              have z1 := ((a_ρ37 _ _ _ (by omega)).trans ((a_ρ34 _ _ _ (by omega)).trans q_ρ25))
              have z2 := ((a_ρ37 _ _ _ (by omega)).trans q_ρ34)
              have z3 := q_ρ37
              refine k _ ((((g_ρ2).al a_ρ25 (by first | simp | omega)).al a_ρ34 (by first | simp | omega)).al a_ρ37 (by first | simp | omega)) (fun i h0 h3 => ?_)
              rcases (by omega : i = 0 ∨ i = 1 ∨ i = 2 ∨ i = 3) with rfl | rfl | rfl | rfl <;> split <;> omega
        · refine r_aload_n hC dX5_endTies_61 rfl ?_
          refine z_getR hM dX5_endTies_62 fl_RX5_19 rfl rfl (vld_of (n := 1) rfl (by omega) (by omega)) ?_
          refine r_iload_n hC dX5_endTies_65 rfl ?_
          refine z_aald hM dX5_endTies_66 rfl (by decide) (by omega) (by omega) (vld_of (n := 4) rfl (by omega) (by omega)) ?_
          refine z_inv0 hM dX5_endTies_67 vl_RX5_340 rfl rfl rfl (Nat.le_of_ble_eq_true rfl) (Nat.le_of_ble_eq_true rfl) ?_
          refine s_Link_end (t := t0) (by omega) (by have hq := q0_ρ2; omega) (fun ρ39 a_ρ39 q_ρ39 => ?_)
          refine r_iincE hC (1) dX5_endTies_70 rfl rfl (by omega) (by unfold inR; omega) ?_
          refine r_goto (tgt := 38) hC dX5_endTies_73 rfl ?_
          refine r_iload_n hC dX5_endTies_38 rfl ?_
          refine r_iconst hC dX5_endTies_39 rfl ?_
          refine r_icmp_ge (tgt := 76) hC dX5_endTies_40 rfl (fun h40 => by omega) (fun h40 => ?_)
          refine r_iload_n hC dX5_endTies_43 rfl ?_
          refine r_iload_n hC dX5_endTies_44 rfl ?_
          refine r_icmp_eq (tgt := 61) hC dX5_endTies_45 rfl (fun h41 => by omega) (fun h41 => ?_)
          refine r_aload_n hC dX5_endTies_48 rfl ?_
          refine z_getR hM dX5_endTies_49 fl_RX5_19 rfl rfl (vld_of (n := 1) rfl (by omega) (by omega)) ?_
          refine r_iload_n hC dX5_endTies_52 rfl ?_
          refine z_aald hM dX5_endTies_53 rfl (by decide) (by omega) (by omega) (vld_of (n := 4) rfl (by omega) (by omega)) ?_
          refine z_getI (jz := 0) hM dX5_endTies_54 fl_RX5_215 rfl rfl rfl (fun v42 h_v42 o_v42 t_v42 => ?_)
          have e_v42 : t1 = v42 := ((t_v42 (Or.inl (by simp [Tb]))).trans ((a_ρ39 _ _ _ (by omega)).trans q1_ρ2)).symm
          subst e_v42
          refine r_iload_n hC dX5_endTies_57 rfl ?_
          refine r_icmp_ne (tgt := 70) hC dX5_endTies_58 rfl (fun h43 => ?_) (fun h43 => ?_)
          · refine r_iincE hC (2) dX5_endTies_70 rfl rfl (by omega) (by unfold inR; omega) ?_
            refine r_goto (tgt := 38) hC dX5_endTies_73 rfl ?_
            refine r_iload_n hC dX5_endTies_38 rfl ?_
            refine r_iconst hC dX5_endTies_39 rfl ?_
            refine r_icmp_ge (tgt := 76) hC dX5_endTies_40 rfl (fun h44 => by omega) (fun h44 => ?_)
            refine r_iload_n hC dX5_endTies_43 rfl ?_
            refine r_iload_n hC dX5_endTies_44 rfl ?_
            refine r_icmp_eq (tgt := 61) hC dX5_endTies_45 rfl (fun h45 => by omega) (fun h45 => ?_)
            refine r_aload_n hC dX5_endTies_48 rfl ?_
            refine z_getR hM dX5_endTies_49 fl_RX5_19 rfl rfl (vld_of (n := 1) rfl (by omega) (by omega)) ?_
            refine r_iload_n hC dX5_endTies_52 rfl ?_
            refine z_aald hM dX5_endTies_53 rfl (by decide) (by omega) (by omega) (vld_of (n := 4) rfl (by omega) (by omega)) ?_
            refine z_getI (jz := 0) hM dX5_endTies_54 fl_RX5_215 rfl rfl rfl (fun v46 h_v46 o_v46 t_v46 => ?_)
            have e_v46 : t2 = v46 := ((t_v46 (Or.inl (by simp [Tb]))).trans ((a_ρ39 _ _ _ (by omega)).trans q2_ρ2)).symm
            subst e_v46
            refine r_iload_n hC dX5_endTies_57 rfl ?_
            refine r_icmp_ne (tgt := 70) hC dX5_endTies_58 rfl (fun h47 => ?_) (fun h47 => ?_)
            · refine r_iincE hC (3) dX5_endTies_70 rfl rfl (by omega) (by unfold inR; omega) ?_
              refine r_goto (tgt := 38) hC dX5_endTies_73 rfl ?_
              refine r_iload_n hC dX5_endTies_38 rfl ?_
              refine r_iconst hC dX5_endTies_39 rfl ?_
              refine r_icmp_ge (tgt := 76) hC dX5_endTies_40 rfl (fun h48 => by omega) (fun h48 => ?_)
              refine r_iload_n hC dX5_endTies_43 rfl ?_
              refine r_iload_n hC dX5_endTies_44 rfl ?_
              refine r_icmp_eq (tgt := 61) hC dX5_endTies_45 rfl (fun h49 => ?_) (fun h49 => by omega)
              refine r_aload_n hC dX5_endTies_61 rfl ?_
              refine z_getR hM dX5_endTies_62 fl_RX5_19 rfl rfl (vld_of (n := 1) rfl (by omega) (by omega)) ?_
              refine r_iload_n hC dX5_endTies_65 rfl ?_
              refine z_aald hM dX5_endTies_66 rfl (by decide) (by omega) (by omega) (vld_of (n := 4) rfl (by omega) (by omega)) ?_
              refine z_inv0 hM dX5_endTies_67 vl_RX5_340 rfl rfl rfl (Nat.le_of_ble_eq_true rfl) (Nat.le_of_ble_eq_true rfl) ?_
              refine s_Link_end (t := t3) (by omega) (by have hq := ((a_ρ39 _ _ _ (by omega)).trans q3_ρ2); omega) (fun ρ50 a_ρ50 q_ρ50 => ?_)
              refine r_iincE hC (4) dX5_endTies_70 rfl rfl (by omega) (by unfold inR; omega) ?_
              refine r_goto (tgt := 38) hC dX5_endTies_73 rfl ?_
              refine r_iload_n hC dX5_endTies_38 rfl ?_
              refine r_iconst hC dX5_endTies_39 rfl ?_
              refine r_icmp_ge (tgt := 76) hC dX5_endTies_40 rfl (fun h51 => ?_) (fun h51 => by omega)
              refine y_vret hK rfl dX5_endTies_76 ?_
              have z0 := ((a_ρ50 _ _ _ (by omega)).trans q_ρ39)
              have z1 := ((a_ρ50 _ _ _ (by omega)).trans ((a_ρ39 _ _ _ (by omega)).trans q1_ρ2))
              have z2 := ((a_ρ50 _ _ _ (by omega)).trans ((a_ρ39 _ _ _ (by omega)).trans q2_ρ2))
              have z3 := q_ρ50
              refine k _ (((g_ρ2).al a_ρ39 (by first | simp | omega)).al a_ρ50 (by first | simp | omega)) (fun i h0 h3 => ?_)
              rcases (by omega : i = 0 ∨ i = 1 ∨ i = 2 ∨ i = 3) with rfl | rfl | rfl | rfl <;> split <;> omega
            · refine r_aload_n hC dX5_endTies_61 rfl ?_
              refine z_getR hM dX5_endTies_62 fl_RX5_19 rfl rfl (vld_of (n := 1) rfl (by omega) (by omega)) ?_
              refine r_iload_n hC dX5_endTies_65 rfl ?_
              refine z_aald hM dX5_endTies_66 rfl (by decide) (by omega) (by omega) (vld_of (n := 4) rfl (by omega) (by omega)) ?_
              refine z_inv0 hM dX5_endTies_67 vl_RX5_340 rfl rfl rfl (Nat.le_of_ble_eq_true rfl) (Nat.le_of_ble_eq_true rfl) ?_
              refine s_Link_end (t := t2) (by omega) (by have hq := ((a_ρ39 _ _ _ (by omega)).trans q2_ρ2); omega) (fun ρ52 a_ρ52 q_ρ52 => ?_)
              refine r_iincE hC (3) dX5_endTies_70 rfl rfl (by omega) (by unfold inR; omega) ?_
              refine r_goto (tgt := 38) hC dX5_endTies_73 rfl ?_
              refine r_iload_n hC dX5_endTies_38 rfl ?_
              refine r_iconst hC dX5_endTies_39 rfl ?_
              refine r_icmp_ge (tgt := 76) hC dX5_endTies_40 rfl (fun h53 => by omega) (fun h53 => ?_)
              refine r_iload_n hC dX5_endTies_43 rfl ?_
              refine r_iload_n hC dX5_endTies_44 rfl ?_
              refine r_icmp_eq (tgt := 61) hC dX5_endTies_45 rfl (fun h54 => ?_) (fun h54 => by omega)
              refine r_aload_n hC dX5_endTies_61 rfl ?_
              refine z_getR hM dX5_endTies_62 fl_RX5_19 rfl rfl (vld_of (n := 1) rfl (by omega) (by omega)) ?_
              refine r_iload_n hC dX5_endTies_65 rfl ?_
              refine z_aald hM dX5_endTies_66 rfl (by decide) (by omega) (by omega) (vld_of (n := 4) rfl (by omega) (by omega)) ?_
              refine z_inv0 hM dX5_endTies_67 vl_RX5_340 rfl rfl rfl (Nat.le_of_ble_eq_true rfl) (Nat.le_of_ble_eq_true rfl) ?_
              refine s_Link_end (t := t3) (by omega) (by have hq := ((a_ρ52 _ _ _ (by omega)).trans ((a_ρ39 _ _ _ (by omega)).trans q3_ρ2)); omega) (fun ρ55 a_ρ55 q_ρ55 => ?_)
              refine r_iincE hC (4) dX5_endTies_70 rfl rfl (by omega) (by unfold inR; omega) ?_
              refine r_goto (tgt := 38) hC dX5_endTies_73 rfl ?_
              refine r_iload_n hC dX5_endTies_38 rfl ?_
              refine r_iconst hC dX5_endTies_39 rfl ?_
              refine r_icmp_ge (tgt := 76) hC dX5_endTies_40 rfl (fun h56 => ?_) (fun h56 => by omega)
              refine y_vret hK rfl dX5_endTies_76 ?_
              have z0 := ((a_ρ55 _ _ _ (by omega)).trans ((a_ρ52 _ _ _ (by omega)).trans q_ρ39))
              have z1 := ((a_ρ55 _ _ _ (by omega)).trans ((a_ρ52 _ _ _ (by omega)).trans ((a_ρ39 _ _ _ (by omega)).trans q1_ρ2)))
              have z2 := ((a_ρ55 _ _ _ (by omega)).trans q_ρ52)
              have z3 := q_ρ55
              refine k _ ((((g_ρ2).al a_ρ39 (by first | simp | omega)).al a_ρ52 (by first | simp | omega)).al a_ρ55 (by first | simp | omega)) (fun i h0 h3 => ?_)
              rcases (by omega : i = 0 ∨ i = 1 ∨ i = 2 ∨ i = 3) with rfl | rfl | rfl | rfl <;> split <;> omega
          · refine r_aload_n hC dX5_endTies_61 rfl ?_
            refine z_getR hM dX5_endTies_62 fl_RX5_19 rfl rfl (vld_of (n := 1) rfl (by omega) (by omega)) ?_
            refine r_iload_n hC dX5_endTies_65 rfl ?_
            refine z_aald hM dX5_endTies_66 rfl (by decide) (by omega) (by omega) (vld_of (n := 4) rfl (by omega) (by omega)) ?_
            refine z_inv0 hM dX5_endTies_67 vl_RX5_340 rfl rfl rfl (Nat.le_of_ble_eq_true rfl) (Nat.le_of_ble_eq_true rfl) ?_
            refine s_Link_end (t := t1) (by omega) (by have hq := ((a_ρ39 _ _ _ (by omega)).trans q1_ρ2); omega) (fun ρ57 a_ρ57 q_ρ57 => ?_)
            refine r_iincE hC (2) dX5_endTies_70 rfl rfl (by omega) (by unfold inR; omega) ?_
            refine r_goto (tgt := 38) hC dX5_endTies_73 rfl ?_
            refine r_iload_n hC dX5_endTies_38 rfl ?_
            refine r_iconst hC dX5_endTies_39 rfl ?_
            refine r_icmp_ge (tgt := 76) hC dX5_endTies_40 rfl (fun h58 => by omega) (fun h58 => ?_)
            refine r_iload_n hC dX5_endTies_43 rfl ?_
            refine r_iload_n hC dX5_endTies_44 rfl ?_
            refine r_icmp_eq (tgt := 61) hC dX5_endTies_45 rfl (fun h59 => by omega) (fun h59 => ?_)
            refine r_aload_n hC dX5_endTies_48 rfl ?_
            refine z_getR hM dX5_endTies_49 fl_RX5_19 rfl rfl (vld_of (n := 1) rfl (by omega) (by omega)) ?_
            refine r_iload_n hC dX5_endTies_52 rfl ?_
            refine z_aald hM dX5_endTies_53 rfl (by decide) (by omega) (by omega) (vld_of (n := 4) rfl (by omega) (by omega)) ?_
            refine z_getI (jz := 0) hM dX5_endTies_54 fl_RX5_215 rfl rfl rfl (fun v60 h_v60 o_v60 t_v60 => ?_)
            have e_v60 : t2 = v60 := ((t_v60 (Or.inl (by simp [Tb]))).trans ((a_ρ57 _ _ _ (by omega)).trans ((a_ρ39 _ _ _ (by omega)).trans q2_ρ2))).symm
            subst e_v60
            refine r_iload_n hC dX5_endTies_57 rfl ?_
            refine r_icmp_ne (tgt := 70) hC dX5_endTies_58 rfl (fun h61 => ?_) (fun h61 => ?_)
            · refine r_iincE hC (3) dX5_endTies_70 rfl rfl (by omega) (by unfold inR; omega) ?_
              refine r_goto (tgt := 38) hC dX5_endTies_73 rfl ?_
              refine r_iload_n hC dX5_endTies_38 rfl ?_
              refine r_iconst hC dX5_endTies_39 rfl ?_
              refine r_icmp_ge (tgt := 76) hC dX5_endTies_40 rfl (fun h62 => by omega) (fun h62 => ?_)
              refine r_iload_n hC dX5_endTies_43 rfl ?_
              refine r_iload_n hC dX5_endTies_44 rfl ?_
              refine r_icmp_eq (tgt := 61) hC dX5_endTies_45 rfl (fun h63 => ?_) (fun h63 => by omega)
              refine r_aload_n hC dX5_endTies_61 rfl ?_
              refine z_getR hM dX5_endTies_62 fl_RX5_19 rfl rfl (vld_of (n := 1) rfl (by omega) (by omega)) ?_
              refine r_iload_n hC dX5_endTies_65 rfl ?_
              refine z_aald hM dX5_endTies_66 rfl (by decide) (by omega) (by omega) (vld_of (n := 4) rfl (by omega) (by omega)) ?_
              refine z_inv0 hM dX5_endTies_67 vl_RX5_340 rfl rfl rfl (Nat.le_of_ble_eq_true rfl) (Nat.le_of_ble_eq_true rfl) ?_
              refine s_Link_end (t := t3) (by omega) (by have hq := ((a_ρ57 _ _ _ (by omega)).trans ((a_ρ39 _ _ _ (by omega)).trans q3_ρ2)); omega) (fun ρ64 a_ρ64 q_ρ64 => ?_)
              refine r_iincE hC (4) dX5_endTies_70 rfl rfl (by omega) (by unfold inR; omega) ?_
              refine r_goto (tgt := 38) hC dX5_endTies_73 rfl ?_
              refine r_iload_n hC dX5_endTies_38 rfl ?_
              refine r_iconst hC dX5_endTies_39 rfl ?_
              refine r_icmp_ge (tgt := 76) hC dX5_endTies_40 rfl (fun h65 => ?_) (fun h65 => by omega)
              refine y_vret hK rfl dX5_endTies_76 ?_
              have z0 := ((a_ρ64 _ _ _ (by omega)).trans ((a_ρ57 _ _ _ (by omega)).trans q_ρ39))
              have z1 := ((a_ρ64 _ _ _ (by omega)).trans q_ρ57)
              have z2 := ((a_ρ64 _ _ _ (by omega)).trans ((a_ρ57 _ _ _ (by omega)).trans ((a_ρ39 _ _ _ (by omega)).trans q2_ρ2)))
              have z3 := q_ρ64
              refine k _ ((((g_ρ2).al a_ρ39 (by first | simp | omega)).al a_ρ57 (by first | simp | omega)).al a_ρ64 (by first | simp | omega)) (fun i h0 h3 => ?_)
              rcases (by omega : i = 0 ∨ i = 1 ∨ i = 2 ∨ i = 3) with rfl | rfl | rfl | rfl <;> split <;> omega
            · refine r_aload_n hC dX5_endTies_61 rfl ?_
              refine z_getR hM dX5_endTies_62 fl_RX5_19 rfl rfl (vld_of (n := 1) rfl (by omega) (by omega)) ?_
              refine r_iload_n hC dX5_endTies_65 rfl ?_
              refine z_aald hM dX5_endTies_66 rfl (by decide) (by omega) (by omega) (vld_of (n := 4) rfl (by omega) (by omega)) ?_
              refine z_inv0 hM dX5_endTies_67 vl_RX5_340 rfl rfl rfl (Nat.le_of_ble_eq_true rfl) (Nat.le_of_ble_eq_true rfl) ?_
              refine s_Link_end (t := t2) (by omega) (by have hq := ((a_ρ57 _ _ _ (by omega)).trans ((a_ρ39 _ _ _ (by omega)).trans q2_ρ2)); omega) (fun ρ66 a_ρ66 q_ρ66 => ?_)
              refine r_iincE hC (3) dX5_endTies_70 rfl rfl (by omega) (by unfold inR; omega) ?_
              refine r_goto (tgt := 38) hC dX5_endTies_73 rfl ?_
              refine r_iload_n hC dX5_endTies_38 rfl ?_
              refine r_iconst hC dX5_endTies_39 rfl ?_
              refine r_icmp_ge (tgt := 76) hC dX5_endTies_40 rfl (fun h67 => by omega) (fun h67 => ?_)
              refine r_iload_n hC dX5_endTies_43 rfl ?_
              refine r_iload_n hC dX5_endTies_44 rfl ?_
              refine r_icmp_eq (tgt := 61) hC dX5_endTies_45 rfl (fun h68 => ?_) (fun h68 => by omega)
              refine r_aload_n hC dX5_endTies_61 rfl ?_
              refine z_getR hM dX5_endTies_62 fl_RX5_19 rfl rfl (vld_of (n := 1) rfl (by omega) (by omega)) ?_
              refine r_iload_n hC dX5_endTies_65 rfl ?_
              refine z_aald hM dX5_endTies_66 rfl (by decide) (by omega) (by omega) (vld_of (n := 4) rfl (by omega) (by omega)) ?_
              refine z_inv0 hM dX5_endTies_67 vl_RX5_340 rfl rfl rfl (Nat.le_of_ble_eq_true rfl) (Nat.le_of_ble_eq_true rfl) ?_
              refine s_Link_end (t := t3) (by omega) (by have hq := ((a_ρ66 _ _ _ (by omega)).trans ((a_ρ57 _ _ _ (by omega)).trans ((a_ρ39 _ _ _ (by omega)).trans q3_ρ2))); omega) (fun ρ69 a_ρ69 q_ρ69 => ?_)
              refine r_iincE hC (4) dX5_endTies_70 rfl rfl (by omega) (by unfold inR; omega) ?_
              refine r_goto (tgt := 38) hC dX5_endTies_73 rfl ?_
              refine r_iload_n hC dX5_endTies_38 rfl ?_
              refine r_iconst hC dX5_endTies_39 rfl ?_
              refine r_icmp_ge (tgt := 76) hC dX5_endTies_40 rfl (fun h70 => ?_) (fun h70 => by omega)
              refine y_vret hK rfl dX5_endTies_76 ?_
              have z0 := ((a_ρ69 _ _ _ (by omega)).trans ((a_ρ66 _ _ _ (by omega)).trans ((a_ρ57 _ _ _ (by omega)).trans q_ρ39)))
              have z1 := ((a_ρ69 _ _ _ (by omega)).trans ((a_ρ66 _ _ _ (by omega)).trans q_ρ57))
              have z2 := ((a_ρ69 _ _ _ (by omega)).trans q_ρ66)
              have z3 := q_ρ69
              refine k _ (((((g_ρ2).al a_ρ39 (by first | simp | omega)).al a_ρ57 (by first | simp | omega)).al a_ρ66 (by first | simp | omega)).al a_ρ69 (by first | simp | omega)) (fun i h0 h3 => ?_)
              rcases (by omega : i = 0 ∨ i = 1 ∨ i = 2 ∨ i = 3) with rfl | rfl | rfl | rfl <;> split <;> omega
      · refine r_aload_n hC dX5_endTies_8 rfl ?_
        refine z_getR hM dX5_endTies_9 fl_RX5_32 rfl rfl (vld_of (n := 1) rfl (by omega) (by omega)) ?_
        refine r_iload_n hC dX5_endTies_12 rfl ?_
        refine z_aald hM dX5_endTies_13 rfl (by decide) (by omega) (by omega) (vld_of (n := 8) rfl (by omega) (by omega)) ?_
        refine z_getI (jz := 0) hM dX5_endTies_14 fl_RX5_321 rfl rfl rfl (fun v71 h_v71 o_v71 t_v71 => ?_)
        refine r_iload_n hC dX5_endTies_17 rfl ?_
        refine r_icmp_ne (tgt := 30) hC dX5_endTies_18 rfl (fun h72 => ?_) (fun h72 => ?_)
        · refine r_iincE hC ((w1 + 1)) dX5_endTies_30 rfl rfl (by omega) (by unfold inR; omega) ?_
          refine r_goto (tgt := 2) hC dX5_endTies_33 rfl ?_
          exact ih2 ((w1 + 1)) ρ2 (by omega)  (by omega) (g_ρ2) (by have hq := q0_ρ2; omega) (by have hq := q1_ρ2; omega) (by have hq := q2_ρ2; omega) (by have hq := q3_ρ2; omega)
        · refine r_aload_n hC dX5_endTies_21 rfl ?_
          refine z_getR hM dX5_endTies_22 fl_RX5_32 rfl rfl (vld_of (n := 1) rfl (by omega) (by omega)) ?_
          refine r_iload_n hC dX5_endTies_25 rfl ?_
          refine z_aald hM dX5_endTies_26 rfl (by decide) (by omega) (by omega) (vld_of (n := 8) rfl (by omega) (by omega)) ?_
          refine z_inv0 hM dX5_endTies_27 vl_RX5_344 rfl rfl rfl (Nat.le_of_ble_eq_true rfl) (Nat.le_of_ble_eq_true rfl) ?_
          refine s_Watch_end (by omega) ?_
          refine r_iincE hC ((w1 + 1)) dX5_endTies_30 rfl rfl (by omega) (by unfold inR; omega) ?_
          refine r_goto (tgt := 2) hC dX5_endTies_33 rfl ?_
          exact ih2 ((w1 + 1)) ρ2 (by omega)  (by omega) (g_ρ2) (by have hq := q0_ρ2; omega) (by have hq := q1_ρ2; omega) (by have hq := q2_ρ2; omega) (by have hq := q3_ρ2; omega)
  exact L2 10 (0) σ (by omega)  (by omega) (Gx.rf) (by have hq := qg0; omega) (by have hq := qg1; omega) (by have hq := qg2; omega) (by have hq := qg3; omega)
theorem s_endTies {e : Ev} {d : Nat} {P : Option Vl → Mm → Prop} {σ : Mm} {l : Int} (b_l : 0 ≤ l ∧ l ≤ 3) (k : ∀ ρ : Mm, Gx (fun c x y => c = 13 ∧ y = 0) σ ρ → (∀ i : Int, 0 ≤ i → i ≤ 3 → ρ 13 i 0 = if i = l ∨ σ 13 i 0 = l then -1 else σ 13 i 0) → P none ρ) : WT e (d + 2) 108 [vR 2 0, vI l] σ P := by
  rcases (by omega : l = 0 ∨ l = 1 ∨ l = 2 ∨ l = 3) with rfl | rfl | rfl | rfl
  · exact s_endTies0 rfl rfl rfl rfl k
  · exact s_endTies1 rfl rfl rfl rfl k
  · exact s_endTies2 rfl rfl rfl rfl k
  · exact s_endTies3 rfl rfl rfl rfl k
theorem m_endLinks0 {e : Ev} {d : Nat} {P : Option Vl → Mm → Prop} {σ : Mm} {t0 t1 t2 t3 : Int} (qg0 : σ 45 0 0 = t0) (qg1 : σ 45 0 1 = t1) (qg2 : σ 45 0 2 = t2) (qg3 : σ 45 0 3 = t3)  (k : ∀ ρ : Mm, Gx (fun c x y => c = 45 ∧ x = 0) σ ρ → (∀ i : Int, 0 ≤ i → i ≤ 3 → ρ 45 0 i = if i = 0 ∨ σ 45 0 i = 0 then -1 else σ 45 0 i) → P none ρ) : WT e (d + 1) 198 [vR 30 0, vI 0] σ P := by
  refine WT_in fun K hK => ?_
  have hK : StpY e cX6_endLinks RX6 (none) (WT e (d + 0)) P K := hK
  have hM := hK.1
  have hC := hK.1.1
  show K 0 [some (vR 30 0), some (vI 0), none] [] σ
  refine r_aload_n hC dX6_endLinks_0 rfl ?_
  refine z_getR hM dX6_endLinks_1 fl_RX6_52 rfl rfl (vld_of (n := 1) rfl (by omega) (by omega)) ?_
  refine r_iload_n hC dX6_endLinks_4 rfl ?_
  refine r_iconst hC dX6_endLinks_5 rfl ?_
  refine z_iastG hM dX6_endLinks_6 rfl (by omega) (by omega) ⟨Or.inr (by simp [DL]), Or.inr (by simp [DF])⟩ (by first | trivial | (simp only [Okv]; omega) | (simp [Okv]; try omega)) (fun ρ1 a_ρ1 q_ρ1 => ?_)
  refine r_iconst hC dX6_endLinks_7 rfl ?_
  refine r_istore_n hC dX6_endLinks_8 rfl ?_
  refine r_iload_n hC dX6_endLinks_9 rfl ?_
  refine r_iconst hC dX6_endLinks_10 rfl ?_
  refine r_icmp_ge (tgt := 37) hC dX6_endLinks_11 rfl (fun h2 => by omega) (fun h2 => ?_)
  refine r_aload_n hC dX6_endLinks_14 rfl ?_
  refine z_getR hM dX6_endLinks_15 fl_RX6_52 rfl rfl (vld_of (n := 1) rfl (by omega) (by omega)) ?_
  refine r_iload_n hC dX6_endLinks_18 rfl ?_
  refine z_iald hM dX6_endLinks_19 rfl (by omega) (by omega) (fun v3 h_v3 o_v3 t_v3 => ?_)
  have e_v3 : (-1) = v3 := ((t_v3 (Or.inl trivial)).trans q_ρ1).symm
  subst e_v3
  refine r_iload_n hC dX6_endLinks_20 rfl ?_
  refine r_icmp_ne (tgt := 31) hC dX6_endLinks_21 rfl (fun h4 => ?_) (fun h4 => by omega)
  refine r_iincE hC (1) dX6_endLinks_31 rfl rfl (by omega) (by unfold inR; omega) ?_
  refine r_goto (tgt := 9) hC dX6_endLinks_34 rfl ?_
  refine r_iload_n hC dX6_endLinks_9 rfl ?_
  refine r_iconst hC dX6_endLinks_10 rfl ?_
  refine r_icmp_ge (tgt := 37) hC dX6_endLinks_11 rfl (fun h5 => by omega) (fun h5 => ?_)
  refine r_aload_n hC dX6_endLinks_14 rfl ?_
  refine z_getR hM dX6_endLinks_15 fl_RX6_52 rfl rfl (vld_of (n := 1) rfl (by omega) (by omega)) ?_
  refine r_iload_n hC dX6_endLinks_18 rfl ?_
  refine z_iald hM dX6_endLinks_19 rfl (by omega) (by omega) (fun v6 h_v6 o_v6 t_v6 => ?_)
  have e_v6 : t1 = v6 := ((t_v6 (Or.inl trivial)).trans ((a_ρ1 _ _ _ (by omega)).trans qg1)).symm
  subst e_v6
  have q_v6 : -1 ≤ t1 ∧ t1 ≤ 3 := o_v6
  refine r_iload_n hC dX6_endLinks_20 rfl ?_
  refine r_icmp_ne (tgt := 31) hC dX6_endLinks_21 rfl (fun h7 => ?_) (fun h7 => ?_)
  · refine r_iincE hC (2) dX6_endLinks_31 rfl rfl (by omega) (by unfold inR; omega) ?_
    refine r_goto (tgt := 9) hC dX6_endLinks_34 rfl ?_
    refine r_iload_n hC dX6_endLinks_9 rfl ?_
    refine r_iconst hC dX6_endLinks_10 rfl ?_
    refine r_icmp_ge (tgt := 37) hC dX6_endLinks_11 rfl (fun h8 => by omega) (fun h8 => ?_)
    refine r_aload_n hC dX6_endLinks_14 rfl ?_
    refine z_getR hM dX6_endLinks_15 fl_RX6_52 rfl rfl (vld_of (n := 1) rfl (by omega) (by omega)) ?_
    refine r_iload_n hC dX6_endLinks_18 rfl ?_
    refine z_iald hM dX6_endLinks_19 rfl (by omega) (by omega) (fun v9 h_v9 o_v9 t_v9 => ?_)
    have e_v9 : t2 = v9 := ((t_v9 (Or.inl trivial)).trans ((a_ρ1 _ _ _ (by omega)).trans qg2)).symm
    subst e_v9
    have q_v9 : -1 ≤ t2 ∧ t2 ≤ 3 := o_v9
    refine r_iload_n hC dX6_endLinks_20 rfl ?_
    refine r_icmp_ne (tgt := 31) hC dX6_endLinks_21 rfl (fun h10 => ?_) (fun h10 => ?_)
    · refine r_iincE hC (3) dX6_endLinks_31 rfl rfl (by omega) (by unfold inR; omega) ?_
      refine r_goto (tgt := 9) hC dX6_endLinks_34 rfl ?_
      refine r_iload_n hC dX6_endLinks_9 rfl ?_
      refine r_iconst hC dX6_endLinks_10 rfl ?_
      refine r_icmp_ge (tgt := 37) hC dX6_endLinks_11 rfl (fun h11 => by omega) (fun h11 => ?_)
      refine r_aload_n hC dX6_endLinks_14 rfl ?_
      refine z_getR hM dX6_endLinks_15 fl_RX6_52 rfl rfl (vld_of (n := 1) rfl (by omega) (by omega)) ?_
      refine r_iload_n hC dX6_endLinks_18 rfl ?_
      refine z_iald hM dX6_endLinks_19 rfl (by omega) (by omega) (fun v12 h_v12 o_v12 t_v12 => ?_)
      have e_v12 : t3 = v12 := ((t_v12 (Or.inl trivial)).trans ((a_ρ1 _ _ _ (by omega)).trans qg3)).symm
      subst e_v12
      have q_v12 : -1 ≤ t3 ∧ t3 ≤ 3 := o_v12
      refine r_iload_n hC dX6_endLinks_20 rfl ?_
      refine r_icmp_ne (tgt := 31) hC dX6_endLinks_21 rfl (fun h13 => ?_) (fun h13 => ?_)
      · refine r_iincE hC (4) dX6_endLinks_31 rfl rfl (by omega) (by unfold inR; omega) ?_
        refine r_goto (tgt := 9) hC dX6_endLinks_34 rfl ?_
        refine r_iload_n hC dX6_endLinks_9 rfl ?_
        refine r_iconst hC dX6_endLinks_10 rfl ?_
        refine r_icmp_ge (tgt := 37) hC dX6_endLinks_11 rfl (fun h14 => ?_) (fun h14 => by omega)
        refine y_vret hK rfl dX6_endLinks_37 ?_
        have z0 := q_ρ1
        have z1 := ((a_ρ1 _ _ _ (by omega)).trans qg1)
        have z2 := ((a_ρ1 _ _ _ (by omega)).trans qg2)
        have z3 := ((a_ρ1 _ _ _ (by omega)).trans qg3)
        refine k _ ((Gx.rf).al a_ρ1 (by first | simp | omega)) (fun i h0 h3 => ?_)
        rcases (by omega : i = 0 ∨ i = 1 ∨ i = 2 ∨ i = 3) with rfl | rfl | rfl | rfl <;> split <;> omega
      · refine r_aload_n hC dX6_endLinks_24 rfl ?_
        refine z_getR hM dX6_endLinks_25 fl_RX6_52 rfl rfl (vld_of (n := 1) rfl (by omega) (by omega)) ?_
        refine r_iload_n hC dX6_endLinks_28 rfl ?_
        refine r_iconst hC dX6_endLinks_29 rfl ?_
        refine z_iastG hM dX6_endLinks_30 rfl (by omega) (by omega) ⟨Or.inr (by simp [DL]), Or.inr (by simp [DF])⟩ (by first | trivial | (simp only [Okv]; omega) | (simp [Okv]; try omega)) (fun ρ15 a_ρ15 q_ρ15 => ?_)
        refine r_iincE hC (4) dX6_endLinks_31 rfl rfl (by omega) (by unfold inR; omega) ?_
        refine r_goto (tgt := 9) hC dX6_endLinks_34 rfl ?_
        refine r_iload_n hC dX6_endLinks_9 rfl ?_
        refine r_iconst hC dX6_endLinks_10 rfl ?_
        refine r_icmp_ge (tgt := 37) hC dX6_endLinks_11 rfl (fun h16 => ?_) (fun h16 => by omega)
        refine y_vret hK rfl dX6_endLinks_37 ?_
        have z0 := ((a_ρ15 _ _ _ (by omega)).trans q_ρ1)
        have z1 := ((a_ρ15 _ _ _ (by omega)).trans ((a_ρ1 _ _ _ (by omega)).trans qg1))
        have z2 := ((a_ρ15 _ _ _ (by omega)).trans ((a_ρ1 _ _ _ (by omega)).trans qg2))
        have z3 := q_ρ15
        refine k _ (((Gx.rf).al a_ρ1 (by first | simp | omega)).al a_ρ15 (by first | simp | omega)) (fun i h0 h3 => ?_)
        rcases (by omega : i = 0 ∨ i = 1 ∨ i = 2 ∨ i = 3) with rfl | rfl | rfl | rfl <;> split <;> omega
    · refine r_aload_n hC dX6_endLinks_24 rfl ?_
      refine z_getR hM dX6_endLinks_25 fl_RX6_52 rfl rfl (vld_of (n := 1) rfl (by omega) (by omega)) ?_
      refine r_iload_n hC dX6_endLinks_28 rfl ?_
      refine r_iconst hC dX6_endLinks_29 rfl ?_
      refine z_iastG hM dX6_endLinks_30 rfl (by omega) (by omega) ⟨Or.inr (by simp [DL]), Or.inr (by simp [DF])⟩ (by first | trivial | (simp only [Okv]; omega) | (simp [Okv]; try omega)) (fun ρ17 a_ρ17 q_ρ17 => ?_)
      refine r_iincE hC (3) dX6_endLinks_31 rfl rfl (by omega) (by unfold inR; omega) ?_
      refine r_goto (tgt := 9) hC dX6_endLinks_34 rfl ?_
      refine r_iload_n hC dX6_endLinks_9 rfl ?_
      refine r_iconst hC dX6_endLinks_10 rfl ?_
      refine r_icmp_ge (tgt := 37) hC dX6_endLinks_11 rfl (fun h18 => by omega) (fun h18 => ?_)
      refine r_aload_n hC dX6_endLinks_14 rfl ?_
      refine z_getR hM dX6_endLinks_15 fl_RX6_52 rfl rfl (vld_of (n := 1) rfl (by omega) (by omega)) ?_
      refine r_iload_n hC dX6_endLinks_18 rfl ?_
      refine z_iald hM dX6_endLinks_19 rfl (by omega) (by omega) (fun v19 h_v19 o_v19 t_v19 => ?_)
      have e_v19 : t3 = v19 := ((t_v19 (Or.inl trivial)).trans ((a_ρ17 _ _ _ (by omega)).trans ((a_ρ1 _ _ _ (by omega)).trans qg3))).symm
      subst e_v19
      have q_v19 : -1 ≤ t3 ∧ t3 ≤ 3 := o_v19
      refine r_iload_n hC dX6_endLinks_20 rfl ?_
      refine r_icmp_ne (tgt := 31) hC dX6_endLinks_21 rfl (fun h20 => ?_) (fun h20 => ?_)
      · refine r_iincE hC (4) dX6_endLinks_31 rfl rfl (by omega) (by unfold inR; omega) ?_
        refine r_goto (tgt := 9) hC dX6_endLinks_34 rfl ?_
        refine r_iload_n hC dX6_endLinks_9 rfl ?_
        refine r_iconst hC dX6_endLinks_10 rfl ?_
        refine r_icmp_ge (tgt := 37) hC dX6_endLinks_11 rfl (fun h21 => ?_) (fun h21 => by omega)
        refine y_vret hK rfl dX6_endLinks_37 ?_
        have z0 := ((a_ρ17 _ _ _ (by omega)).trans q_ρ1)
        have z1 := ((a_ρ17 _ _ _ (by omega)).trans ((a_ρ1 _ _ _ (by omega)).trans qg1))
        have z2 := q_ρ17
        have z3 := ((a_ρ17 _ _ _ (by omega)).trans ((a_ρ1 _ _ _ (by omega)).trans qg3))
        refine k _ (((Gx.rf).al a_ρ1 (by first | simp | omega)).al a_ρ17 (by first | simp | omega)) (fun i h0 h3 => ?_)
        rcases (by omega : i = 0 ∨ i = 1 ∨ i = 2 ∨ i = 3) with rfl | rfl | rfl | rfl <;> split <;> omega
      · refine r_aload_n hC dX6_endLinks_24 rfl ?_
        refine z_getR hM dX6_endLinks_25 fl_RX6_52 rfl rfl (vld_of (n := 1) rfl (by omega) (by omega)) ?_
        refine r_iload_n hC dX6_endLinks_28 rfl ?_
        refine r_iconst hC dX6_endLinks_29 rfl ?_
        refine z_iastG hM dX6_endLinks_30 rfl (by omega) (by omega) ⟨Or.inr (by simp [DL]), Or.inr (by simp [DF])⟩ (by first | trivial | (simp only [Okv]; omega) | (simp [Okv]; try omega)) (fun ρ22 a_ρ22 q_ρ22 => ?_)
        refine r_iincE hC (4) dX6_endLinks_31 rfl rfl (by omega) (by unfold inR; omega) ?_
        refine r_goto (tgt := 9) hC dX6_endLinks_34 rfl ?_
        refine r_iload_n hC dX6_endLinks_9 rfl ?_
        refine r_iconst hC dX6_endLinks_10 rfl ?_
        refine r_icmp_ge (tgt := 37) hC dX6_endLinks_11 rfl (fun h23 => ?_) (fun h23 => by omega)
        refine y_vret hK rfl dX6_endLinks_37 ?_
        have z0 := ((a_ρ22 _ _ _ (by omega)).trans ((a_ρ17 _ _ _ (by omega)).trans q_ρ1))
        have z1 := ((a_ρ22 _ _ _ (by omega)).trans ((a_ρ17 _ _ _ (by omega)).trans ((a_ρ1 _ _ _ (by omega)).trans qg1)))
        have z2 := ((a_ρ22 _ _ _ (by omega)).trans q_ρ17)
        have z3 := q_ρ22
        refine k _ ((((Gx.rf).al a_ρ1 (by first | simp | omega)).al a_ρ17 (by first | simp | omega)).al a_ρ22 (by first | simp | omega)) (fun i h0 h3 => ?_)
        rcases (by omega : i = 0 ∨ i = 1 ∨ i = 2 ∨ i = 3) with rfl | rfl | rfl | rfl <;> split <;> omega
  · refine r_aload_n hC dX6_endLinks_24 rfl ?_
    refine z_getR hM dX6_endLinks_25 fl_RX6_52 rfl rfl (vld_of (n := 1) rfl (by omega) (by omega)) ?_
    refine r_iload_n hC dX6_endLinks_28 rfl ?_
    refine r_iconst hC dX6_endLinks_29 rfl ?_
    refine z_iastG hM dX6_endLinks_30 rfl (by omega) (by omega) ⟨Or.inr (by simp [DL]), Or.inr (by simp [DF])⟩ (by first | trivial | (simp only [Okv]; omega) | (simp [Okv]; try omega)) (fun ρ24 a_ρ24 q_ρ24 => ?_)
    refine r_iincE hC (2) dX6_endLinks_31 rfl rfl (by omega) (by unfold inR; omega) ?_
    refine r_goto (tgt := 9) hC dX6_endLinks_34 rfl ?_
    refine r_iload_n hC dX6_endLinks_9 rfl ?_
    refine r_iconst hC dX6_endLinks_10 rfl ?_
    refine r_icmp_ge (tgt := 37) hC dX6_endLinks_11 rfl (fun h25 => by omega) (fun h25 => ?_)
    refine r_aload_n hC dX6_endLinks_14 rfl ?_
    refine z_getR hM dX6_endLinks_15 fl_RX6_52 rfl rfl (vld_of (n := 1) rfl (by omega) (by omega)) ?_
    refine r_iload_n hC dX6_endLinks_18 rfl ?_
    refine z_iald hM dX6_endLinks_19 rfl (by omega) (by omega) (fun v26 h_v26 o_v26 t_v26 => ?_)
    have e_v26 : t2 = v26 := ((t_v26 (Or.inl trivial)).trans ((a_ρ24 _ _ _ (by omega)).trans ((a_ρ1 _ _ _ (by omega)).trans qg2))).symm
    subst e_v26
    have q_v26 : -1 ≤ t2 ∧ t2 ≤ 3 := o_v26
    refine r_iload_n hC dX6_endLinks_20 rfl ?_
    refine r_icmp_ne (tgt := 31) hC dX6_endLinks_21 rfl (fun h27 => ?_) (fun h27 => ?_)
    · refine r_iincE hC (3) dX6_endLinks_31 rfl rfl (by omega) (by unfold inR; omega) ?_
      refine r_goto (tgt := 9) hC dX6_endLinks_34 rfl ?_
      refine r_iload_n hC dX6_endLinks_9 rfl ?_
      refine r_iconst hC dX6_endLinks_10 rfl ?_
      refine r_icmp_ge (tgt := 37) hC dX6_endLinks_11 rfl (fun h28 => by omega) (fun h28 => ?_)
      refine r_aload_n hC dX6_endLinks_14 rfl ?_
      refine z_getR hM dX6_endLinks_15 fl_RX6_52 rfl rfl (vld_of (n := 1) rfl (by omega) (by omega)) ?_
      refine r_iload_n hC dX6_endLinks_18 rfl ?_
      refine z_iald hM dX6_endLinks_19 rfl (by omega) (by omega) (fun v29 h_v29 o_v29 t_v29 => ?_)
      have e_v29 : t3 = v29 := ((t_v29 (Or.inl trivial)).trans ((a_ρ24 _ _ _ (by omega)).trans ((a_ρ1 _ _ _ (by omega)).trans qg3))).symm
      subst e_v29
      have q_v29 : -1 ≤ t3 ∧ t3 ≤ 3 := o_v29
      refine r_iload_n hC dX6_endLinks_20 rfl ?_
      refine r_icmp_ne (tgt := 31) hC dX6_endLinks_21 rfl (fun h30 => ?_) (fun h30 => ?_)
      · refine r_iincE hC (4) dX6_endLinks_31 rfl rfl (by omega) (by unfold inR; omega) ?_
        refine r_goto (tgt := 9) hC dX6_endLinks_34 rfl ?_
        refine r_iload_n hC dX6_endLinks_9 rfl ?_
        refine r_iconst hC dX6_endLinks_10 rfl ?_
        refine r_icmp_ge (tgt := 37) hC dX6_endLinks_11 rfl (fun h31 => ?_) (fun h31 => by omega)
        refine y_vret hK rfl dX6_endLinks_37 ?_
        have z0 := ((a_ρ24 _ _ _ (by omega)).trans q_ρ1)
        have z1 := q_ρ24
        have z2 := ((a_ρ24 _ _ _ (by omega)).trans ((a_ρ1 _ _ _ (by omega)).trans qg2))
        have z3 := ((a_ρ24 _ _ _ (by omega)).trans ((a_ρ1 _ _ _ (by omega)).trans qg3))
        refine k _ (((Gx.rf).al a_ρ1 (by first | simp | omega)).al a_ρ24 (by first | simp | omega)) (fun i h0 h3 => ?_)
        rcases (by omega : i = 0 ∨ i = 1 ∨ i = 2 ∨ i = 3) with rfl | rfl | rfl | rfl <;> split <;> omega
      · refine r_aload_n hC dX6_endLinks_24 rfl ?_
        refine z_getR hM dX6_endLinks_25 fl_RX6_52 rfl rfl (vld_of (n := 1) rfl (by omega) (by omega)) ?_
        refine r_iload_n hC dX6_endLinks_28 rfl ?_
        refine r_iconst hC dX6_endLinks_29 rfl ?_
        refine z_iastG hM dX6_endLinks_30 rfl (by omega) (by omega) ⟨Or.inr (by simp [DL]), Or.inr (by simp [DF])⟩ (by first | trivial | (simp only [Okv]; omega) | (simp [Okv]; try omega)) (fun ρ32 a_ρ32 q_ρ32 => ?_)
        refine r_iincE hC (4) dX6_endLinks_31 rfl rfl (by omega) (by unfold inR; omega) ?_
        refine r_goto (tgt := 9) hC dX6_endLinks_34 rfl ?_
        refine r_iload_n hC dX6_endLinks_9 rfl ?_
        refine r_iconst hC dX6_endLinks_10 rfl ?_
        refine r_icmp_ge (tgt := 37) hC dX6_endLinks_11 rfl (fun h33 => ?_) (fun h33 => by omega)
        refine y_vret hK rfl dX6_endLinks_37 ?_
        have z0 := ((a_ρ32 _ _ _ (by omega)).trans ((a_ρ24 _ _ _ (by omega)).trans q_ρ1))
        have z1 := ((a_ρ32 _ _ _ (by omega)).trans q_ρ24)
        have z2 := ((a_ρ32 _ _ _ (by omega)).trans ((a_ρ24 _ _ _ (by omega)).trans ((a_ρ1 _ _ _ (by omega)).trans qg2)))
        have z3 := q_ρ32
        refine k _ ((((Gx.rf).al a_ρ1 (by first | simp | omega)).al a_ρ24 (by first | simp | omega)).al a_ρ32 (by first | simp | omega)) (fun i h0 h3 => ?_)
        rcases (by omega : i = 0 ∨ i = 1 ∨ i = 2 ∨ i = 3) with rfl | rfl | rfl | rfl <;> split <;> omega
    · refine r_aload_n hC dX6_endLinks_24 rfl ?_
      refine z_getR hM dX6_endLinks_25 fl_RX6_52 rfl rfl (vld_of (n := 1) rfl (by omega) (by omega)) ?_
      refine r_iload_n hC dX6_endLinks_28 rfl ?_
      refine r_iconst hC dX6_endLinks_29 rfl ?_
      refine z_iastG hM dX6_endLinks_30 rfl (by omega) (by omega) ⟨Or.inr (by simp [DL]), Or.inr (by simp [DF])⟩ (by first | trivial | (simp only [Okv]; omega) | (simp [Okv]; try omega)) (fun ρ34 a_ρ34 q_ρ34 => ?_)
      refine r_iincE hC (3) dX6_endLinks_31 rfl rfl (by omega) (by unfold inR; omega) ?_
      refine r_goto (tgt := 9) hC dX6_endLinks_34 rfl ?_
      refine r_iload_n hC dX6_endLinks_9 rfl ?_
      refine r_iconst hC dX6_endLinks_10 rfl ?_
      refine r_icmp_ge (tgt := 37) hC dX6_endLinks_11 rfl (fun h35 => by omega) (fun h35 => ?_)
      refine r_aload_n hC dX6_endLinks_14 rfl ?_
      refine z_getR hM dX6_endLinks_15 fl_RX6_52 rfl rfl (vld_of (n := 1) rfl (by omega) (by omega)) ?_
      refine r_iload_n hC dX6_endLinks_18 rfl ?_
      refine z_iald hM dX6_endLinks_19 rfl (by omega) (by omega) (fun v36 h_v36 o_v36 t_v36 => ?_)
      have e_v36 : t3 = v36 := ((t_v36 (Or.inl trivial)).trans ((a_ρ34 _ _ _ (by omega)).trans ((a_ρ24 _ _ _ (by omega)).trans ((a_ρ1 _ _ _ (by omega)).trans qg3)))).symm
      subst e_v36
      have q_v36 : -1 ≤ t3 ∧ t3 ≤ 3 := o_v36
      refine r_iload_n hC dX6_endLinks_20 rfl ?_
      refine r_icmp_ne (tgt := 31) hC dX6_endLinks_21 rfl (fun h37 => ?_) (fun h37 => ?_)
      · refine r_iincE hC (4) dX6_endLinks_31 rfl rfl (by omega) (by unfold inR; omega) ?_
        refine r_goto (tgt := 9) hC dX6_endLinks_34 rfl ?_
        refine r_iload_n hC dX6_endLinks_9 rfl ?_
        refine r_iconst hC dX6_endLinks_10 rfl ?_
        refine r_icmp_ge (tgt := 37) hC dX6_endLinks_11 rfl (fun h38 => ?_) (fun h38 => by omega)
        refine y_vret hK rfl dX6_endLinks_37 ?_
        have z0 := ((a_ρ34 _ _ _ (by omega)).trans ((a_ρ24 _ _ _ (by omega)).trans q_ρ1))
        have z1 := ((a_ρ34 _ _ _ (by omega)).trans q_ρ24)
        have z2 := q_ρ34
        have z3 := ((a_ρ34 _ _ _ (by omega)).trans ((a_ρ24 _ _ _ (by omega)).trans ((a_ρ1 _ _ _ (by omega)).trans qg3)))
        refine k _ ((((Gx.rf).al a_ρ1 (by first | simp | omega)).al a_ρ24 (by first | simp | omega)).al a_ρ34 (by first | simp | omega)) (fun i h0 h3 => ?_)
        rcases (by omega : i = 0 ∨ i = 1 ∨ i = 2 ∨ i = 3) with rfl | rfl | rfl | rfl <;> split <;> omega
      · refine r_aload_n hC dX6_endLinks_24 rfl ?_
        refine z_getR hM dX6_endLinks_25 fl_RX6_52 rfl rfl (vld_of (n := 1) rfl (by omega) (by omega)) ?_
        refine r_iload_n hC dX6_endLinks_28 rfl ?_
        refine r_iconst hC dX6_endLinks_29 rfl ?_
        refine z_iastG hM dX6_endLinks_30 rfl (by omega) (by omega) ⟨Or.inr (by simp [DL]), Or.inr (by simp [DF])⟩ (by first | trivial | (simp only [Okv]; omega) | (simp [Okv]; try omega)) (fun ρ39 a_ρ39 q_ρ39 => ?_)
        refine r_iincE hC (4) dX6_endLinks_31 rfl rfl (by omega) (by unfold inR; omega) ?_
        refine r_goto (tgt := 9) hC dX6_endLinks_34 rfl ?_
        refine r_iload_n hC dX6_endLinks_9 rfl ?_
        refine r_iconst hC dX6_endLinks_10 rfl ?_
        refine r_icmp_ge (tgt := 37) hC dX6_endLinks_11 rfl (fun h40 => ?_) (fun h40 => by omega)
        refine y_vret hK rfl dX6_endLinks_37 ?_
        have z0 := ((a_ρ39 _ _ _ (by omega)).trans ((a_ρ34 _ _ _ (by omega)).trans ((a_ρ24 _ _ _ (by omega)).trans q_ρ1)))
        have z1 := ((a_ρ39 _ _ _ (by omega)).trans ((a_ρ34 _ _ _ (by omega)).trans q_ρ24))
        have z2 := ((a_ρ39 _ _ _ (by omega)).trans q_ρ34)
        have z3 := q_ρ39
        refine k _ (((((Gx.rf).al a_ρ1 (by first | simp | omega)).al a_ρ24 (by first | simp | omega)).al a_ρ34 (by first | simp | omega)).al a_ρ39 (by first | simp | omega)) (fun i h0 h3 => ?_)
        rcases (by omega : i = 0 ∨ i = 1 ∨ i = 2 ∨ i = 3) with rfl | rfl | rfl | rfl <;> split <;> omega
theorem m_endLinks1 {e : Ev} {d : Nat} {P : Option Vl → Mm → Prop} {σ : Mm} {t0 t1 t2 t3 : Int} (qg0 : σ 45 0 0 = t0) (qg1 : σ 45 0 1 = t1) (qg2 : σ 45 0 2 = t2) (qg3 : σ 45 0 3 = t3)  (k : ∀ ρ : Mm, Gx (fun c x y => c = 45 ∧ x = 0) σ ρ → (∀ i : Int, 0 ≤ i → i ≤ 3 → ρ 45 0 i = if i = 1 ∨ σ 45 0 i = 1 then -1 else σ 45 0 i) → P none ρ) : WT e (d + 1) 198 [vR 30 0, vI 1] σ P := by
  refine WT_in fun K hK => ?_
  have hK : StpY e cX6_endLinks RX6 (none) (WT e (d + 0)) P K := hK
  have hM := hK.1
  have hC := hK.1.1
  show K 0 [some (vR 30 0), some (vI 1), none] [] σ
  refine r_aload_n hC dX6_endLinks_0 rfl ?_
  refine z_getR hM dX6_endLinks_1 fl_RX6_52 rfl rfl (vld_of (n := 1) rfl (by omega) (by omega)) ?_
  refine r_iload_n hC dX6_endLinks_4 rfl ?_
  refine r_iconst hC dX6_endLinks_5 rfl ?_
  refine z_iastG hM dX6_endLinks_6 rfl (by omega) (by omega) ⟨Or.inr (by simp [DL]), Or.inr (by simp [DF])⟩ (by first | trivial | (simp only [Okv]; omega) | (simp [Okv]; try omega)) (fun ρ1 a_ρ1 q_ρ1 => ?_)
  refine r_iconst hC dX6_endLinks_7 rfl ?_
  refine r_istore_n hC dX6_endLinks_8 rfl ?_
  refine r_iload_n hC dX6_endLinks_9 rfl ?_
  refine r_iconst hC dX6_endLinks_10 rfl ?_
  refine r_icmp_ge (tgt := 37) hC dX6_endLinks_11 rfl (fun h2 => by omega) (fun h2 => ?_)
  refine r_aload_n hC dX6_endLinks_14 rfl ?_
  refine z_getR hM dX6_endLinks_15 fl_RX6_52 rfl rfl (vld_of (n := 1) rfl (by omega) (by omega)) ?_
  refine r_iload_n hC dX6_endLinks_18 rfl ?_
  refine z_iald hM dX6_endLinks_19 rfl (by omega) (by omega) (fun v3 h_v3 o_v3 t_v3 => ?_)
  have e_v3 : t0 = v3 := ((t_v3 (Or.inl trivial)).trans ((a_ρ1 _ _ _ (by omega)).trans qg0)).symm
  subst e_v3
  have q_v3 : -1 ≤ t0 ∧ t0 ≤ 3 := o_v3
  refine r_iload_n hC dX6_endLinks_20 rfl ?_
  refine r_icmp_ne (tgt := 31) hC dX6_endLinks_21 rfl (fun h4 => ?_) (fun h4 => ?_)
  · refine r_iincE hC (1) dX6_endLinks_31 rfl rfl (by omega) (by unfold inR; omega) ?_
    refine r_goto (tgt := 9) hC dX6_endLinks_34 rfl ?_
    refine r_iload_n hC dX6_endLinks_9 rfl ?_
    refine r_iconst hC dX6_endLinks_10 rfl ?_
    refine r_icmp_ge (tgt := 37) hC dX6_endLinks_11 rfl (fun h5 => by omega) (fun h5 => ?_)
    refine r_aload_n hC dX6_endLinks_14 rfl ?_
    refine z_getR hM dX6_endLinks_15 fl_RX6_52 rfl rfl (vld_of (n := 1) rfl (by omega) (by omega)) ?_
    refine r_iload_n hC dX6_endLinks_18 rfl ?_
    refine z_iald hM dX6_endLinks_19 rfl (by omega) (by omega) (fun v6 h_v6 o_v6 t_v6 => ?_)
    have e_v6 : (-1) = v6 := ((t_v6 (Or.inl trivial)).trans q_ρ1).symm
    subst e_v6
    refine r_iload_n hC dX6_endLinks_20 rfl ?_
    refine r_icmp_ne (tgt := 31) hC dX6_endLinks_21 rfl (fun h7 => ?_) (fun h7 => by omega)
    refine r_iincE hC (2) dX6_endLinks_31 rfl rfl (by omega) (by unfold inR; omega) ?_
    refine r_goto (tgt := 9) hC dX6_endLinks_34 rfl ?_
    refine r_iload_n hC dX6_endLinks_9 rfl ?_
    refine r_iconst hC dX6_endLinks_10 rfl ?_
    refine r_icmp_ge (tgt := 37) hC dX6_endLinks_11 rfl (fun h8 => by omega) (fun h8 => ?_)
    refine r_aload_n hC dX6_endLinks_14 rfl ?_
    refine z_getR hM dX6_endLinks_15 fl_RX6_52 rfl rfl (vld_of (n := 1) rfl (by omega) (by omega)) ?_
    refine r_iload_n hC dX6_endLinks_18 rfl ?_
    refine z_iald hM dX6_endLinks_19 rfl (by omega) (by omega) (fun v9 h_v9 o_v9 t_v9 => ?_)
    have e_v9 : t2 = v9 := ((t_v9 (Or.inl trivial)).trans ((a_ρ1 _ _ _ (by omega)).trans qg2)).symm
    subst e_v9
    have q_v9 : -1 ≤ t2 ∧ t2 ≤ 3 := o_v9
    refine r_iload_n hC dX6_endLinks_20 rfl ?_
    refine r_icmp_ne (tgt := 31) hC dX6_endLinks_21 rfl (fun h10 => ?_) (fun h10 => ?_)
    · refine r_iincE hC (3) dX6_endLinks_31 rfl rfl (by omega) (by unfold inR; omega) ?_
      refine r_goto (tgt := 9) hC dX6_endLinks_34 rfl ?_
      refine r_iload_n hC dX6_endLinks_9 rfl ?_
      refine r_iconst hC dX6_endLinks_10 rfl ?_
      refine r_icmp_ge (tgt := 37) hC dX6_endLinks_11 rfl (fun h11 => by omega) (fun h11 => ?_)
      refine r_aload_n hC dX6_endLinks_14 rfl ?_
      refine z_getR hM dX6_endLinks_15 fl_RX6_52 rfl rfl (vld_of (n := 1) rfl (by omega) (by omega)) ?_
      refine r_iload_n hC dX6_endLinks_18 rfl ?_
      refine z_iald hM dX6_endLinks_19 rfl (by omega) (by omega) (fun v12 h_v12 o_v12 t_v12 => ?_)
      have e_v12 : t3 = v12 := ((t_v12 (Or.inl trivial)).trans ((a_ρ1 _ _ _ (by omega)).trans qg3)).symm
      subst e_v12
      have q_v12 : -1 ≤ t3 ∧ t3 ≤ 3 := o_v12
      refine r_iload_n hC dX6_endLinks_20 rfl ?_
      refine r_icmp_ne (tgt := 31) hC dX6_endLinks_21 rfl (fun h13 => ?_) (fun h13 => ?_)
      · refine r_iincE hC (4) dX6_endLinks_31 rfl rfl (by omega) (by unfold inR; omega) ?_
        refine r_goto (tgt := 9) hC dX6_endLinks_34 rfl ?_
        refine r_iload_n hC dX6_endLinks_9 rfl ?_
        refine r_iconst hC dX6_endLinks_10 rfl ?_
        refine r_icmp_ge (tgt := 37) hC dX6_endLinks_11 rfl (fun h14 => ?_) (fun h14 => by omega)
        refine y_vret hK rfl dX6_endLinks_37 ?_
        have z0 := ((a_ρ1 _ _ _ (by omega)).trans qg0)
        have z1 := q_ρ1
        have z2 := ((a_ρ1 _ _ _ (by omega)).trans qg2)
        have z3 := ((a_ρ1 _ _ _ (by omega)).trans qg3)
        refine k _ ((Gx.rf).al a_ρ1 (by first | simp | omega)) (fun i h0 h3 => ?_)
        rcases (by omega : i = 0 ∨ i = 1 ∨ i = 2 ∨ i = 3) with rfl | rfl | rfl | rfl <;> split <;> omega
      · refine r_aload_n hC dX6_endLinks_24 rfl ?_
        refine z_getR hM dX6_endLinks_25 fl_RX6_52 rfl rfl (vld_of (n := 1) rfl (by omega) (by omega)) ?_
        refine r_iload_n hC dX6_endLinks_28 rfl ?_
        refine r_iconst hC dX6_endLinks_29 rfl ?_
        refine z_iastG hM dX6_endLinks_30 rfl (by omega) (by omega) ⟨Or.inr (by simp [DL]), Or.inr (by simp [DF])⟩ (by first | trivial | (simp only [Okv]; omega) | (simp [Okv]; try omega)) (fun ρ15 a_ρ15 q_ρ15 => ?_)
        refine r_iincE hC (4) dX6_endLinks_31 rfl rfl (by omega) (by unfold inR; omega) ?_
        refine r_goto (tgt := 9) hC dX6_endLinks_34 rfl ?_
        refine r_iload_n hC dX6_endLinks_9 rfl ?_
        refine r_iconst hC dX6_endLinks_10 rfl ?_
        refine r_icmp_ge (tgt := 37) hC dX6_endLinks_11 rfl (fun h16 => ?_) (fun h16 => by omega)
        refine y_vret hK rfl dX6_endLinks_37 ?_
        have z0 := ((a_ρ15 _ _ _ (by omega)).trans ((a_ρ1 _ _ _ (by omega)).trans qg0))
        have z1 := ((a_ρ15 _ _ _ (by omega)).trans q_ρ1)
        have z2 := ((a_ρ15 _ _ _ (by omega)).trans ((a_ρ1 _ _ _ (by omega)).trans qg2))
        have z3 := q_ρ15
        refine k _ (((Gx.rf).al a_ρ1 (by first | simp | omega)).al a_ρ15 (by first | simp | omega)) (fun i h0 h3 => ?_)
        rcases (by omega : i = 0 ∨ i = 1 ∨ i = 2 ∨ i = 3) with rfl | rfl | rfl | rfl <;> split <;> omega
    · refine r_aload_n hC dX6_endLinks_24 rfl ?_
      refine z_getR hM dX6_endLinks_25 fl_RX6_52 rfl rfl (vld_of (n := 1) rfl (by omega) (by omega)) ?_
      refine r_iload_n hC dX6_endLinks_28 rfl ?_
      refine r_iconst hC dX6_endLinks_29 rfl ?_
      refine z_iastG hM dX6_endLinks_30 rfl (by omega) (by omega) ⟨Or.inr (by simp [DL]), Or.inr (by simp [DF])⟩ (by first | trivial | (simp only [Okv]; omega) | (simp [Okv]; try omega)) (fun ρ17 a_ρ17 q_ρ17 => ?_)
      refine r_iincE hC (3) dX6_endLinks_31 rfl rfl (by omega) (by unfold inR; omega) ?_
      refine r_goto (tgt := 9) hC dX6_endLinks_34 rfl ?_
      refine r_iload_n hC dX6_endLinks_9 rfl ?_
      refine r_iconst hC dX6_endLinks_10 rfl ?_
      refine r_icmp_ge (tgt := 37) hC dX6_endLinks_11 rfl (fun h18 => by omega) (fun h18 => ?_)
      refine r_aload_n hC dX6_endLinks_14 rfl ?_
      refine z_getR hM dX6_endLinks_15 fl_RX6_52 rfl rfl (vld_of (n := 1) rfl (by omega) (by omega)) ?_
      refine r_iload_n hC dX6_endLinks_18 rfl ?_
      refine z_iald hM dX6_endLinks_19 rfl (by omega) (by omega) (fun v19 h_v19 o_v19 t_v19 => ?_)
      have e_v19 : t3 = v19 := ((t_v19 (Or.inl trivial)).trans ((a_ρ17 _ _ _ (by omega)).trans ((a_ρ1 _ _ _ (by omega)).trans qg3))).symm
      subst e_v19
      have q_v19 : -1 ≤ t3 ∧ t3 ≤ 3 := o_v19
      refine r_iload_n hC dX6_endLinks_20 rfl ?_
      refine r_icmp_ne (tgt := 31) hC dX6_endLinks_21 rfl (fun h20 => ?_) (fun h20 => ?_)
      · refine r_iincE hC (4) dX6_endLinks_31 rfl rfl (by omega) (by unfold inR; omega) ?_
        refine r_goto (tgt := 9) hC dX6_endLinks_34 rfl ?_
        refine r_iload_n hC dX6_endLinks_9 rfl ?_
        refine r_iconst hC dX6_endLinks_10 rfl ?_
        refine r_icmp_ge (tgt := 37) hC dX6_endLinks_11 rfl (fun h21 => ?_) (fun h21 => by omega)
        refine y_vret hK rfl dX6_endLinks_37 ?_
        have z0 := ((a_ρ17 _ _ _ (by omega)).trans ((a_ρ1 _ _ _ (by omega)).trans qg0))
        have z1 := ((a_ρ17 _ _ _ (by omega)).trans q_ρ1)
        have z2 := q_ρ17
        have z3 := ((a_ρ17 _ _ _ (by omega)).trans ((a_ρ1 _ _ _ (by omega)).trans qg3))
        refine k _ (((Gx.rf).al a_ρ1 (by first | simp | omega)).al a_ρ17 (by first | simp | omega)) (fun i h0 h3 => ?_)
        rcases (by omega : i = 0 ∨ i = 1 ∨ i = 2 ∨ i = 3) with rfl | rfl | rfl | rfl <;> split <;> omega
      · refine r_aload_n hC dX6_endLinks_24 rfl ?_
        refine z_getR hM dX6_endLinks_25 fl_RX6_52 rfl rfl (vld_of (n := 1) rfl (by omega) (by omega)) ?_
        refine r_iload_n hC dX6_endLinks_28 rfl ?_
        refine r_iconst hC dX6_endLinks_29 rfl ?_
        refine z_iastG hM dX6_endLinks_30 rfl (by omega) (by omega) ⟨Or.inr (by simp [DL]), Or.inr (by simp [DF])⟩ (by first | trivial | (simp only [Okv]; omega) | (simp [Okv]; try omega)) (fun ρ22 a_ρ22 q_ρ22 => ?_)
        refine r_iincE hC (4) dX6_endLinks_31 rfl rfl (by omega) (by unfold inR; omega) ?_
        refine r_goto (tgt := 9) hC dX6_endLinks_34 rfl ?_
        refine r_iload_n hC dX6_endLinks_9 rfl ?_
        refine r_iconst hC dX6_endLinks_10 rfl ?_
        refine r_icmp_ge (tgt := 37) hC dX6_endLinks_11 rfl (fun h23 => ?_) (fun h23 => by omega)
        refine y_vret hK rfl dX6_endLinks_37 ?_
        have z0 := ((a_ρ22 _ _ _ (by omega)).trans ((a_ρ17 _ _ _ (by omega)).trans ((a_ρ1 _ _ _ (by omega)).trans qg0)))
        have z1 := ((a_ρ22 _ _ _ (by omega)).trans ((a_ρ17 _ _ _ (by omega)).trans q_ρ1))
        have z2 := ((a_ρ22 _ _ _ (by omega)).trans q_ρ17)
        have z3 := q_ρ22
        refine k _ ((((Gx.rf).al a_ρ1 (by first | simp | omega)).al a_ρ17 (by first | simp | omega)).al a_ρ22 (by first | simp | omega)) (fun i h0 h3 => ?_)
        rcases (by omega : i = 0 ∨ i = 1 ∨ i = 2 ∨ i = 3) with rfl | rfl | rfl | rfl <;> split <;> omega
  · refine r_aload_n hC dX6_endLinks_24 rfl ?_
    refine z_getR hM dX6_endLinks_25 fl_RX6_52 rfl rfl (vld_of (n := 1) rfl (by omega) (by omega)) ?_
    refine r_iload_n hC dX6_endLinks_28 rfl ?_
    refine r_iconst hC dX6_endLinks_29 rfl ?_
    refine z_iastG hM dX6_endLinks_30 rfl (by omega) (by omega) ⟨Or.inr (by simp [DL]), Or.inr (by simp [DF])⟩ (by first | trivial | (simp only [Okv]; omega) | (simp [Okv]; try omega)) (fun ρ24 a_ρ24 q_ρ24 => ?_)
    refine r_iincE hC (1) dX6_endLinks_31 rfl rfl (by omega) (by unfold inR; omega) ?_
    refine r_goto (tgt := 9) hC dX6_endLinks_34 rfl ?_
    refine r_iload_n hC dX6_endLinks_9 rfl ?_
    refine r_iconst hC dX6_endLinks_10 rfl ?_
    refine r_icmp_ge (tgt := 37) hC dX6_endLinks_11 rfl (fun h25 => by omega) (fun h25 => ?_)
    refine r_aload_n hC dX6_endLinks_14 rfl ?_
    refine z_getR hM dX6_endLinks_15 fl_RX6_52 rfl rfl (vld_of (n := 1) rfl (by omega) (by omega)) ?_
    refine r_iload_n hC dX6_endLinks_18 rfl ?_
    refine z_iald hM dX6_endLinks_19 rfl (by omega) (by omega) (fun v26 h_v26 o_v26 t_v26 => ?_)
    have e_v26 : (-1) = v26 := ((t_v26 (Or.inl trivial)).trans ((a_ρ24 _ _ _ (by omega)).trans q_ρ1)).symm
    subst e_v26
    refine r_iload_n hC dX6_endLinks_20 rfl ?_
    refine r_icmp_ne (tgt := 31) hC dX6_endLinks_21 rfl (fun h27 => ?_) (fun h27 => by omega)
    refine r_iincE hC (2) dX6_endLinks_31 rfl rfl (by omega) (by unfold inR; omega) ?_
    refine r_goto (tgt := 9) hC dX6_endLinks_34 rfl ?_
    refine r_iload_n hC dX6_endLinks_9 rfl ?_
    refine r_iconst hC dX6_endLinks_10 rfl ?_
    refine r_icmp_ge (tgt := 37) hC dX6_endLinks_11 rfl (fun h28 => by omega) (fun h28 => ?_)
    refine r_aload_n hC dX6_endLinks_14 rfl ?_
    refine z_getR hM dX6_endLinks_15 fl_RX6_52 rfl rfl (vld_of (n := 1) rfl (by omega) (by omega)) ?_
    refine r_iload_n hC dX6_endLinks_18 rfl ?_
    refine z_iald hM dX6_endLinks_19 rfl (by omega) (by omega) (fun v29 h_v29 o_v29 t_v29 => ?_)
    have e_v29 : t2 = v29 := ((t_v29 (Or.inl trivial)).trans ((a_ρ24 _ _ _ (by omega)).trans ((a_ρ1 _ _ _ (by omega)).trans qg2))).symm
    subst e_v29
    have q_v29 : -1 ≤ t2 ∧ t2 ≤ 3 := o_v29
    refine r_iload_n hC dX6_endLinks_20 rfl ?_
    refine r_icmp_ne (tgt := 31) hC dX6_endLinks_21 rfl (fun h30 => ?_) (fun h30 => ?_)
    · refine r_iincE hC (3) dX6_endLinks_31 rfl rfl (by omega) (by unfold inR; omega) ?_
      refine r_goto (tgt := 9) hC dX6_endLinks_34 rfl ?_
      refine r_iload_n hC dX6_endLinks_9 rfl ?_
      refine r_iconst hC dX6_endLinks_10 rfl ?_
      refine r_icmp_ge (tgt := 37) hC dX6_endLinks_11 rfl (fun h31 => by omega) (fun h31 => ?_)
      refine r_aload_n hC dX6_endLinks_14 rfl ?_
      refine z_getR hM dX6_endLinks_15 fl_RX6_52 rfl rfl (vld_of (n := 1) rfl (by omega) (by omega)) ?_
      refine r_iload_n hC dX6_endLinks_18 rfl ?_
      refine z_iald hM dX6_endLinks_19 rfl (by omega) (by omega) (fun v32 h_v32 o_v32 t_v32 => ?_)
      have e_v32 : t3 = v32 := ((t_v32 (Or.inl trivial)).trans ((a_ρ24 _ _ _ (by omega)).trans ((a_ρ1 _ _ _ (by omega)).trans qg3))).symm
      subst e_v32
      have q_v32 : -1 ≤ t3 ∧ t3 ≤ 3 := o_v32
      refine r_iload_n hC dX6_endLinks_20 rfl ?_
      refine r_icmp_ne (tgt := 31) hC dX6_endLinks_21 rfl (fun h33 => ?_) (fun h33 => ?_)
      · refine r_iincE hC (4) dX6_endLinks_31 rfl rfl (by omega) (by unfold inR; omega) ?_
        refine r_goto (tgt := 9) hC dX6_endLinks_34 rfl ?_
        refine r_iload_n hC dX6_endLinks_9 rfl ?_
        refine r_iconst hC dX6_endLinks_10 rfl ?_
        refine r_icmp_ge (tgt := 37) hC dX6_endLinks_11 rfl (fun h34 => ?_) (fun h34 => by omega)
        refine y_vret hK rfl dX6_endLinks_37 ?_
        have z0 := q_ρ24
        have z1 := ((a_ρ24 _ _ _ (by omega)).trans q_ρ1)
        have z2 := ((a_ρ24 _ _ _ (by omega)).trans ((a_ρ1 _ _ _ (by omega)).trans qg2))
        have z3 := ((a_ρ24 _ _ _ (by omega)).trans ((a_ρ1 _ _ _ (by omega)).trans qg3))
        refine k _ (((Gx.rf).al a_ρ1 (by first | simp | omega)).al a_ρ24 (by first | simp | omega)) (fun i h0 h3 => ?_)
        rcases (by omega : i = 0 ∨ i = 1 ∨ i = 2 ∨ i = 3) with rfl | rfl | rfl | rfl <;> split <;> omega
      · refine r_aload_n hC dX6_endLinks_24 rfl ?_
        refine z_getR hM dX6_endLinks_25 fl_RX6_52 rfl rfl (vld_of (n := 1) rfl (by omega) (by omega)) ?_
        refine r_iload_n hC dX6_endLinks_28 rfl ?_
        refine r_iconst hC dX6_endLinks_29 rfl ?_
        refine z_iastG hM dX6_endLinks_30 rfl (by omega) (by omega) ⟨Or.inr (by simp [DL]), Or.inr (by simp [DF])⟩ (by first | trivial | (simp only [Okv]; omega) | (simp [Okv]; try omega)) (fun ρ35 a_ρ35 q_ρ35 => ?_)
        refine r_iincE hC (4) dX6_endLinks_31 rfl rfl (by omega) (by unfold inR; omega) ?_
        refine r_goto (tgt := 9) hC dX6_endLinks_34 rfl ?_
        refine r_iload_n hC dX6_endLinks_9 rfl ?_
        refine r_iconst hC dX6_endLinks_10 rfl ?_
        refine r_icmp_ge (tgt := 37) hC dX6_endLinks_11 rfl (fun h36 => ?_) (fun h36 => by omega)
        refine y_vret hK rfl dX6_endLinks_37 ?_
        have z0 := ((a_ρ35 _ _ _ (by omega)).trans q_ρ24)
        have z1 := ((a_ρ35 _ _ _ (by omega)).trans ((a_ρ24 _ _ _ (by omega)).trans q_ρ1))
        have z2 := ((a_ρ35 _ _ _ (by omega)).trans ((a_ρ24 _ _ _ (by omega)).trans ((a_ρ1 _ _ _ (by omega)).trans qg2)))
        have z3 := q_ρ35
        refine k _ ((((Gx.rf).al a_ρ1 (by first | simp | omega)).al a_ρ24 (by first | simp | omega)).al a_ρ35 (by first | simp | omega)) (fun i h0 h3 => ?_)
        rcases (by omega : i = 0 ∨ i = 1 ∨ i = 2 ∨ i = 3) with rfl | rfl | rfl | rfl <;> split <;> omega
    · refine r_aload_n hC dX6_endLinks_24 rfl ?_
      refine z_getR hM dX6_endLinks_25 fl_RX6_52 rfl rfl (vld_of (n := 1) rfl (by omega) (by omega)) ?_
      refine r_iload_n hC dX6_endLinks_28 rfl ?_
      refine r_iconst hC dX6_endLinks_29 rfl ?_
      refine z_iastG hM dX6_endLinks_30 rfl (by omega) (by omega) ⟨Or.inr (by simp [DL]), Or.inr (by simp [DF])⟩ (by first | trivial | (simp only [Okv]; omega) | (simp [Okv]; try omega)) (fun ρ37 a_ρ37 q_ρ37 => ?_)
      refine r_iincE hC (3) dX6_endLinks_31 rfl rfl (by omega) (by unfold inR; omega) ?_
      refine r_goto (tgt := 9) hC dX6_endLinks_34 rfl ?_
      refine r_iload_n hC dX6_endLinks_9 rfl ?_
      refine r_iconst hC dX6_endLinks_10 rfl ?_
      refine r_icmp_ge (tgt := 37) hC dX6_endLinks_11 rfl (fun h38 => by omega) (fun h38 => ?_)
      refine r_aload_n hC dX6_endLinks_14 rfl ?_
      refine z_getR hM dX6_endLinks_15 fl_RX6_52 rfl rfl (vld_of (n := 1) rfl (by omega) (by omega)) ?_
      refine r_iload_n hC dX6_endLinks_18 rfl ?_
      refine z_iald hM dX6_endLinks_19 rfl (by omega) (by omega) (fun v39 h_v39 o_v39 t_v39 => ?_)
      have e_v39 : t3 = v39 := ((t_v39 (Or.inl trivial)).trans ((a_ρ37 _ _ _ (by omega)).trans ((a_ρ24 _ _ _ (by omega)).trans ((a_ρ1 _ _ _ (by omega)).trans qg3)))).symm
      subst e_v39
      have q_v39 : -1 ≤ t3 ∧ t3 ≤ 3 := o_v39
      refine r_iload_n hC dX6_endLinks_20 rfl ?_
      refine r_icmp_ne (tgt := 31) hC dX6_endLinks_21 rfl (fun h40 => ?_) (fun h40 => ?_)
      · refine r_iincE hC (4) dX6_endLinks_31 rfl rfl (by omega) (by unfold inR; omega) ?_
        refine r_goto (tgt := 9) hC dX6_endLinks_34 rfl ?_
        refine r_iload_n hC dX6_endLinks_9 rfl ?_
        refine r_iconst hC dX6_endLinks_10 rfl ?_
        refine r_icmp_ge (tgt := 37) hC dX6_endLinks_11 rfl (fun h41 => ?_) (fun h41 => by omega)
        refine y_vret hK rfl dX6_endLinks_37 ?_
        have z0 := ((a_ρ37 _ _ _ (by omega)).trans q_ρ24)
        have z1 := ((a_ρ37 _ _ _ (by omega)).trans ((a_ρ24 _ _ _ (by omega)).trans q_ρ1))
        have z2 := q_ρ37
        have z3 := ((a_ρ37 _ _ _ (by omega)).trans ((a_ρ24 _ _ _ (by omega)).trans ((a_ρ1 _ _ _ (by omega)).trans qg3)))
        refine k _ ((((Gx.rf).al a_ρ1 (by first | simp | omega)).al a_ρ24 (by first | simp | omega)).al a_ρ37 (by first | simp | omega)) (fun i h0 h3 => ?_)
        rcases (by omega : i = 0 ∨ i = 1 ∨ i = 2 ∨ i = 3) with rfl | rfl | rfl | rfl <;> split <;> omega
      · refine r_aload_n hC dX6_endLinks_24 rfl ?_
        refine z_getR hM dX6_endLinks_25 fl_RX6_52 rfl rfl (vld_of (n := 1) rfl (by omega) (by omega)) ?_
        refine r_iload_n hC dX6_endLinks_28 rfl ?_
        refine r_iconst hC dX6_endLinks_29 rfl ?_
        refine z_iastG hM dX6_endLinks_30 rfl (by omega) (by omega) ⟨Or.inr (by simp [DL]), Or.inr (by simp [DF])⟩ (by first | trivial | (simp only [Okv]; omega) | (simp [Okv]; try omega)) (fun ρ42 a_ρ42 q_ρ42 => ?_)
        refine r_iincE hC (4) dX6_endLinks_31 rfl rfl (by omega) (by unfold inR; omega) ?_
        refine r_goto (tgt := 9) hC dX6_endLinks_34 rfl ?_
        refine r_iload_n hC dX6_endLinks_9 rfl ?_
        refine r_iconst hC dX6_endLinks_10 rfl ?_
        refine r_icmp_ge (tgt := 37) hC dX6_endLinks_11 rfl (fun h43 => ?_) (fun h43 => by omega)
        refine y_vret hK rfl dX6_endLinks_37 ?_
        have z0 := ((a_ρ42 _ _ _ (by omega)).trans ((a_ρ37 _ _ _ (by omega)).trans q_ρ24))
        have z1 := ((a_ρ42 _ _ _ (by omega)).trans ((a_ρ37 _ _ _ (by omega)).trans ((a_ρ24 _ _ _ (by omega)).trans q_ρ1)))
        have z2 := ((a_ρ42 _ _ _ (by omega)).trans q_ρ37)
        have z3 := q_ρ42
        refine k _ (((((Gx.rf).al a_ρ1 (by first | simp | omega)).al a_ρ24 (by first | simp | omega)).al a_ρ37 (by first | simp | omega)).al a_ρ42 (by first | simp | omega)) (fun i h0 h3 => ?_)
        rcases (by omega : i = 0 ∨ i = 1 ∨ i = 2 ∨ i = 3) with rfl | rfl | rfl | rfl <;> split <;> omega
theorem m_endLinks2 {e : Ev} {d : Nat} {P : Option Vl → Mm → Prop} {σ : Mm} {t0 t1 t2 t3 : Int} (qg0 : σ 45 0 0 = t0) (qg1 : σ 45 0 1 = t1) (qg2 : σ 45 0 2 = t2) (qg3 : σ 45 0 3 = t3)  (k : ∀ ρ : Mm, Gx (fun c x y => c = 45 ∧ x = 0) σ ρ → (∀ i : Int, 0 ≤ i → i ≤ 3 → ρ 45 0 i = if i = 2 ∨ σ 45 0 i = 2 then -1 else σ 45 0 i) → P none ρ) : WT e (d + 1) 198 [vR 30 0, vI 2] σ P := by
  refine WT_in fun K hK => ?_
  have hK : StpY e cX6_endLinks RX6 (none) (WT e (d + 0)) P K := hK
  have hM := hK.1
  have hC := hK.1.1
  show K 0 [some (vR 30 0), some (vI 2), none] [] σ
  refine r_aload_n hC dX6_endLinks_0 rfl ?_
  refine z_getR hM dX6_endLinks_1 fl_RX6_52 rfl rfl (vld_of (n := 1) rfl (by omega) (by omega)) ?_
  refine r_iload_n hC dX6_endLinks_4 rfl ?_
  refine r_iconst hC dX6_endLinks_5 rfl ?_
  refine z_iastG hM dX6_endLinks_6 rfl (by omega) (by omega) ⟨Or.inr (by simp [DL]), Or.inr (by simp [DF])⟩ (by first | trivial | (simp only [Okv]; omega) | (simp [Okv]; try omega)) (fun ρ1 a_ρ1 q_ρ1 => ?_)
  refine r_iconst hC dX6_endLinks_7 rfl ?_
  refine r_istore_n hC dX6_endLinks_8 rfl ?_
  refine r_iload_n hC dX6_endLinks_9 rfl ?_
  refine r_iconst hC dX6_endLinks_10 rfl ?_
  refine r_icmp_ge (tgt := 37) hC dX6_endLinks_11 rfl (fun h2 => by omega) (fun h2 => ?_)
  refine r_aload_n hC dX6_endLinks_14 rfl ?_
  refine z_getR hM dX6_endLinks_15 fl_RX6_52 rfl rfl (vld_of (n := 1) rfl (by omega) (by omega)) ?_
  refine r_iload_n hC dX6_endLinks_18 rfl ?_
  refine z_iald hM dX6_endLinks_19 rfl (by omega) (by omega) (fun v3 h_v3 o_v3 t_v3 => ?_)
  have e_v3 : t0 = v3 := ((t_v3 (Or.inl trivial)).trans ((a_ρ1 _ _ _ (by omega)).trans qg0)).symm
  subst e_v3
  have q_v3 : -1 ≤ t0 ∧ t0 ≤ 3 := o_v3
  refine r_iload_n hC dX6_endLinks_20 rfl ?_
  refine r_icmp_ne (tgt := 31) hC dX6_endLinks_21 rfl (fun h4 => ?_) (fun h4 => ?_)
  · refine r_iincE hC (1) dX6_endLinks_31 rfl rfl (by omega) (by unfold inR; omega) ?_
    refine r_goto (tgt := 9) hC dX6_endLinks_34 rfl ?_
    refine r_iload_n hC dX6_endLinks_9 rfl ?_
    refine r_iconst hC dX6_endLinks_10 rfl ?_
    refine r_icmp_ge (tgt := 37) hC dX6_endLinks_11 rfl (fun h5 => by omega) (fun h5 => ?_)
    refine r_aload_n hC dX6_endLinks_14 rfl ?_
    refine z_getR hM dX6_endLinks_15 fl_RX6_52 rfl rfl (vld_of (n := 1) rfl (by omega) (by omega)) ?_
    refine r_iload_n hC dX6_endLinks_18 rfl ?_
    refine z_iald hM dX6_endLinks_19 rfl (by omega) (by omega) (fun v6 h_v6 o_v6 t_v6 => ?_)
    have e_v6 : t1 = v6 := ((t_v6 (Or.inl trivial)).trans ((a_ρ1 _ _ _ (by omega)).trans qg1)).symm
    subst e_v6
    have q_v6 : -1 ≤ t1 ∧ t1 ≤ 3 := o_v6
    refine r_iload_n hC dX6_endLinks_20 rfl ?_
    refine r_icmp_ne (tgt := 31) hC dX6_endLinks_21 rfl (fun h7 => ?_) (fun h7 => ?_)
    · refine r_iincE hC (2) dX6_endLinks_31 rfl rfl (by omega) (by unfold inR; omega) ?_
      refine r_goto (tgt := 9) hC dX6_endLinks_34 rfl ?_
      refine r_iload_n hC dX6_endLinks_9 rfl ?_
      refine r_iconst hC dX6_endLinks_10 rfl ?_
      refine r_icmp_ge (tgt := 37) hC dX6_endLinks_11 rfl (fun h8 => by omega) (fun h8 => ?_)
      refine r_aload_n hC dX6_endLinks_14 rfl ?_
      refine z_getR hM dX6_endLinks_15 fl_RX6_52 rfl rfl (vld_of (n := 1) rfl (by omega) (by omega)) ?_
      refine r_iload_n hC dX6_endLinks_18 rfl ?_
      refine z_iald hM dX6_endLinks_19 rfl (by omega) (by omega) (fun v9 h_v9 o_v9 t_v9 => ?_)
      have e_v9 : (-1) = v9 := ((t_v9 (Or.inl trivial)).trans q_ρ1).symm
      subst e_v9
      refine r_iload_n hC dX6_endLinks_20 rfl ?_
      refine r_icmp_ne (tgt := 31) hC dX6_endLinks_21 rfl (fun h10 => ?_) (fun h10 => by omega)
      refine r_iincE hC (3) dX6_endLinks_31 rfl rfl (by omega) (by unfold inR; omega) ?_
      refine r_goto (tgt := 9) hC dX6_endLinks_34 rfl ?_
      refine r_iload_n hC dX6_endLinks_9 rfl ?_
      refine r_iconst hC dX6_endLinks_10 rfl ?_
      refine r_icmp_ge (tgt := 37) hC dX6_endLinks_11 rfl (fun h11 => by omega) (fun h11 => ?_)
      refine r_aload_n hC dX6_endLinks_14 rfl ?_
      refine z_getR hM dX6_endLinks_15 fl_RX6_52 rfl rfl (vld_of (n := 1) rfl (by omega) (by omega)) ?_
      refine r_iload_n hC dX6_endLinks_18 rfl ?_
      refine z_iald hM dX6_endLinks_19 rfl (by omega) (by omega) (fun v12 h_v12 o_v12 t_v12 => ?_)
      have e_v12 : t3 = v12 := ((t_v12 (Or.inl trivial)).trans ((a_ρ1 _ _ _ (by omega)).trans qg3)).symm
      subst e_v12
      have q_v12 : -1 ≤ t3 ∧ t3 ≤ 3 := o_v12
      refine r_iload_n hC dX6_endLinks_20 rfl ?_
      refine r_icmp_ne (tgt := 31) hC dX6_endLinks_21 rfl (fun h13 => ?_) (fun h13 => ?_)
      · refine r_iincE hC (4) dX6_endLinks_31 rfl rfl (by omega) (by unfold inR; omega) ?_
        refine r_goto (tgt := 9) hC dX6_endLinks_34 rfl ?_
        refine r_iload_n hC dX6_endLinks_9 rfl ?_
        refine r_iconst hC dX6_endLinks_10 rfl ?_
        refine r_icmp_ge (tgt := 37) hC dX6_endLinks_11 rfl (fun h14 => ?_) (fun h14 => by omega)
        refine y_vret hK rfl dX6_endLinks_37 ?_
        have z0 := ((a_ρ1 _ _ _ (by omega)).trans qg0)
        have z1 := ((a_ρ1 _ _ _ (by omega)).trans qg1)
        have z2 := q_ρ1
        have z3 := ((a_ρ1 _ _ _ (by omega)).trans qg3)
        refine k _ ((Gx.rf).al a_ρ1 (by first | simp | omega)) (fun i h0 h3 => ?_)
        rcases (by omega : i = 0 ∨ i = 1 ∨ i = 2 ∨ i = 3) with rfl | rfl | rfl | rfl <;> split <;> omega
      · refine r_aload_n hC dX6_endLinks_24 rfl ?_
        refine z_getR hM dX6_endLinks_25 fl_RX6_52 rfl rfl (vld_of (n := 1) rfl (by omega) (by omega)) ?_
        refine r_iload_n hC dX6_endLinks_28 rfl ?_
        refine r_iconst hC dX6_endLinks_29 rfl ?_
        refine z_iastG hM dX6_endLinks_30 rfl (by omega) (by omega) ⟨Or.inr (by simp [DL]), Or.inr (by simp [DF])⟩ (by first | trivial | (simp only [Okv]; omega) | (simp [Okv]; try omega)) (fun ρ15 a_ρ15 q_ρ15 => ?_)
        refine r_iincE hC (4) dX6_endLinks_31 rfl rfl (by omega) (by unfold inR; omega) ?_
        refine r_goto (tgt := 9) hC dX6_endLinks_34 rfl ?_
        refine r_iload_n hC dX6_endLinks_9 rfl ?_
        refine r_iconst hC dX6_endLinks_10 rfl ?_
        refine r_icmp_ge (tgt := 37) hC dX6_endLinks_11 rfl (fun h16 => ?_) (fun h16 => by omega)
        refine y_vret hK rfl dX6_endLinks_37 ?_
        have z0 := ((a_ρ15 _ _ _ (by omega)).trans ((a_ρ1 _ _ _ (by omega)).trans qg0))
        have z1 := ((a_ρ15 _ _ _ (by omega)).trans ((a_ρ1 _ _ _ (by omega)).trans qg1))
        have z2 := ((a_ρ15 _ _ _ (by omega)).trans q_ρ1)
        have z3 := q_ρ15
        refine k _ (((Gx.rf).al a_ρ1 (by first | simp | omega)).al a_ρ15 (by first | simp | omega)) (fun i h0 h3 => ?_)
        rcases (by omega : i = 0 ∨ i = 1 ∨ i = 2 ∨ i = 3) with rfl | rfl | rfl | rfl <;> split <;> omega
    · refine r_aload_n hC dX6_endLinks_24 rfl ?_
      refine z_getR hM dX6_endLinks_25 fl_RX6_52 rfl rfl (vld_of (n := 1) rfl (by omega) (by omega)) ?_
      refine r_iload_n hC dX6_endLinks_28 rfl ?_
      refine r_iconst hC dX6_endLinks_29 rfl ?_
      refine z_iastG hM dX6_endLinks_30 rfl (by omega) (by omega) ⟨Or.inr (by simp [DL]), Or.inr (by simp [DF])⟩ (by first | trivial | (simp only [Okv]; omega) | (simp [Okv]; try omega)) (fun ρ17 a_ρ17 q_ρ17 => ?_)
      refine r_iincE hC (2) dX6_endLinks_31 rfl rfl (by omega) (by unfold inR; omega) ?_
      refine r_goto (tgt := 9) hC dX6_endLinks_34 rfl ?_
      refine r_iload_n hC dX6_endLinks_9 rfl ?_
      refine r_iconst hC dX6_endLinks_10 rfl ?_
      refine r_icmp_ge (tgt := 37) hC dX6_endLinks_11 rfl (fun h18 => by omega) (fun h18 => ?_)
      refine r_aload_n hC dX6_endLinks_14 rfl ?_
      refine z_getR hM dX6_endLinks_15 fl_RX6_52 rfl rfl (vld_of (n := 1) rfl (by omega) (by omega)) ?_
      refine r_iload_n hC dX6_endLinks_18 rfl ?_
      refine z_iald hM dX6_endLinks_19 rfl (by omega) (by omega) (fun v19 h_v19 o_v19 t_v19 => ?_)
      have e_v19 : (-1) = v19 := ((t_v19 (Or.inl trivial)).trans ((a_ρ17 _ _ _ (by omega)).trans q_ρ1)).symm
      subst e_v19
      refine r_iload_n hC dX6_endLinks_20 rfl ?_
      refine r_icmp_ne (tgt := 31) hC dX6_endLinks_21 rfl (fun h20 => ?_) (fun h20 => by omega)
      refine r_iincE hC (3) dX6_endLinks_31 rfl rfl (by omega) (by unfold inR; omega) ?_
      refine r_goto (tgt := 9) hC dX6_endLinks_34 rfl ?_
      refine r_iload_n hC dX6_endLinks_9 rfl ?_
      refine r_iconst hC dX6_endLinks_10 rfl ?_
      refine r_icmp_ge (tgt := 37) hC dX6_endLinks_11 rfl (fun h21 => by omega) (fun h21 => ?_)
      refine r_aload_n hC dX6_endLinks_14 rfl ?_
      refine z_getR hM dX6_endLinks_15 fl_RX6_52 rfl rfl (vld_of (n := 1) rfl (by omega) (by omega)) ?_
      refine r_iload_n hC dX6_endLinks_18 rfl ?_
      refine z_iald hM dX6_endLinks_19 rfl (by omega) (by omega) (fun v22 h_v22 o_v22 t_v22 => ?_)
      have e_v22 : t3 = v22 := ((t_v22 (Or.inl trivial)).trans ((a_ρ17 _ _ _ (by omega)).trans ((a_ρ1 _ _ _ (by omega)).trans qg3))).symm
      subst e_v22
      have q_v22 : -1 ≤ t3 ∧ t3 ≤ 3 := o_v22
      refine r_iload_n hC dX6_endLinks_20 rfl ?_
      refine r_icmp_ne (tgt := 31) hC dX6_endLinks_21 rfl (fun h23 => ?_) (fun h23 => ?_)
      · refine r_iincE hC (4) dX6_endLinks_31 rfl rfl (by omega) (by unfold inR; omega) ?_
        refine r_goto (tgt := 9) hC dX6_endLinks_34 rfl ?_
        refine r_iload_n hC dX6_endLinks_9 rfl ?_
        refine r_iconst hC dX6_endLinks_10 rfl ?_
        refine r_icmp_ge (tgt := 37) hC dX6_endLinks_11 rfl (fun h24 => ?_) (fun h24 => by omega)
        refine y_vret hK rfl dX6_endLinks_37 ?_
        have z0 := ((a_ρ17 _ _ _ (by omega)).trans ((a_ρ1 _ _ _ (by omega)).trans qg0))
        have z1 := q_ρ17
        have z2 := ((a_ρ17 _ _ _ (by omega)).trans q_ρ1)
        have z3 := ((a_ρ17 _ _ _ (by omega)).trans ((a_ρ1 _ _ _ (by omega)).trans qg3))
        refine k _ (((Gx.rf).al a_ρ1 (by first | simp | omega)).al a_ρ17 (by first | simp | omega)) (fun i h0 h3 => ?_)
        rcases (by omega : i = 0 ∨ i = 1 ∨ i = 2 ∨ i = 3) with rfl | rfl | rfl | rfl <;> split <;> omega
      · refine r_aload_n hC dX6_endLinks_24 rfl ?_
        refine z_getR hM dX6_endLinks_25 fl_RX6_52 rfl rfl (vld_of (n := 1) rfl (by omega) (by omega)) ?_
        refine r_iload_n hC dX6_endLinks_28 rfl ?_
        refine r_iconst hC dX6_endLinks_29 rfl ?_
        refine z_iastG hM dX6_endLinks_30 rfl (by omega) (by omega) ⟨Or.inr (by simp [DL]), Or.inr (by simp [DF])⟩ (by first | trivial | (simp only [Okv]; omega) | (simp [Okv]; try omega)) (fun ρ25 a_ρ25 q_ρ25 => ?_)
        refine r_iincE hC (4) dX6_endLinks_31 rfl rfl (by omega) (by unfold inR; omega) ?_
        refine r_goto (tgt := 9) hC dX6_endLinks_34 rfl ?_
        refine r_iload_n hC dX6_endLinks_9 rfl ?_
        refine r_iconst hC dX6_endLinks_10 rfl ?_
        refine r_icmp_ge (tgt := 37) hC dX6_endLinks_11 rfl (fun h26 => ?_) (fun h26 => by omega)
        refine y_vret hK rfl dX6_endLinks_37 ?_
        have z0 := ((a_ρ25 _ _ _ (by omega)).trans ((a_ρ17 _ _ _ (by omega)).trans ((a_ρ1 _ _ _ (by omega)).trans qg0)))
        have z1 := ((a_ρ25 _ _ _ (by omega)).trans q_ρ17)
        have z2 := ((a_ρ25 _ _ _ (by omega)).trans ((a_ρ17 _ _ _ (by omega)).trans q_ρ1))
        have z3 := q_ρ25
        refine k _ ((((Gx.rf).al a_ρ1 (by first | simp | omega)).al a_ρ17 (by first | simp | omega)).al a_ρ25 (by first | simp | omega)) (fun i h0 h3 => ?_)
        rcases (by omega : i = 0 ∨ i = 1 ∨ i = 2 ∨ i = 3) with rfl | rfl | rfl | rfl <;> split <;> omega
  · refine r_aload_n hC dX6_endLinks_24 rfl ?_
    refine z_getR hM dX6_endLinks_25 fl_RX6_52 rfl rfl (vld_of (n := 1) rfl (by omega) (by omega)) ?_
    refine r_iload_n hC dX6_endLinks_28 rfl ?_
    refine r_iconst hC dX6_endLinks_29 rfl ?_
    refine z_iastG hM dX6_endLinks_30 rfl (by omega) (by omega) ⟨Or.inr (by simp [DL]), Or.inr (by simp [DF])⟩ (by first | trivial | (simp only [Okv]; omega) | (simp [Okv]; try omega)) (fun ρ27 a_ρ27 q_ρ27 => ?_)
    refine r_iincE hC (1) dX6_endLinks_31 rfl rfl (by omega) (by unfold inR; omega) ?_
    refine r_goto (tgt := 9) hC dX6_endLinks_34 rfl ?_
    refine r_iload_n hC dX6_endLinks_9 rfl ?_
    refine r_iconst hC dX6_endLinks_10 rfl ?_
    refine r_icmp_ge (tgt := 37) hC dX6_endLinks_11 rfl (fun h28 => by omega) (fun h28 => ?_)
    refine r_aload_n hC dX6_endLinks_14 rfl ?_
    refine z_getR hM dX6_endLinks_15 fl_RX6_52 rfl rfl (vld_of (n := 1) rfl (by omega) (by omega)) ?_
    refine r_iload_n hC dX6_endLinks_18 rfl ?_
    refine z_iald hM dX6_endLinks_19 rfl (by omega) (by omega) (fun v29 h_v29 o_v29 t_v29 => ?_)
    have e_v29 : t1 = v29 := ((t_v29 (Or.inl trivial)).trans ((a_ρ27 _ _ _ (by omega)).trans ((a_ρ1 _ _ _ (by omega)).trans qg1))).symm
    subst e_v29
    have q_v29 : -1 ≤ t1 ∧ t1 ≤ 3 := o_v29
    refine r_iload_n hC dX6_endLinks_20 rfl ?_
    refine r_icmp_ne (tgt := 31) hC dX6_endLinks_21 rfl (fun h30 => ?_) (fun h30 => ?_)
    · refine r_iincE hC (2) dX6_endLinks_31 rfl rfl (by omega) (by unfold inR; omega) ?_
      refine r_goto (tgt := 9) hC dX6_endLinks_34 rfl ?_
      refine r_iload_n hC dX6_endLinks_9 rfl ?_
      refine r_iconst hC dX6_endLinks_10 rfl ?_
      refine r_icmp_ge (tgt := 37) hC dX6_endLinks_11 rfl (fun h31 => by omega) (fun h31 => ?_)
      refine r_aload_n hC dX6_endLinks_14 rfl ?_
      refine z_getR hM dX6_endLinks_15 fl_RX6_52 rfl rfl (vld_of (n := 1) rfl (by omega) (by omega)) ?_
      refine r_iload_n hC dX6_endLinks_18 rfl ?_
      refine z_iald hM dX6_endLinks_19 rfl (by omega) (by omega) (fun v32 h_v32 o_v32 t_v32 => ?_)
      have e_v32 : (-1) = v32 := ((t_v32 (Or.inl trivial)).trans ((a_ρ27 _ _ _ (by omega)).trans q_ρ1)).symm
      subst e_v32
      refine r_iload_n hC dX6_endLinks_20 rfl ?_
      refine r_icmp_ne (tgt := 31) hC dX6_endLinks_21 rfl (fun h33 => ?_) (fun h33 => by omega)
      refine r_iincE hC (3) dX6_endLinks_31 rfl rfl (by omega) (by unfold inR; omega) ?_
      refine r_goto (tgt := 9) hC dX6_endLinks_34 rfl ?_
      refine r_iload_n hC dX6_endLinks_9 rfl ?_
      refine r_iconst hC dX6_endLinks_10 rfl ?_
      refine r_icmp_ge (tgt := 37) hC dX6_endLinks_11 rfl (fun h34 => by omega) (fun h34 => ?_)
      refine r_aload_n hC dX6_endLinks_14 rfl ?_
      refine z_getR hM dX6_endLinks_15 fl_RX6_52 rfl rfl (vld_of (n := 1) rfl (by omega) (by omega)) ?_
      refine r_iload_n hC dX6_endLinks_18 rfl ?_
      refine z_iald hM dX6_endLinks_19 rfl (by omega) (by omega) (fun v35 h_v35 o_v35 t_v35 => ?_)
      have e_v35 : t3 = v35 := ((t_v35 (Or.inl trivial)).trans ((a_ρ27 _ _ _ (by omega)).trans ((a_ρ1 _ _ _ (by omega)).trans qg3))).symm
      subst e_v35
      have q_v35 : -1 ≤ t3 ∧ t3 ≤ 3 := o_v35
      refine r_iload_n hC dX6_endLinks_20 rfl ?_
      refine r_icmp_ne (tgt := 31) hC dX6_endLinks_21 rfl (fun h36 => ?_) (fun h36 => ?_)
      · refine r_iincE hC (4) dX6_endLinks_31 rfl rfl (by omega) (by unfold inR; omega) ?_
        refine r_goto (tgt := 9) hC dX6_endLinks_34 rfl ?_
        refine r_iload_n hC dX6_endLinks_9 rfl ?_
        refine r_iconst hC dX6_endLinks_10 rfl ?_
        refine r_icmp_ge (tgt := 37) hC dX6_endLinks_11 rfl (fun h37 => ?_) (fun h37 => by omega)
        refine y_vret hK rfl dX6_endLinks_37 ?_
        have z0 := q_ρ27
        have z1 := ((a_ρ27 _ _ _ (by omega)).trans ((a_ρ1 _ _ _ (by omega)).trans qg1))
        have z2 := ((a_ρ27 _ _ _ (by omega)).trans q_ρ1)
        have z3 := ((a_ρ27 _ _ _ (by omega)).trans ((a_ρ1 _ _ _ (by omega)).trans qg3))
        refine k _ (((Gx.rf).al a_ρ1 (by first | simp | omega)).al a_ρ27 (by first | simp | omega)) (fun i h0 h3 => ?_)
        rcases (by omega : i = 0 ∨ i = 1 ∨ i = 2 ∨ i = 3) with rfl | rfl | rfl | rfl <;> split <;> omega
      · refine r_aload_n hC dX6_endLinks_24 rfl ?_
        refine z_getR hM dX6_endLinks_25 fl_RX6_52 rfl rfl (vld_of (n := 1) rfl (by omega) (by omega)) ?_
        refine r_iload_n hC dX6_endLinks_28 rfl ?_
        refine r_iconst hC dX6_endLinks_29 rfl ?_
        refine z_iastG hM dX6_endLinks_30 rfl (by omega) (by omega) ⟨Or.inr (by simp [DL]), Or.inr (by simp [DF])⟩ (by first | trivial | (simp only [Okv]; omega) | (simp [Okv]; try omega)) (fun ρ38 a_ρ38 q_ρ38 => ?_)
        refine r_iincE hC (4) dX6_endLinks_31 rfl rfl (by omega) (by unfold inR; omega) ?_
        refine r_goto (tgt := 9) hC dX6_endLinks_34 rfl ?_
        refine r_iload_n hC dX6_endLinks_9 rfl ?_
        refine r_iconst hC dX6_endLinks_10 rfl ?_
        refine r_icmp_ge (tgt := 37) hC dX6_endLinks_11 rfl (fun h39 => ?_) (fun h39 => by omega)
        refine y_vret hK rfl dX6_endLinks_37 ?_
        have z0 := ((a_ρ38 _ _ _ (by omega)).trans q_ρ27)
        have z1 := ((a_ρ38 _ _ _ (by omega)).trans ((a_ρ27 _ _ _ (by omega)).trans ((a_ρ1 _ _ _ (by omega)).trans qg1)))
        have z2 := ((a_ρ38 _ _ _ (by omega)).trans ((a_ρ27 _ _ _ (by omega)).trans q_ρ1))
        have z3 := q_ρ38
        refine k _ ((((Gx.rf).al a_ρ1 (by first | simp | omega)).al a_ρ27 (by first | simp | omega)).al a_ρ38 (by first | simp | omega)) (fun i h0 h3 => ?_)
        rcases (by omega : i = 0 ∨ i = 1 ∨ i = 2 ∨ i = 3) with rfl | rfl | rfl | rfl <;> split <;> omega
    · refine r_aload_n hC dX6_endLinks_24 rfl ?_
      refine z_getR hM dX6_endLinks_25 fl_RX6_52 rfl rfl (vld_of (n := 1) rfl (by omega) (by omega)) ?_
      refine r_iload_n hC dX6_endLinks_28 rfl ?_
      refine r_iconst hC dX6_endLinks_29 rfl ?_
      refine z_iastG hM dX6_endLinks_30 rfl (by omega) (by omega) ⟨Or.inr (by simp [DL]), Or.inr (by simp [DF])⟩ (by first | trivial | (simp only [Okv]; omega) | (simp [Okv]; try omega)) (fun ρ40 a_ρ40 q_ρ40 => ?_)
      refine r_iincE hC (2) dX6_endLinks_31 rfl rfl (by omega) (by unfold inR; omega) ?_
      refine r_goto (tgt := 9) hC dX6_endLinks_34 rfl ?_
      refine r_iload_n hC dX6_endLinks_9 rfl ?_
      refine r_iconst hC dX6_endLinks_10 rfl ?_
      refine r_icmp_ge (tgt := 37) hC dX6_endLinks_11 rfl (fun h41 => by omega) (fun h41 => ?_)
      refine r_aload_n hC dX6_endLinks_14 rfl ?_
      refine z_getR hM dX6_endLinks_15 fl_RX6_52 rfl rfl (vld_of (n := 1) rfl (by omega) (by omega)) ?_
      refine r_iload_n hC dX6_endLinks_18 rfl ?_
      refine z_iald hM dX6_endLinks_19 rfl (by omega) (by omega) (fun v42 h_v42 o_v42 t_v42 => ?_)
      have e_v42 : (-1) = v42 := ((t_v42 (Or.inl trivial)).trans ((a_ρ40 _ _ _ (by omega)).trans ((a_ρ27 _ _ _ (by omega)).trans q_ρ1))).symm
      subst e_v42
      refine r_iload_n hC dX6_endLinks_20 rfl ?_
      refine r_icmp_ne (tgt := 31) hC dX6_endLinks_21 rfl (fun h43 => ?_) (fun h43 => by omega)
      refine r_iincE hC (3) dX6_endLinks_31 rfl rfl (by omega) (by unfold inR; omega) ?_
      refine r_goto (tgt := 9) hC dX6_endLinks_34 rfl ?_
      refine r_iload_n hC dX6_endLinks_9 rfl ?_
      refine r_iconst hC dX6_endLinks_10 rfl ?_
      refine r_icmp_ge (tgt := 37) hC dX6_endLinks_11 rfl (fun h44 => by omega) (fun h44 => ?_)
      refine r_aload_n hC dX6_endLinks_14 rfl ?_
      refine z_getR hM dX6_endLinks_15 fl_RX6_52 rfl rfl (vld_of (n := 1) rfl (by omega) (by omega)) ?_
      refine r_iload_n hC dX6_endLinks_18 rfl ?_
      refine z_iald hM dX6_endLinks_19 rfl (by omega) (by omega) (fun v45 h_v45 o_v45 t_v45 => ?_)
      have e_v45 : t3 = v45 := ((t_v45 (Or.inl trivial)).trans ((a_ρ40 _ _ _ (by omega)).trans ((a_ρ27 _ _ _ (by omega)).trans ((a_ρ1 _ _ _ (by omega)).trans qg3)))).symm
      subst e_v45
      have q_v45 : -1 ≤ t3 ∧ t3 ≤ 3 := o_v45
      refine r_iload_n hC dX6_endLinks_20 rfl ?_
      refine r_icmp_ne (tgt := 31) hC dX6_endLinks_21 rfl (fun h46 => ?_) (fun h46 => ?_)
      · refine r_iincE hC (4) dX6_endLinks_31 rfl rfl (by omega) (by unfold inR; omega) ?_
        refine r_goto (tgt := 9) hC dX6_endLinks_34 rfl ?_
        refine r_iload_n hC dX6_endLinks_9 rfl ?_
        refine r_iconst hC dX6_endLinks_10 rfl ?_
        refine r_icmp_ge (tgt := 37) hC dX6_endLinks_11 rfl (fun h47 => ?_) (fun h47 => by omega)
        refine y_vret hK rfl dX6_endLinks_37 ?_
        have z0 := ((a_ρ40 _ _ _ (by omega)).trans q_ρ27)
        have z1 := q_ρ40
        have z2 := ((a_ρ40 _ _ _ (by omega)).trans ((a_ρ27 _ _ _ (by omega)).trans q_ρ1))
        have z3 := ((a_ρ40 _ _ _ (by omega)).trans ((a_ρ27 _ _ _ (by omega)).trans ((a_ρ1 _ _ _ (by omega)).trans qg3)))
        refine k _ ((((Gx.rf).al a_ρ1 (by first | simp | omega)).al a_ρ27 (by first | simp | omega)).al a_ρ40 (by first | simp | omega)) (fun i h0 h3 => ?_)
        rcases (by omega : i = 0 ∨ i = 1 ∨ i = 2 ∨ i = 3) with rfl | rfl | rfl | rfl <;> split <;> omega
      · refine r_aload_n hC dX6_endLinks_24 rfl ?_
        refine z_getR hM dX6_endLinks_25 fl_RX6_52 rfl rfl (vld_of (n := 1) rfl (by omega) (by omega)) ?_
        refine r_iload_n hC dX6_endLinks_28 rfl ?_
        refine r_iconst hC dX6_endLinks_29 rfl ?_
        refine z_iastG hM dX6_endLinks_30 rfl (by omega) (by omega) ⟨Or.inr (by simp [DL]), Or.inr (by simp [DF])⟩ (by first | trivial | (simp only [Okv]; omega) | (simp [Okv]; try omega)) (fun ρ48 a_ρ48 q_ρ48 => ?_)
        refine r_iincE hC (4) dX6_endLinks_31 rfl rfl (by omega) (by unfold inR; omega) ?_
        refine r_goto (tgt := 9) hC dX6_endLinks_34 rfl ?_
        refine r_iload_n hC dX6_endLinks_9 rfl ?_
        refine r_iconst hC dX6_endLinks_10 rfl ?_
        refine r_icmp_ge (tgt := 37) hC dX6_endLinks_11 rfl (fun h49 => ?_) (fun h49 => by omega)
        refine y_vret hK rfl dX6_endLinks_37 ?_
        have z0 := ((a_ρ48 _ _ _ (by omega)).trans ((a_ρ40 _ _ _ (by omega)).trans q_ρ27))
        have z1 := ((a_ρ48 _ _ _ (by omega)).trans q_ρ40)
        have z2 := ((a_ρ48 _ _ _ (by omega)).trans ((a_ρ40 _ _ _ (by omega)).trans ((a_ρ27 _ _ _ (by omega)).trans q_ρ1)))
        have z3 := q_ρ48
        refine k _ (((((Gx.rf).al a_ρ1 (by first | simp | omega)).al a_ρ27 (by first | simp | omega)).al a_ρ40 (by first | simp | omega)).al a_ρ48 (by first | simp | omega)) (fun i h0 h3 => ?_)
        rcases (by omega : i = 0 ∨ i = 1 ∨ i = 2 ∨ i = 3) with rfl | rfl | rfl | rfl <;> split <;> omega
theorem m_endLinks3 {e : Ev} {d : Nat} {P : Option Vl → Mm → Prop} {σ : Mm} {t0 t1 t2 t3 : Int} (qg0 : σ 45 0 0 = t0) (qg1 : σ 45 0 1 = t1) (qg2 : σ 45 0 2 = t2) (qg3 : σ 45 0 3 = t3)  (k : ∀ ρ : Mm, Gx (fun c x y => c = 45 ∧ x = 0) σ ρ → (∀ i : Int, 0 ≤ i → i ≤ 3 → ρ 45 0 i = if i = 3 ∨ σ 45 0 i = 3 then -1 else σ 45 0 i) → P none ρ) : WT e (d + 1) 198 [vR 30 0, vI 3] σ P := by
  refine WT_in fun K hK => ?_
  have hK : StpY e cX6_endLinks RX6 (none) (WT e (d + 0)) P K := hK
  have hM := hK.1
  have hC := hK.1.1
  show K 0 [some (vR 30 0), some (vI 3), none] [] σ
  refine r_aload_n hC dX6_endLinks_0 rfl ?_
  refine z_getR hM dX6_endLinks_1 fl_RX6_52 rfl rfl (vld_of (n := 1) rfl (by omega) (by omega)) ?_
  refine r_iload_n hC dX6_endLinks_4 rfl ?_
  refine r_iconst hC dX6_endLinks_5 rfl ?_
  refine z_iastG hM dX6_endLinks_6 rfl (by omega) (by omega) ⟨Or.inr (by simp [DL]), Or.inr (by simp [DF])⟩ (by first | trivial | (simp only [Okv]; omega) | (simp [Okv]; try omega)) (fun ρ1 a_ρ1 q_ρ1 => ?_)
  refine r_iconst hC dX6_endLinks_7 rfl ?_
  refine r_istore_n hC dX6_endLinks_8 rfl ?_
  refine r_iload_n hC dX6_endLinks_9 rfl ?_
  refine r_iconst hC dX6_endLinks_10 rfl ?_
  refine r_icmp_ge (tgt := 37) hC dX6_endLinks_11 rfl (fun h2 => by omega) (fun h2 => ?_)
  refine r_aload_n hC dX6_endLinks_14 rfl ?_
  refine z_getR hM dX6_endLinks_15 fl_RX6_52 rfl rfl (vld_of (n := 1) rfl (by omega) (by omega)) ?_
  refine r_iload_n hC dX6_endLinks_18 rfl ?_
  refine z_iald hM dX6_endLinks_19 rfl (by omega) (by omega) (fun v3 h_v3 o_v3 t_v3 => ?_)
  have e_v3 : t0 = v3 := ((t_v3 (Or.inl trivial)).trans ((a_ρ1 _ _ _ (by omega)).trans qg0)).symm
  subst e_v3
  have q_v3 : -1 ≤ t0 ∧ t0 ≤ 3 := o_v3
  refine r_iload_n hC dX6_endLinks_20 rfl ?_
  refine r_icmp_ne (tgt := 31) hC dX6_endLinks_21 rfl (fun h4 => ?_) (fun h4 => ?_)
  · refine r_iincE hC (1) dX6_endLinks_31 rfl rfl (by omega) (by unfold inR; omega) ?_
    refine r_goto (tgt := 9) hC dX6_endLinks_34 rfl ?_
    refine r_iload_n hC dX6_endLinks_9 rfl ?_
    refine r_iconst hC dX6_endLinks_10 rfl ?_
    refine r_icmp_ge (tgt := 37) hC dX6_endLinks_11 rfl (fun h5 => by omega) (fun h5 => ?_)
    refine r_aload_n hC dX6_endLinks_14 rfl ?_
    refine z_getR hM dX6_endLinks_15 fl_RX6_52 rfl rfl (vld_of (n := 1) rfl (by omega) (by omega)) ?_
    refine r_iload_n hC dX6_endLinks_18 rfl ?_
    refine z_iald hM dX6_endLinks_19 rfl (by omega) (by omega) (fun v6 h_v6 o_v6 t_v6 => ?_)
    have e_v6 : t1 = v6 := ((t_v6 (Or.inl trivial)).trans ((a_ρ1 _ _ _ (by omega)).trans qg1)).symm
    subst e_v6
    have q_v6 : -1 ≤ t1 ∧ t1 ≤ 3 := o_v6
    refine r_iload_n hC dX6_endLinks_20 rfl ?_
    refine r_icmp_ne (tgt := 31) hC dX6_endLinks_21 rfl (fun h7 => ?_) (fun h7 => ?_)
    · refine r_iincE hC (2) dX6_endLinks_31 rfl rfl (by omega) (by unfold inR; omega) ?_
      refine r_goto (tgt := 9) hC dX6_endLinks_34 rfl ?_
      refine r_iload_n hC dX6_endLinks_9 rfl ?_
      refine r_iconst hC dX6_endLinks_10 rfl ?_
      refine r_icmp_ge (tgt := 37) hC dX6_endLinks_11 rfl (fun h8 => by omega) (fun h8 => ?_)
      refine r_aload_n hC dX6_endLinks_14 rfl ?_
      refine z_getR hM dX6_endLinks_15 fl_RX6_52 rfl rfl (vld_of (n := 1) rfl (by omega) (by omega)) ?_
      refine r_iload_n hC dX6_endLinks_18 rfl ?_
      refine z_iald hM dX6_endLinks_19 rfl (by omega) (by omega) (fun v9 h_v9 o_v9 t_v9 => ?_)
      have e_v9 : t2 = v9 := ((t_v9 (Or.inl trivial)).trans ((a_ρ1 _ _ _ (by omega)).trans qg2)).symm
      subst e_v9
      have q_v9 : -1 ≤ t2 ∧ t2 ≤ 3 := o_v9
      refine r_iload_n hC dX6_endLinks_20 rfl ?_
      refine r_icmp_ne (tgt := 31) hC dX6_endLinks_21 rfl (fun h10 => ?_) (fun h10 => ?_)
      · refine r_iincE hC (3) dX6_endLinks_31 rfl rfl (by omega) (by unfold inR; omega) ?_
        refine r_goto (tgt := 9) hC dX6_endLinks_34 rfl ?_
        refine r_iload_n hC dX6_endLinks_9 rfl ?_
        refine r_iconst hC dX6_endLinks_10 rfl ?_
        refine r_icmp_ge (tgt := 37) hC dX6_endLinks_11 rfl (fun h11 => by omega) (fun h11 => ?_)
        refine r_aload_n hC dX6_endLinks_14 rfl ?_
        refine z_getR hM dX6_endLinks_15 fl_RX6_52 rfl rfl (vld_of (n := 1) rfl (by omega) (by omega)) ?_
        refine r_iload_n hC dX6_endLinks_18 rfl ?_
        refine z_iald hM dX6_endLinks_19 rfl (by omega) (by omega) (fun v12 h_v12 o_v12 t_v12 => ?_)
        have e_v12 : (-1) = v12 := ((t_v12 (Or.inl trivial)).trans q_ρ1).symm
        subst e_v12
        refine r_iload_n hC dX6_endLinks_20 rfl ?_
        refine r_icmp_ne (tgt := 31) hC dX6_endLinks_21 rfl (fun h13 => ?_) (fun h13 => by omega)
        refine r_iincE hC (4) dX6_endLinks_31 rfl rfl (by omega) (by unfold inR; omega) ?_
        refine r_goto (tgt := 9) hC dX6_endLinks_34 rfl ?_
        refine r_iload_n hC dX6_endLinks_9 rfl ?_
        refine r_iconst hC dX6_endLinks_10 rfl ?_
        refine r_icmp_ge (tgt := 37) hC dX6_endLinks_11 rfl (fun h14 => ?_) (fun h14 => by omega)
        refine y_vret hK rfl dX6_endLinks_37 ?_
        have z0 := ((a_ρ1 _ _ _ (by omega)).trans qg0)
        have z1 := ((a_ρ1 _ _ _ (by omega)).trans qg1)
        have z2 := ((a_ρ1 _ _ _ (by omega)).trans qg2)
        have z3 := q_ρ1
        refine k _ ((Gx.rf).al a_ρ1 (by first | simp | omega)) (fun i h0 h3 => ?_)
        rcases (by omega : i = 0 ∨ i = 1 ∨ i = 2 ∨ i = 3) with rfl | rfl | rfl | rfl <;> split <;> omega
      · refine r_aload_n hC dX6_endLinks_24 rfl ?_
        refine z_getR hM dX6_endLinks_25 fl_RX6_52 rfl rfl (vld_of (n := 1) rfl (by omega) (by omega)) ?_
        refine r_iload_n hC dX6_endLinks_28 rfl ?_
        refine r_iconst hC dX6_endLinks_29 rfl ?_
        refine z_iastG hM dX6_endLinks_30 rfl (by omega) (by omega) ⟨Or.inr (by simp [DL]), Or.inr (by simp [DF])⟩ (by first | trivial | (simp only [Okv]; omega) | (simp [Okv]; try omega)) (fun ρ15 a_ρ15 q_ρ15 => ?_)
        refine r_iincE hC (3) dX6_endLinks_31 rfl rfl (by omega) (by unfold inR; omega) ?_
        refine r_goto (tgt := 9) hC dX6_endLinks_34 rfl ?_
        refine r_iload_n hC dX6_endLinks_9 rfl ?_
        refine r_iconst hC dX6_endLinks_10 rfl ?_
        refine r_icmp_ge (tgt := 37) hC dX6_endLinks_11 rfl (fun h16 => by omega) (fun h16 => ?_)
        refine r_aload_n hC dX6_endLinks_14 rfl ?_
        refine z_getR hM dX6_endLinks_15 fl_RX6_52 rfl rfl (vld_of (n := 1) rfl (by omega) (by omega)) ?_
        refine r_iload_n hC dX6_endLinks_18 rfl ?_
        refine z_iald hM dX6_endLinks_19 rfl (by omega) (by omega) (fun v17 h_v17 o_v17 t_v17 => ?_)
        have e_v17 : (-1) = v17 := ((t_v17 (Or.inl trivial)).trans ((a_ρ15 _ _ _ (by omega)).trans q_ρ1)).symm
        subst e_v17
        refine r_iload_n hC dX6_endLinks_20 rfl ?_
        refine r_icmp_ne (tgt := 31) hC dX6_endLinks_21 rfl (fun h18 => ?_) (fun h18 => by omega)
        refine r_iincE hC (4) dX6_endLinks_31 rfl rfl (by omega) (by unfold inR; omega) ?_
        refine r_goto (tgt := 9) hC dX6_endLinks_34 rfl ?_
        refine r_iload_n hC dX6_endLinks_9 rfl ?_
        refine r_iconst hC dX6_endLinks_10 rfl ?_
        refine r_icmp_ge (tgt := 37) hC dX6_endLinks_11 rfl (fun h19 => ?_) (fun h19 => by omega)
        refine y_vret hK rfl dX6_endLinks_37 ?_
        have z0 := ((a_ρ15 _ _ _ (by omega)).trans ((a_ρ1 _ _ _ (by omega)).trans qg0))
        have z1 := ((a_ρ15 _ _ _ (by omega)).trans ((a_ρ1 _ _ _ (by omega)).trans qg1))
        have z2 := q_ρ15
        have z3 := ((a_ρ15 _ _ _ (by omega)).trans q_ρ1)
        refine k _ (((Gx.rf).al a_ρ1 (by first | simp | omega)).al a_ρ15 (by first | simp | omega)) (fun i h0 h3 => ?_)
        rcases (by omega : i = 0 ∨ i = 1 ∨ i = 2 ∨ i = 3) with rfl | rfl | rfl | rfl <;> split <;> omega
    · refine r_aload_n hC dX6_endLinks_24 rfl ?_
      refine z_getR hM dX6_endLinks_25 fl_RX6_52 rfl rfl (vld_of (n := 1) rfl (by omega) (by omega)) ?_
      refine r_iload_n hC dX6_endLinks_28 rfl ?_
      refine r_iconst hC dX6_endLinks_29 rfl ?_
      refine z_iastG hM dX6_endLinks_30 rfl (by omega) (by omega) ⟨Or.inr (by simp [DL]), Or.inr (by simp [DF])⟩ (by first | trivial | (simp only [Okv]; omega) | (simp [Okv]; try omega)) (fun ρ20 a_ρ20 q_ρ20 => ?_)
      refine r_iincE hC (2) dX6_endLinks_31 rfl rfl (by omega) (by unfold inR; omega) ?_
      refine r_goto (tgt := 9) hC dX6_endLinks_34 rfl ?_
      refine r_iload_n hC dX6_endLinks_9 rfl ?_
      refine r_iconst hC dX6_endLinks_10 rfl ?_
      refine r_icmp_ge (tgt := 37) hC dX6_endLinks_11 rfl (fun h21 => by omega) (fun h21 => ?_)
      refine r_aload_n hC dX6_endLinks_14 rfl ?_
      refine z_getR hM dX6_endLinks_15 fl_RX6_52 rfl rfl (vld_of (n := 1) rfl (by omega) (by omega)) ?_
      refine r_iload_n hC dX6_endLinks_18 rfl ?_
      refine z_iald hM dX6_endLinks_19 rfl (by omega) (by omega) (fun v22 h_v22 o_v22 t_v22 => ?_)
      have e_v22 : t2 = v22 := ((t_v22 (Or.inl trivial)).trans ((a_ρ20 _ _ _ (by omega)).trans ((a_ρ1 _ _ _ (by omega)).trans qg2))).symm
      subst e_v22
      have q_v22 : -1 ≤ t2 ∧ t2 ≤ 3 := o_v22
      refine r_iload_n hC dX6_endLinks_20 rfl ?_
      refine r_icmp_ne (tgt := 31) hC dX6_endLinks_21 rfl (fun h23 => ?_) (fun h23 => ?_)
      · refine r_iincE hC (3) dX6_endLinks_31 rfl rfl (by omega) (by unfold inR; omega) ?_
        refine r_goto (tgt := 9) hC dX6_endLinks_34 rfl ?_
        refine r_iload_n hC dX6_endLinks_9 rfl ?_
        refine r_iconst hC dX6_endLinks_10 rfl ?_
        refine r_icmp_ge (tgt := 37) hC dX6_endLinks_11 rfl (fun h24 => by omega) (fun h24 => ?_)
        refine r_aload_n hC dX6_endLinks_14 rfl ?_
        refine z_getR hM dX6_endLinks_15 fl_RX6_52 rfl rfl (vld_of (n := 1) rfl (by omega) (by omega)) ?_
        refine r_iload_n hC dX6_endLinks_18 rfl ?_
        refine z_iald hM dX6_endLinks_19 rfl (by omega) (by omega) (fun v25 h_v25 o_v25 t_v25 => ?_)
        have e_v25 : (-1) = v25 := ((t_v25 (Or.inl trivial)).trans ((a_ρ20 _ _ _ (by omega)).trans q_ρ1)).symm
        subst e_v25
        refine r_iload_n hC dX6_endLinks_20 rfl ?_
        refine r_icmp_ne (tgt := 31) hC dX6_endLinks_21 rfl (fun h26 => ?_) (fun h26 => by omega)
        refine r_iincE hC (4) dX6_endLinks_31 rfl rfl (by omega) (by unfold inR; omega) ?_
        refine r_goto (tgt := 9) hC dX6_endLinks_34 rfl ?_
        refine r_iload_n hC dX6_endLinks_9 rfl ?_
        refine r_iconst hC dX6_endLinks_10 rfl ?_
        refine r_icmp_ge (tgt := 37) hC dX6_endLinks_11 rfl (fun h27 => ?_) (fun h27 => by omega)
        refine y_vret hK rfl dX6_endLinks_37 ?_
        have z0 := ((a_ρ20 _ _ _ (by omega)).trans ((a_ρ1 _ _ _ (by omega)).trans qg0))
        have z1 := q_ρ20
        have z2 := ((a_ρ20 _ _ _ (by omega)).trans ((a_ρ1 _ _ _ (by omega)).trans qg2))
        have z3 := ((a_ρ20 _ _ _ (by omega)).trans q_ρ1)
        refine k _ (((Gx.rf).al a_ρ1 (by first | simp | omega)).al a_ρ20 (by first | simp | omega)) (fun i h0 h3 => ?_)
        rcases (by omega : i = 0 ∨ i = 1 ∨ i = 2 ∨ i = 3) with rfl | rfl | rfl | rfl <;> split <;> omega
      · refine r_aload_n hC dX6_endLinks_24 rfl ?_
        refine z_getR hM dX6_endLinks_25 fl_RX6_52 rfl rfl (vld_of (n := 1) rfl (by omega) (by omega)) ?_
        refine r_iload_n hC dX6_endLinks_28 rfl ?_
        refine r_iconst hC dX6_endLinks_29 rfl ?_
        refine z_iastG hM dX6_endLinks_30 rfl (by omega) (by omega) ⟨Or.inr (by simp [DL]), Or.inr (by simp [DF])⟩ (by first | trivial | (simp only [Okv]; omega) | (simp [Okv]; try omega)) (fun ρ28 a_ρ28 q_ρ28 => ?_)
        refine r_iincE hC (3) dX6_endLinks_31 rfl rfl (by omega) (by unfold inR; omega) ?_
        refine r_goto (tgt := 9) hC dX6_endLinks_34 rfl ?_
        refine r_iload_n hC dX6_endLinks_9 rfl ?_
        refine r_iconst hC dX6_endLinks_10 rfl ?_
        refine r_icmp_ge (tgt := 37) hC dX6_endLinks_11 rfl (fun h29 => by omega) (fun h29 => ?_)
        refine r_aload_n hC dX6_endLinks_14 rfl ?_
        refine z_getR hM dX6_endLinks_15 fl_RX6_52 rfl rfl (vld_of (n := 1) rfl (by omega) (by omega)) ?_
        refine r_iload_n hC dX6_endLinks_18 rfl ?_
        refine z_iald hM dX6_endLinks_19 rfl (by omega) (by omega) (fun v30 h_v30 o_v30 t_v30 => ?_)
        have e_v30 : (-1) = v30 := ((t_v30 (Or.inl trivial)).trans ((a_ρ28 _ _ _ (by omega)).trans ((a_ρ20 _ _ _ (by omega)).trans q_ρ1))).symm
        subst e_v30
        refine r_iload_n hC dX6_endLinks_20 rfl ?_
        refine r_icmp_ne (tgt := 31) hC dX6_endLinks_21 rfl (fun h31 => ?_) (fun h31 => by omega)
        refine r_iincE hC (4) dX6_endLinks_31 rfl rfl (by omega) (by unfold inR; omega) ?_
        refine r_goto (tgt := 9) hC dX6_endLinks_34 rfl ?_
        refine r_iload_n hC dX6_endLinks_9 rfl ?_
        refine r_iconst hC dX6_endLinks_10 rfl ?_
        refine r_icmp_ge (tgt := 37) hC dX6_endLinks_11 rfl (fun h32 => ?_) (fun h32 => by omega)
        refine y_vret hK rfl dX6_endLinks_37 ?_
        have z0 := ((a_ρ28 _ _ _ (by omega)).trans ((a_ρ20 _ _ _ (by omega)).trans ((a_ρ1 _ _ _ (by omega)).trans qg0)))
        have z1 := ((a_ρ28 _ _ _ (by omega)).trans q_ρ20)
        have z2 := q_ρ28
        have z3 := ((a_ρ28 _ _ _ (by omega)).trans ((a_ρ20 _ _ _ (by omega)).trans q_ρ1))
        refine k _ ((((Gx.rf).al a_ρ1 (by first | simp | omega)).al a_ρ20 (by first | simp | omega)).al a_ρ28 (by first | simp | omega)) (fun i h0 h3 => ?_)
        rcases (by omega : i = 0 ∨ i = 1 ∨ i = 2 ∨ i = 3) with rfl | rfl | rfl | rfl <;> split <;> omega
  · refine r_aload_n hC dX6_endLinks_24 rfl ?_
    refine z_getR hM dX6_endLinks_25 fl_RX6_52 rfl rfl (vld_of (n := 1) rfl (by omega) (by omega)) ?_
    refine r_iload_n hC dX6_endLinks_28 rfl ?_
    refine r_iconst hC dX6_endLinks_29 rfl ?_
    refine z_iastG hM dX6_endLinks_30 rfl (by omega) (by omega) ⟨Or.inr (by simp [DL]), Or.inr (by simp [DF])⟩ (by first | trivial | (simp only [Okv]; omega) | (simp [Okv]; try omega)) (fun ρ33 a_ρ33 q_ρ33 => ?_)
    refine r_iincE hC (1) dX6_endLinks_31 rfl rfl (by omega) (by unfold inR; omega) ?_
    refine r_goto (tgt := 9) hC dX6_endLinks_34 rfl ?_
    refine r_iload_n hC dX6_endLinks_9 rfl ?_
    refine r_iconst hC dX6_endLinks_10 rfl ?_
    refine r_icmp_ge (tgt := 37) hC dX6_endLinks_11 rfl (fun h34 => by omega) (fun h34 => ?_)
    refine r_aload_n hC dX6_endLinks_14 rfl ?_
    refine z_getR hM dX6_endLinks_15 fl_RX6_52 rfl rfl (vld_of (n := 1) rfl (by omega) (by omega)) ?_
    refine r_iload_n hC dX6_endLinks_18 rfl ?_
    refine z_iald hM dX6_endLinks_19 rfl (by omega) (by omega) (fun v35 h_v35 o_v35 t_v35 => ?_)
    have e_v35 : t1 = v35 := ((t_v35 (Or.inl trivial)).trans ((a_ρ33 _ _ _ (by omega)).trans ((a_ρ1 _ _ _ (by omega)).trans qg1))).symm
    subst e_v35
    have q_v35 : -1 ≤ t1 ∧ t1 ≤ 3 := o_v35
    refine r_iload_n hC dX6_endLinks_20 rfl ?_
    refine r_icmp_ne (tgt := 31) hC dX6_endLinks_21 rfl (fun h36 => ?_) (fun h36 => ?_)
    · refine r_iincE hC (2) dX6_endLinks_31 rfl rfl (by omega) (by unfold inR; omega) ?_
      refine r_goto (tgt := 9) hC dX6_endLinks_34 rfl ?_
      refine r_iload_n hC dX6_endLinks_9 rfl ?_
      refine r_iconst hC dX6_endLinks_10 rfl ?_
      refine r_icmp_ge (tgt := 37) hC dX6_endLinks_11 rfl (fun h37 => by omega) (fun h37 => ?_)
      refine r_aload_n hC dX6_endLinks_14 rfl ?_
      refine z_getR hM dX6_endLinks_15 fl_RX6_52 rfl rfl (vld_of (n := 1) rfl (by omega) (by omega)) ?_
      refine r_iload_n hC dX6_endLinks_18 rfl ?_
      refine z_iald hM dX6_endLinks_19 rfl (by omega) (by omega) (fun v38 h_v38 o_v38 t_v38 => ?_)
      have e_v38 : t2 = v38 := ((t_v38 (Or.inl trivial)).trans ((a_ρ33 _ _ _ (by omega)).trans ((a_ρ1 _ _ _ (by omega)).trans qg2))).symm
      subst e_v38
      have q_v38 : -1 ≤ t2 ∧ t2 ≤ 3 := o_v38
      refine r_iload_n hC dX6_endLinks_20 rfl ?_
      refine r_icmp_ne (tgt := 31) hC dX6_endLinks_21 rfl (fun h39 => ?_) (fun h39 => ?_)
      · refine r_iincE hC (3) dX6_endLinks_31 rfl rfl (by omega) (by unfold inR; omega) ?_
        refine r_goto (tgt := 9) hC dX6_endLinks_34 rfl ?_
        refine r_iload_n hC dX6_endLinks_9 rfl ?_
        refine r_iconst hC dX6_endLinks_10 rfl ?_
        refine r_icmp_ge (tgt := 37) hC dX6_endLinks_11 rfl (fun h40 => by omega) (fun h40 => ?_)
        refine r_aload_n hC dX6_endLinks_14 rfl ?_
        refine z_getR hM dX6_endLinks_15 fl_RX6_52 rfl rfl (vld_of (n := 1) rfl (by omega) (by omega)) ?_
        refine r_iload_n hC dX6_endLinks_18 rfl ?_
        refine z_iald hM dX6_endLinks_19 rfl (by omega) (by omega) (fun v41 h_v41 o_v41 t_v41 => ?_)
        have e_v41 : (-1) = v41 := ((t_v41 (Or.inl trivial)).trans ((a_ρ33 _ _ _ (by omega)).trans q_ρ1)).symm
        subst e_v41
        refine r_iload_n hC dX6_endLinks_20 rfl ?_
        refine r_icmp_ne (tgt := 31) hC dX6_endLinks_21 rfl (fun h42 => ?_) (fun h42 => by omega)
        refine r_iincE hC (4) dX6_endLinks_31 rfl rfl (by omega) (by unfold inR; omega) ?_
        refine r_goto (tgt := 9) hC dX6_endLinks_34 rfl ?_
        refine r_iload_n hC dX6_endLinks_9 rfl ?_
        refine r_iconst hC dX6_endLinks_10 rfl ?_
        refine r_icmp_ge (tgt := 37) hC dX6_endLinks_11 rfl (fun h43 => ?_) (fun h43 => by omega)
        refine y_vret hK rfl dX6_endLinks_37 ?_
        have z0 := q_ρ33
        have z1 := ((a_ρ33 _ _ _ (by omega)).trans ((a_ρ1 _ _ _ (by omega)).trans qg1))
        have z2 := ((a_ρ33 _ _ _ (by omega)).trans ((a_ρ1 _ _ _ (by omega)).trans qg2))
        have z3 := ((a_ρ33 _ _ _ (by omega)).trans q_ρ1)
        refine k _ (((Gx.rf).al a_ρ1 (by first | simp | omega)).al a_ρ33 (by first | simp | omega)) (fun i h0 h3 => ?_)
        rcases (by omega : i = 0 ∨ i = 1 ∨ i = 2 ∨ i = 3) with rfl | rfl | rfl | rfl <;> split <;> omega
      · refine r_aload_n hC dX6_endLinks_24 rfl ?_
        refine z_getR hM dX6_endLinks_25 fl_RX6_52 rfl rfl (vld_of (n := 1) rfl (by omega) (by omega)) ?_
        refine r_iload_n hC dX6_endLinks_28 rfl ?_
        refine r_iconst hC dX6_endLinks_29 rfl ?_
        refine z_iastG hM dX6_endLinks_30 rfl (by omega) (by omega) ⟨Or.inr (by simp [DL]), Or.inr (by simp [DF])⟩ (by first | trivial | (simp only [Okv]; omega) | (simp [Okv]; try omega)) (fun ρ44 a_ρ44 q_ρ44 => ?_)
        refine r_iincE hC (3) dX6_endLinks_31 rfl rfl (by omega) (by unfold inR; omega) ?_
        refine r_goto (tgt := 9) hC dX6_endLinks_34 rfl ?_
        refine r_iload_n hC dX6_endLinks_9 rfl ?_
        refine r_iconst hC dX6_endLinks_10 rfl ?_
        refine r_icmp_ge (tgt := 37) hC dX6_endLinks_11 rfl (fun h45 => by omega) (fun h45 => ?_)
        refine r_aload_n hC dX6_endLinks_14 rfl ?_
        refine z_getR hM dX6_endLinks_15 fl_RX6_52 rfl rfl (vld_of (n := 1) rfl (by omega) (by omega)) ?_
        refine r_iload_n hC dX6_endLinks_18 rfl ?_
        refine z_iald hM dX6_endLinks_19 rfl (by omega) (by omega) (fun v46 h_v46 o_v46 t_v46 => ?_)
        have e_v46 : (-1) = v46 := ((t_v46 (Or.inl trivial)).trans ((a_ρ44 _ _ _ (by omega)).trans ((a_ρ33 _ _ _ (by omega)).trans q_ρ1))).symm
        subst e_v46
        refine r_iload_n hC dX6_endLinks_20 rfl ?_
        refine r_icmp_ne (tgt := 31) hC dX6_endLinks_21 rfl (fun h47 => ?_) (fun h47 => by omega)
        refine r_iincE hC (4) dX6_endLinks_31 rfl rfl (by omega) (by unfold inR; omega) ?_
        refine r_goto (tgt := 9) hC dX6_endLinks_34 rfl ?_
        refine r_iload_n hC dX6_endLinks_9 rfl ?_
        refine r_iconst hC dX6_endLinks_10 rfl ?_
        refine r_icmp_ge (tgt := 37) hC dX6_endLinks_11 rfl (fun h48 => ?_) (fun h48 => by omega)
        refine y_vret hK rfl dX6_endLinks_37 ?_
        have z0 := ((a_ρ44 _ _ _ (by omega)).trans q_ρ33)
        have z1 := ((a_ρ44 _ _ _ (by omega)).trans ((a_ρ33 _ _ _ (by omega)).trans ((a_ρ1 _ _ _ (by omega)).trans qg1)))
        have z2 := q_ρ44
        have z3 := ((a_ρ44 _ _ _ (by omega)).trans ((a_ρ33 _ _ _ (by omega)).trans q_ρ1))
        refine k _ ((((Gx.rf).al a_ρ1 (by first | simp | omega)).al a_ρ33 (by first | simp | omega)).al a_ρ44 (by first | simp | omega)) (fun i h0 h3 => ?_)
        rcases (by omega : i = 0 ∨ i = 1 ∨ i = 2 ∨ i = 3) with rfl | rfl | rfl | rfl <;> split <;> omega
    · refine r_aload_n hC dX6_endLinks_24 rfl ?_
      refine z_getR hM dX6_endLinks_25 fl_RX6_52 rfl rfl (vld_of (n := 1) rfl (by omega) (by omega)) ?_
      refine r_iload_n hC dX6_endLinks_28 rfl ?_
      refine r_iconst hC dX6_endLinks_29 rfl ?_
      refine z_iastG hM dX6_endLinks_30 rfl (by omega) (by omega) ⟨Or.inr (by simp [DL]), Or.inr (by simp [DF])⟩ (by first | trivial | (simp only [Okv]; omega) | (simp [Okv]; try omega)) (fun ρ49 a_ρ49 q_ρ49 => ?_)
      refine r_iincE hC (2) dX6_endLinks_31 rfl rfl (by omega) (by unfold inR; omega) ?_
      refine r_goto (tgt := 9) hC dX6_endLinks_34 rfl ?_
      refine r_iload_n hC dX6_endLinks_9 rfl ?_
      refine r_iconst hC dX6_endLinks_10 rfl ?_
      refine r_icmp_ge (tgt := 37) hC dX6_endLinks_11 rfl (fun h50 => by omega) (fun h50 => ?_)
      refine r_aload_n hC dX6_endLinks_14 rfl ?_
      refine z_getR hM dX6_endLinks_15 fl_RX6_52 rfl rfl (vld_of (n := 1) rfl (by omega) (by omega)) ?_
      refine r_iload_n hC dX6_endLinks_18 rfl ?_
      refine z_iald hM dX6_endLinks_19 rfl (by omega) (by omega) (fun v51 h_v51 o_v51 t_v51 => ?_)
      have e_v51 : t2 = v51 := ((t_v51 (Or.inl trivial)).trans ((a_ρ49 _ _ _ (by omega)).trans ((a_ρ33 _ _ _ (by omega)).trans ((a_ρ1 _ _ _ (by omega)).trans qg2)))).symm
      subst e_v51
      have q_v51 : -1 ≤ t2 ∧ t2 ≤ 3 := o_v51
      refine r_iload_n hC dX6_endLinks_20 rfl ?_
      refine r_icmp_ne (tgt := 31) hC dX6_endLinks_21 rfl (fun h52 => ?_) (fun h52 => ?_)
      · refine r_iincE hC (3) dX6_endLinks_31 rfl rfl (by omega) (by unfold inR; omega) ?_
        refine r_goto (tgt := 9) hC dX6_endLinks_34 rfl ?_
        refine r_iload_n hC dX6_endLinks_9 rfl ?_
        refine r_iconst hC dX6_endLinks_10 rfl ?_
        refine r_icmp_ge (tgt := 37) hC dX6_endLinks_11 rfl (fun h53 => by omega) (fun h53 => ?_)
        refine r_aload_n hC dX6_endLinks_14 rfl ?_
        refine z_getR hM dX6_endLinks_15 fl_RX6_52 rfl rfl (vld_of (n := 1) rfl (by omega) (by omega)) ?_
        refine r_iload_n hC dX6_endLinks_18 rfl ?_
        refine z_iald hM dX6_endLinks_19 rfl (by omega) (by omega) (fun v54 h_v54 o_v54 t_v54 => ?_)
        have e_v54 : (-1) = v54 := ((t_v54 (Or.inl trivial)).trans ((a_ρ49 _ _ _ (by omega)).trans ((a_ρ33 _ _ _ (by omega)).trans q_ρ1))).symm
        subst e_v54
        refine r_iload_n hC dX6_endLinks_20 rfl ?_
        refine r_icmp_ne (tgt := 31) hC dX6_endLinks_21 rfl (fun h55 => ?_) (fun h55 => by omega)
        refine r_iincE hC (4) dX6_endLinks_31 rfl rfl (by omega) (by unfold inR; omega) ?_
        refine r_goto (tgt := 9) hC dX6_endLinks_34 rfl ?_
        refine r_iload_n hC dX6_endLinks_9 rfl ?_
        refine r_iconst hC dX6_endLinks_10 rfl ?_
        refine r_icmp_ge (tgt := 37) hC dX6_endLinks_11 rfl (fun h56 => ?_) (fun h56 => by omega)
        refine y_vret hK rfl dX6_endLinks_37 ?_
        have z0 := ((a_ρ49 _ _ _ (by omega)).trans q_ρ33)
        have z1 := q_ρ49
        have z2 := ((a_ρ49 _ _ _ (by omega)).trans ((a_ρ33 _ _ _ (by omega)).trans ((a_ρ1 _ _ _ (by omega)).trans qg2)))
        have z3 := ((a_ρ49 _ _ _ (by omega)).trans ((a_ρ33 _ _ _ (by omega)).trans q_ρ1))
        refine k _ ((((Gx.rf).al a_ρ1 (by first | simp | omega)).al a_ρ33 (by first | simp | omega)).al a_ρ49 (by first | simp | omega)) (fun i h0 h3 => ?_)
        rcases (by omega : i = 0 ∨ i = 1 ∨ i = 2 ∨ i = 3) with rfl | rfl | rfl | rfl <;> split <;> omega
      · refine r_aload_n hC dX6_endLinks_24 rfl ?_
        refine z_getR hM dX6_endLinks_25 fl_RX6_52 rfl rfl (vld_of (n := 1) rfl (by omega) (by omega)) ?_
        refine r_iload_n hC dX6_endLinks_28 rfl ?_
        refine r_iconst hC dX6_endLinks_29 rfl ?_
        refine z_iastG hM dX6_endLinks_30 rfl (by omega) (by omega) ⟨Or.inr (by simp [DL]), Or.inr (by simp [DF])⟩ (by first | trivial | (simp only [Okv]; omega) | (simp [Okv]; try omega)) (fun ρ57 a_ρ57 q_ρ57 => ?_)
        refine r_iincE hC (3) dX6_endLinks_31 rfl rfl (by omega) (by unfold inR; omega) ?_
        refine r_goto (tgt := 9) hC dX6_endLinks_34 rfl ?_
        refine r_iload_n hC dX6_endLinks_9 rfl ?_
        refine r_iconst hC dX6_endLinks_10 rfl ?_
        refine r_icmp_ge (tgt := 37) hC dX6_endLinks_11 rfl (fun h58 => by omega) (fun h58 => ?_)
        refine r_aload_n hC dX6_endLinks_14 rfl ?_
        refine z_getR hM dX6_endLinks_15 fl_RX6_52 rfl rfl (vld_of (n := 1) rfl (by omega) (by omega)) ?_
        refine r_iload_n hC dX6_endLinks_18 rfl ?_
        refine z_iald hM dX6_endLinks_19 rfl (by omega) (by omega) (fun v59 h_v59 o_v59 t_v59 => ?_)
        have e_v59 : (-1) = v59 := ((t_v59 (Or.inl trivial)).trans ((a_ρ57 _ _ _ (by omega)).trans ((a_ρ49 _ _ _ (by omega)).trans ((a_ρ33 _ _ _ (by omega)).trans q_ρ1)))).symm
        subst e_v59
        refine r_iload_n hC dX6_endLinks_20 rfl ?_
        refine r_icmp_ne (tgt := 31) hC dX6_endLinks_21 rfl (fun h60 => ?_) (fun h60 => by omega)
        refine r_iincE hC (4) dX6_endLinks_31 rfl rfl (by omega) (by unfold inR; omega) ?_
        refine r_goto (tgt := 9) hC dX6_endLinks_34 rfl ?_
        refine r_iload_n hC dX6_endLinks_9 rfl ?_
        refine r_iconst hC dX6_endLinks_10 rfl ?_
        refine r_icmp_ge (tgt := 37) hC dX6_endLinks_11 rfl (fun h61 => ?_) (fun h61 => by omega)
        refine y_vret hK rfl dX6_endLinks_37 ?_
        have z0 := ((a_ρ57 _ _ _ (by omega)).trans ((a_ρ49 _ _ _ (by omega)).trans q_ρ33))
        have z1 := ((a_ρ57 _ _ _ (by omega)).trans q_ρ49)
        have z2 := q_ρ57
        have z3 := ((a_ρ57 _ _ _ (by omega)).trans ((a_ρ49 _ _ _ (by omega)).trans ((a_ρ33 _ _ _ (by omega)).trans q_ρ1)))
        refine k _ (((((Gx.rf).al a_ρ1 (by first | simp | omega)).al a_ρ33 (by first | simp | omega)).al a_ρ49 (by first | simp | omega)).al a_ρ57 (by first | simp | omega)) (fun i h0 h3 => ?_)
        rcases (by omega : i = 0 ∨ i = 1 ∨ i = 2 ∨ i = 3) with rfl | rfl | rfl | rfl <;> split <;> omega
theorem m_endLinks {e : Ev} {d : Nat} {P : Option Vl → Mm → Prop} {σ : Mm} {l : Int} (b_l : 0 ≤ l ∧ l ≤ 3) (k : ∀ ρ : Mm, Gx (fun c x y => c = 45 ∧ x = 0) σ ρ → (∀ i : Int, 0 ≤ i → i ≤ 3 → ρ 45 0 i = if i = l ∨ σ 45 0 i = l then -1 else σ 45 0 i) → P none ρ) : WT e (d + 1) 198 [vR 30 0, vI l] σ P := by
  rcases (by omega : l = 0 ∨ l = 1 ∨ l = 2 ∨ l = 3) with rfl | rfl | rfl | rfl
  · exact m_endLinks0 rfl rfl rfl rfl k
  · exact m_endLinks1 rfl rfl rfl rfl k
  · exact m_endLinks2 rfl rfl rfl rfl k
  · exact m_endLinks3 rfl rfl rfl rfl k
theorem m_endWatches {e : Ev} {d : Nat} {P : Option Vl → Mm → Prop} {σ : Mm} {l : Int}   (k : P none σ) : WT e (d + 1) 182 [vR 30 0, vI l] σ P := by
  refine WT_in fun K hK => ?_
  have hK : StpY e cX6_endWatches RX6 (none) (WT e (d + 0)) P K := hK
  have hM := hK.1
  have hC := hK.1.1
  show K 0 [some (vR 30 0), some (vI l), none] [] σ
  refine r_rngz hC (fun g0 => ?_)
  have r_l : -2147483648 ≤ l ∧ l ≤ 2147483647 := inR_le (g0 (vI l) (by simp))
  refine r_iconst hC dX6_endWatches_0 rfl ?_
  refine r_istore_n hC dX6_endWatches_1 rfl ?_
  have L2 : ∀ (n2 : Nat) (w1 : Int), 0 ≤ w1 ∧ w1 ≤ 8 → 8 - w1 < (n2 : Int) → K 2 [some (vR 30 0), some (vI l), some (vI w1)] [] σ := by
    intro n2
    induction n2 with
    | zero => intro w1  f_w1  hm ; omega
    | succ n2 ih2 =>
      intro w1  f_w1  hm2 
      refine r_iload_n hC dX6_endWatches_2 rfl ?_
      refine r_bipush hC dX6_endWatches_3 rfl ?_
      refine r_icmp_ge (tgt := 31) hC dX6_endWatches_5 rfl (fun h2 => ?_) (fun h2 => ?_)
      · refine y_vret hK rfl dX6_endWatches_31 ?_
        exact k
      · refine r_aload_n hC dX6_endWatches_8 rfl ?_
        refine z_getR hM dX6_endWatches_9 fl_RX6_34 rfl rfl (vld_of (n := 1) rfl (by omega) (by omega)) ?_
        refine r_iload_n hC dX6_endWatches_12 rfl ?_
        refine z_iald hM dX6_endWatches_13 rfl (by omega) (by omega) (fun v3 h_v3 o_v3 t_v3 => ?_)
        refine r_iload_n hC dX6_endWatches_14 rfl ?_
        have J25_4 : K 25 [some (vR 30 0), some (vI l), some (vI w1)] [] σ := by
          refine r_iincE hC ((w1 + 1)) dX6_endWatches_25 rfl rfl (by omega) (by unfold inR; omega) ?_
          refine r_goto (tgt := 2) hC dX6_endWatches_28 rfl ?_
          exact ih2 ((w1 + 1))  (by omega)  (by omega) 
        refine r_icmp_ne (tgt := 25) hC dX6_endWatches_15 rfl (fun h4 => ?_) (fun h4 => ?_)
        · exact J25_4
        · refine r_aload_n hC dX6_endWatches_18 rfl ?_
          refine z_getR hM dX6_endWatches_19 fl_RX6_34 rfl rfl (vld_of (n := 1) rfl (by omega) (by omega)) ?_
          refine r_iload_n hC dX6_endWatches_22 rfl ?_
          refine r_iconst hC dX6_endWatches_23 rfl ?_
          refine z_iastU hM dX6_endWatches_24 rfl (by omega) (by omega) (by simp [Un, Tb, DL, DF, DR]) (by simp [Okv]) ?_
          exact J25_4    
  exact L2 10 (0)  (by omega)  (by omega) 
theorem s_openLaneX {e : Ev} {d : Nat} {P : Option Vl → Mm → Prop} {σ : Mm} {l : Int}   (k1 : (0 ≤ l ∧ l ≤ 3 ∧ σ 7 l 1 = 1) → P (some (vR 7 l)) σ) (k0 : ¬ (0 ≤ l ∧ l ≤ 3 ∧ σ 7 l 1 = 1) → P (some vN) σ) : WT e (d + 3) 129 [vR 2 0, vI l] σ P := by
  refine WT_in fun K hK => ?_
  have hK : StpY e cX5_openLane RX5 (some (.object "SlideFold$Lane")) (WT e (d + 2)) P K := hK
  have hM := hK.1
  have hC := hK.1.1
  show K 0 [some (vR 2 0), some (vI l)] [] σ
  refine r_rngz hC (fun g0 => ?_)
  have r_l : -2147483648 ≤ l ∧ l ≤ 2147483647 := inR_le (g0 (vI l) (by simp))
  refine r_iload_n hC dX5_openLane_0 rfl ?_
  refine z_ins1 hM dX5_openLane_1 tl_RX5_102 rfl (Nat.le_of_ble_eq_true rfl) (Nat.le_of_ble_eq_true rfl) ?_
  refine s_isLane (fun h2 => ?_) (fun h2 => ?_)
  · refine r_if_eq (tgt := 28) hC dX5_openLane_4 rfl (fun h3 => by omega) (fun h3 => ?_)
    refine r_aload_n hC dX5_openLane_7 rfl ?_
    refine z_getR hM dX5_openLane_8 fl_RX5_13 rfl rfl (vld_of (n := 1) rfl (by omega) (by omega)) ?_
    refine r_iload_n hC dX5_openLane_11 rfl ?_
    refine z_aald hM dX5_openLane_12 rfl (by decide) (by omega) (by omega) (vld_of (n := 7) rfl (by omega) (by omega)) ?_
    refine z_getI (jz := 1) hM dX5_openLane_13 fl_RX5_94 rfl rfl rfl (fun v4 h_v4 o_v4 t_v4 => ?_)
    have w_v4 := t_v4 (Or.inl (by simp [Tb]))
    subst w_v4
    have q_v4 : 0 ≤ (σ 7 l 1) ∧ (σ 7 l 1) ≤ 1 := by have := o_v4.2.1 rfl; omega
    refine r_if_eq (tgt := 28) hC dX5_openLane_16 rfl (fun h5 => ?_) (fun h5 => ?_)
    · refine r_null hC dX5_openLane_28 ?_
      refine y_aret hK rfl dX5_openLane_29 ?_
      exact k0 (by omega)
    · refine r_aload_n hC dX5_openLane_19 rfl ?_
      refine z_getR hM dX5_openLane_20 fl_RX5_13 rfl rfl (vld_of (n := 1) rfl (by omega) (by omega)) ?_
      refine r_iload_n hC dX5_openLane_23 rfl ?_
      refine z_aald hM dX5_openLane_24 rfl (by decide) (by omega) (by omega) (vld_of (n := 7) rfl (by omega) (by omega)) ?_
      refine r_goto (tgt := 29) hC dX5_openLane_25 rfl ?_
      refine y_aret hK rfl dX5_openLane_29 ?_
      exact k1 (by omega)
  · refine r_if_eq (tgt := 28) hC dX5_openLane_4 rfl (fun h6 => ?_) (fun h6 => by omega)
    refine r_null hC dX5_openLane_28 ?_
    refine y_aret hK rfl dX5_openLane_29 ?_
    exact k0 (by omega)
theorem s_hasNumberX {e : Ev} {d : Nat} {P : Option Vl → Mm → Prop} {σ : Mm} {i w : Int} (b_i : 0 ≤ i ∧ i ≤ 6)  (k1 : (0 ≤ w ∧ w < numF (σ 7 i 2)) → P (some (vI 1)) σ) (k0 : ¬ (0 ≤ w ∧ w < numF (σ 7 i 2)) → P (some (vI 0)) σ) : WT e (d + 2) 28 [vR 7 i, vI w] σ P := by
  refine WT_in fun K hK => ?_
  have hK : StpY e cX2_hasNumber RX2 (some .boolean) (WT e (d + 1)) P K := hK
  have hM := hK.1
  have hC := hK.1.1
  show K 0 [some (vR 7 i), some (vI w)] [] σ
  refine r_rngz hC (fun g0 => ?_)
  have r_w : -2147483648 ≤ w ∧ w ≤ 2147483647 := inR_le (g0 (vI w) (by simp))
  refine r_iload_n hC dX2_hasNumber_0 rfl ?_
  refine r_iconst hC dX2_hasNumber_1 rfl ?_
  refine z_nums hM dX2_hasNumber_2 sl_RX2_82 ?_
  refine r_aload_n hC dX2_hasNumber_5 rfl ?_
  refine z_getI (jz := 2) hM dX2_hasNumber_6 fl_RX2_36 rfl rfl rfl (fun v1 h_v1 o_v1 t_v1 => ?_)
  have w_v1 := t_v1 (Or.inl (by simp [Tb]))
  subst w_v1
  have q_v1 : 0 ≤ (σ 7 i 2) ∧ (σ 7 i 2) ≤ 9 := o_v1.2.2 rfl
  refine z_nald hM dX2_hasNumber_9 (by omega) (by omega) ?_
  have q_v2 := numF_rng (σ 7 i 2)
  refine r_iconst hC dX2_hasNumber_10 rfl ?_
  refine r_isubE hC (((numF (σ 7 i 2)) - 1)) dX2_hasNumber_11 (by omega) (by unfold inR; omega) ?_
  refine z_ins3 hM dX2_hasNumber_12 tl_RX2_85 rfl (Nat.le_of_ble_eq_true rfl) (Nat.le_of_ble_eq_true rfl) ?_
  refine s_within (fun h4 => ?_) (fun h4 => ?_)
  · refine y_zret hK rfl dX2_hasNumber_15 (by omega) ?_
    exact k1 (by omega)
  · refine y_zret hK rfl dX2_hasNumber_15 (by omega) ?_
    exact k0 (by omega)
theorem s_laneWithX {e : Ev} {d : Nat} {P : Option Vl → Mm → Prop} {σ : Mm} {l w : Int}   (k1 : (0 ≤ l ∧ l ≤ 3 ∧ σ 7 l 1 = 1 ∧ 0 ≤ w ∧ w < numF (σ 7 l 2)) → P (some (vR 7 l)) σ) (k0 : ¬ (0 ≤ l ∧ l ≤ 3 ∧ σ 7 l 1 = 1 ∧ 0 ≤ w ∧ w < numF (σ 7 l 2)) → P (some vN) σ) : WT e (d + 4) 130 [vR 2 0, vI l, vI w] σ P := by
  refine WT_in fun K hK => ?_
  have hK : StpY e cX5_laneWith RX5 (some (.object "SlideFold$Lane")) (WT e (d + 3)) P K := hK
  have hM := hK.1
  have hC := hK.1.1
  show K 0 [some (vR 2 0), some (vI l), some (vI w), none] [] σ
  refine r_rngz hC (fun g0 => ?_)
  have r_l : -2147483648 ≤ l ∧ l ≤ 2147483647 := inR_le (g0 (vI l) (by simp))
  have r_w : -2147483648 ≤ w ∧ w ≤ 2147483647 := inR_le (g0 (vI w) (by simp))
  refine r_aload_n hC dX5_laneWith_0 rfl ?_
  refine r_iload_n hC dX5_laneWith_1 rfl ?_
  refine z_inv1 hM dX5_laneWith_2 vl_RX5_123 rfl rfl rfl (Nat.le_of_ble_eq_true rfl) (Nat.le_of_ble_eq_true rfl) ?_
  refine s_openLaneX (fun h1 => ?_) (fun h1 => ?_)
  · refine r_astore_n hC dX5_laneWith_5 rfl ?_
    refine r_aload_n hC dX5_laneWith_6 rfl ?_
    refine r_ifnullR hC dX5_laneWith_7 ?_
    refine r_aload_n hC dX5_laneWith_10 rfl ?_
    refine r_iload_n hC dX5_laneWith_11 rfl ?_
    refine z_inv1 hM dX5_laneWith_12 vl_RX5_266 rfl rfl rfl (Nat.le_of_ble_eq_true rfl) (Nat.le_of_ble_eq_true rfl) ?_
    refine s_hasNumberX (by omega) (fun h2 => ?_) (fun h2 => ?_)
    · refine r_if_eq (tgt := 22) hC dX5_laneWith_15 rfl (fun h3 => by omega) (fun h3 => ?_)
      refine r_aload_n hC dX5_laneWith_18 rfl ?_
      refine r_goto (tgt := 23) hC dX5_laneWith_19 rfl ?_
      refine y_aret hK rfl dX5_laneWith_23 ?_
      exact k1 (by omega)
    · refine r_if_eq (tgt := 22) hC dX5_laneWith_15 rfl (fun h4 => ?_) (fun h4 => by omega)
      refine r_null hC dX5_laneWith_22 ?_
      refine y_aret hK rfl dX5_laneWith_23 ?_
      exact k0 (by omega)
  · refine r_astoreN_n hC dX5_laneWith_5 rfl ?_
    refine r_aloadN_n hC dX5_laneWith_6 rfl ?_
    refine r_ifnullN (tgt := 22) hC dX5_laneWith_7 rfl ?_
    refine r_null hC dX5_laneWith_22 ?_
    refine y_aret hK rfl dX5_laneWith_23 ?_
    exact k0 (by omega)
theorem m_isLaneX {e : Ev} {d : Nat} {P : Option Vl → Mm → Prop} {σ : Mm} {l : Int}   (k1 : (0 ≤ l ∧ l ≤ 3 ∧ σ 31 0 (22 * l + 0) = 1) → P (some (vI 1)) σ) (k0 : ¬ (0 ≤ l ∧ l ≤ 3 ∧ σ 31 0 (22 * l + 0) = 1) → P (some (vI 0)) σ) : WT e (d + 2) 137 [vR 30 0, vI l] σ P := by
  refine WT_in fun K hK => ?_
  have hK : StpY e cX6_isLane RX6 (some .boolean) (WT e (d + 1)) P K := hK
  have hM := hK.1
  have hC := hK.1.1
  show K 0 [some (vR 30 0), some (vI l)] [] σ
  refine r_rngz hC (fun g0 => ?_)
  have r_l : -2147483648 ≤ l ∧ l ≤ 2147483647 := inR_le (g0 (vI l) (by simp))
  refine r_iload_n hC dX6_isLane_0 rfl ?_
  refine r_iconst hC dX6_isLane_1 rfl ?_
  refine r_iconst hC dX6_isLane_2 rfl ?_
  refine z_ins3 hM dX6_isLane_3 tl_RX6_76 rfl (Nat.le_of_ble_eq_true rfl) (Nat.le_of_ble_eq_true rfl) ?_
  refine m_isIn (fun h2 => ?_) (fun h2 => ?_)
  · refine r_if_eq (tgt := 28) hC dX6_isLane_6 rfl (fun h3 => by omega) (fun h3 => ?_)
    refine r_aload_n hC dX6_isLane_9 rfl ?_
    refine z_getR hM dX6_isLane_10 fl_RX6_7 rfl rfl (vld_of (n := 1) rfl (by omega) (by omega)) ?_
    refine r_bipush hC dX6_isLane_13 rfl ?_
    refine r_iload_n hC dX6_isLane_15 rfl ?_
    refine r_imulE hC ((22 * l)) dX6_isLane_16 (by omega) (by unfold inR; omega) ?_
    refine r_iconst hC dX6_isLane_17 rfl ?_
    refine r_iaddE hC ((22 * l)) dX6_isLane_18 (by omega) (by unfold inR; omega) ?_
    refine z_iald hM dX6_isLane_19 rfl (by omega) (by omega) (fun v4 h_v4 o_v4 t_v4 => ?_)
    have w_v4 := t_v4 (Or.inl (by simp only [Tb]; omega))
    rw [show 22 * l = 22 * l + 0 from (Int.add_zero _).symm] at w_v4
    have q_v4 : 0 ≤ v4 ∧ v4 ≤ 1 := by have := o_v4.2 (by omega); omega
    subst w_v4
    refine r_iconst hC dX6_isLane_20 rfl ?_
    refine r_icmp_ne (tgt := 28) hC dX6_isLane_21 rfl (fun h5 => ?_) (fun h5 => ?_)
    · refine r_iconst hC dX6_isLane_28 rfl ?_
      refine y_zret hK rfl dX6_isLane_29 (by omega) ?_
      exact k0 (by omega)
    · refine r_iconst hC dX6_isLane_24 rfl ?_
      refine r_goto (tgt := 29) hC dX6_isLane_25 rfl ?_
      refine y_zret hK rfl dX6_isLane_29 (by omega) ?_
      exact k1 (by omega)
  · refine r_if_eq (tgt := 28) hC dX6_isLane_6 rfl (fun h6 => ?_) (fun h6 => by omega)
    refine r_iconst hC dX6_isLane_28 rfl ?_
    refine y_zret hK rfl dX6_isLane_29 (by omega) ?_
    exact k0 (by omega)
theorem m_howManyX {e : Ev} {d : Nat} {P : Option Vl → Mm → Prop} {σ : Mm} {o : Int} (b_o : 0 ≤ o ∧ o ≤ 9)  (k : P (some (vI (numF o))) σ) : WT e (d + 1) 156 [vI o] σ P := by
  refine WT_in fun K hK => ?_
  have hK : StpY e cX6_howMany RX6 (some .int) (WT e (d + 0)) P K := hK
  have hM := hK.1
  have hC := hK.1.1
  show K 0 [some (vI o)] [] σ
  refine r_iload_n hC dX6_howMany_0 rfl ?_
  rcases (by omega : (o < 0 ∨ 8 < o) ∨ o = 0 ∨ o = 1 ∨ o = 2 ∨ o = 3 ∨ o = 4 ∨ o = 5 ∨ o = 6 ∨ o = 7 ∨ o = 8) with h1 | h1 | h1 | h1 | h1 | h1 | h1 | h1 | h1 | h1
  · refine r_tableOut (tgt := 71) hC dX6_howMany_1 h1 rfl ?_
    refine r_iconst hC dX6_howMany_71 rfl ?_
    refine y_iret hK rfl dX6_howMany_72 ?_
    rcases (by omega : o = 0 ∨ o = 1 ∨ o = 2 ∨ o = 3 ∨ o = 4 ∨ o = 5 ∨ o = 6 ∨ o = 7 ∨ o = 8 ∨ o = 9) with rfl | rfl | rfl | rfl | rfl | rfl | rfl | rfl | rfl | rfl <;> first | exact k | (exfalso; omega)
  · refine r_tableIn (tgt := 52) (off := 51) hC dX6_howMany_1 (by omega) (by omega) (by rw [h1]; rfl) rfl ?_
    refine r_iconst hC dX6_howMany_52 rfl ?_
    refine y_iret hK rfl dX6_howMany_53 ?_
    rcases (by omega : o = 0 ∨ o = 1 ∨ o = 2 ∨ o = 3 ∨ o = 4 ∨ o = 5 ∨ o = 6 ∨ o = 7 ∨ o = 8 ∨ o = 9) with rfl | rfl | rfl | rfl | rfl | rfl | rfl | rfl | rfl | rfl <;> first | exact k | (exfalso; omega)
  · refine r_tableIn (tgt := 54) (off := 53) hC dX6_howMany_1 (by omega) (by omega) (by rw [h1]; rfl) rfl ?_
    refine r_iconst hC dX6_howMany_54 rfl ?_
    refine y_iret hK rfl dX6_howMany_55 ?_
    rcases (by omega : o = 0 ∨ o = 1 ∨ o = 2 ∨ o = 3 ∨ o = 4 ∨ o = 5 ∨ o = 6 ∨ o = 7 ∨ o = 8 ∨ o = 9) with rfl | rfl | rfl | rfl | rfl | rfl | rfl | rfl | rfl | rfl <;> first | exact k | (exfalso; omega)
  · refine r_tableIn (tgt := 56) (off := 55) hC dX6_howMany_1 (by omega) (by omega) (by rw [h1]; rfl) rfl ?_
    refine r_iconst hC dX6_howMany_56 rfl ?_
    refine y_iret hK rfl dX6_howMany_57 ?_
    rcases (by omega : o = 0 ∨ o = 1 ∨ o = 2 ∨ o = 3 ∨ o = 4 ∨ o = 5 ∨ o = 6 ∨ o = 7 ∨ o = 8 ∨ o = 9) with rfl | rfl | rfl | rfl | rfl | rfl | rfl | rfl | rfl | rfl <;> first | exact k | (exfalso; omega)
  · refine r_tableIn (tgt := 58) (off := 57) hC dX6_howMany_1 (by omega) (by omega) (by rw [h1]; rfl) rfl ?_
    refine r_iconst hC dX6_howMany_58 rfl ?_
    refine y_iret hK rfl dX6_howMany_59 ?_
    rcases (by omega : o = 0 ∨ o = 1 ∨ o = 2 ∨ o = 3 ∨ o = 4 ∨ o = 5 ∨ o = 6 ∨ o = 7 ∨ o = 8 ∨ o = 9) with rfl | rfl | rfl | rfl | rfl | rfl | rfl | rfl | rfl | rfl <;> first | exact k | (exfalso; omega)
  · refine r_tableIn (tgt := 60) (off := 59) hC dX6_howMany_1 (by omega) (by omega) (by rw [h1]; rfl) rfl ?_
    refine r_iconst hC dX6_howMany_60 rfl ?_
    refine y_iret hK rfl dX6_howMany_61 ?_
    rcases (by omega : o = 0 ∨ o = 1 ∨ o = 2 ∨ o = 3 ∨ o = 4 ∨ o = 5 ∨ o = 6 ∨ o = 7 ∨ o = 8 ∨ o = 9) with rfl | rfl | rfl | rfl | rfl | rfl | rfl | rfl | rfl | rfl <;> first | exact k | (exfalso; omega)
  · refine r_tableIn (tgt := 62) (off := 61) hC dX6_howMany_1 (by omega) (by omega) (by rw [h1]; rfl) rfl ?_
    refine r_iconst hC dX6_howMany_62 rfl ?_
    refine y_iret hK rfl dX6_howMany_63 ?_
    rcases (by omega : o = 0 ∨ o = 1 ∨ o = 2 ∨ o = 3 ∨ o = 4 ∨ o = 5 ∨ o = 6 ∨ o = 7 ∨ o = 8 ∨ o = 9) with rfl | rfl | rfl | rfl | rfl | rfl | rfl | rfl | rfl | rfl <;> first | exact k | (exfalso; omega)
  · refine r_tableIn (tgt := 64) (off := 63) hC dX6_howMany_1 (by omega) (by omega) (by rw [h1]; rfl) rfl ?_
    refine r_bipush hC dX6_howMany_64 rfl ?_
    refine y_iret hK rfl dX6_howMany_66 ?_
    rcases (by omega : o = 0 ∨ o = 1 ∨ o = 2 ∨ o = 3 ∨ o = 4 ∨ o = 5 ∨ o = 6 ∨ o = 7 ∨ o = 8 ∨ o = 9) with rfl | rfl | rfl | rfl | rfl | rfl | rfl | rfl | rfl | rfl <;> first | exact k | (exfalso; omega)
  · refine r_tableIn (tgt := 67) (off := 66) hC dX6_howMany_1 (by omega) (by omega) (by rw [h1]; rfl) rfl ?_
    refine r_iconst hC dX6_howMany_67 rfl ?_
    refine y_iret hK rfl dX6_howMany_68 ?_
    rcases (by omega : o = 0 ∨ o = 1 ∨ o = 2 ∨ o = 3 ∨ o = 4 ∨ o = 5 ∨ o = 6 ∨ o = 7 ∨ o = 8 ∨ o = 9) with rfl | rfl | rfl | rfl | rfl | rfl | rfl | rfl | rfl | rfl <;> first | exact k | (exfalso; omega)
  · refine r_tableIn (tgt := 69) (off := 68) hC dX6_howMany_1 (by omega) (by omega) (by rw [h1]; rfl) rfl ?_
    refine r_iconst hC dX6_howMany_69 rfl ?_
    refine y_iret hK rfl dX6_howMany_70 ?_
    rcases (by omega : o = 0 ∨ o = 1 ∨ o = 2 ∨ o = 3 ∨ o = 4 ∨ o = 5 ∨ o = 6 ∨ o = 7 ∨ o = 8 ∨ o = 9) with rfl | rfl | rfl | rfl | rfl | rfl | rfl | rfl | rfl | rfl <;> first | exact k | (exfalso; omega)
theorem m_isNumberX {e : Ev} {d : Nat} {P : Option Vl → Mm → Prop} {σ : Mm} {l w : Int}  (ho : ∀ i : Int, 0 ≤ i → i ≤ 3 → 0 ≤ σ 31 0 (22 * i + 1) ∧ σ 31 0 (22 * i + 1) ≤ 9)  (k1 : (0 ≤ l ∧ l ≤ 3 ∧ σ 31 0 (22 * l + 0) = 1 ∧ 0 ≤ w ∧ w < numF (σ 31 0 (22 * l + 1))) → P (some (vI 1)) σ) (k0 : ¬ (0 ≤ l ∧ l ≤ 3 ∧ σ 31 0 (22 * l + 0) = 1 ∧ 0 ≤ w ∧ w < numF (σ 31 0 (22 * l + 1))) → P (some (vI 0)) σ) : WT e (d + 3) 157 [vR 30 0, vI l, vI w] σ P := by
  refine WT_in fun K hK => ?_
  have hK : StpY e cX6_isNumber RX6 (some .boolean) (WT e (d + 2)) P K := hK
  have hM := hK.1
  have hC := hK.1.1
  show K 0 [some (vR 30 0), some (vI l), some (vI w)] [] σ
  refine r_rngz hC (fun g0 => ?_)
  have r_l : -2147483648 ≤ l ∧ l ≤ 2147483647 := inR_le (g0 (vI l) (by simp))
  have r_w : -2147483648 ≤ w ∧ w ≤ 2147483647 := inR_le (g0 (vI w) (by simp))
  refine r_aload_n hC dX6_isNumber_0 rfl ?_
  refine r_iload_n hC dX6_isNumber_1 rfl ?_
  refine z_inv1 hM dX6_isNumber_2 vl_RX6_124 rfl rfl rfl (Nat.le_of_ble_eq_true rfl) (Nat.le_of_ble_eq_true rfl) ?_
  refine m_isLaneX (fun h1 => ?_) (fun h1 => ?_)
  · refine r_if_eq (tgt := 31) hC dX6_isNumber_5 rfl (fun h2 => by omega) (fun h2 => ?_)
    refine r_iload_n hC dX6_isNumber_8 rfl ?_
    refine r_iconst hC dX6_isNumber_9 rfl ?_
    refine r_aload_n hC dX6_isNumber_10 rfl ?_
    refine r_iload_n hC dX6_isNumber_11 rfl ?_
    refine r_iconst hC dX6_isNumber_12 rfl ?_
    refine z_inv2 hM dX6_isNumber_13 vl_RX6_80 rfl rfl rfl (Nat.le_of_ble_eq_true rfl) (Nat.le_of_ble_eq_true rfl) ?_
    refine m_of (by omega) (by omega) (fun v3 h_v3 h5_v3 h0_v3 t_v3 => ?_)
    have w_v3 := t_v3 (Or.inl (by simp only [Tb]; omega))
    subst w_v3
    refine z_ins1 hM dX6_isNumber_16 tl_RX6_127 rfl (Nat.le_of_ble_eq_true rfl) (Nat.le_of_ble_eq_true rfl) ?_
    refine m_howManyX (by have := ho l (by omega) (by omega); omega) ?_
    have q16_ := numF_rng (σ 31 0 (22 * l + 1))
    refine r_iconst hC dX6_isNumber_19 rfl ?_
    refine r_isubE hC (((numF (σ 31 0 (22 * l + 1))) - 1)) dX6_isNumber_20 (by omega) (by unfold inR; omega) ?_
    refine z_ins3 hM dX6_isNumber_21 tl_RX6_76 rfl (Nat.le_of_ble_eq_true rfl) (Nat.le_of_ble_eq_true rfl) ?_
    refine m_isIn (fun h5 => ?_) (fun h5 => ?_)
    · refine r_if_eq (tgt := 31) hC dX6_isNumber_24 rfl (fun h6 => by omega) (fun h6 => ?_)
      refine r_iconst hC dX6_isNumber_27 rfl ?_
      refine r_goto (tgt := 32) hC dX6_isNumber_28 rfl ?_
      refine y_zret hK rfl dX6_isNumber_32 (by omega) ?_
      exact k1 (by omega)
    · refine r_if_eq (tgt := 31) hC dX6_isNumber_24 rfl (fun h7 => ?_) (fun h7 => by omega)
      refine r_iconst hC dX6_isNumber_31 rfl ?_
      refine y_zret hK rfl dX6_isNumber_32 (by omega) ?_
      exact k0 (by omega)
  · refine r_if_eq (tgt := 31) hC dX6_isNumber_5 rfl (fun h8 => ?_) (fun h8 => by omega)
    refine r_iconst hC dX6_isNumber_31 rfl ?_
    refine y_zret hK rfl dX6_isNumber_32 (by omega) ?_
    exact k0 (by omega)
theorem s_isUsedX {e : Ev} {d : Nat} {P : Option Vl → Mm → Prop} {σ : Mm} {o : Int}   (k1 : (∃ i : Int, 0 ≤ i ∧ i ≤ 6 ∧ σ 7 i 1 = 1 ∧ σ 7 i 2 = o) → P (some (vI 1)) σ) (k0 : ¬ (∃ i : Int, 0 ≤ i ∧ i ≤ 6 ∧ σ 7 i 1 = 1 ∧ σ 7 i 2 = o) → P (some (vI 0)) σ) : WT e (d + 1) 57 [vR 2 0, vI o] σ P := by
  refine WT_in fun K hK => ?_
  have hK : StpY e cX5_isUsed RX5 (some .boolean) (WT e (d + 0)) P K := hK
  have hM := hK.1
  have hC := hK.1.1
  show K 0 [some (vR 2 0), some (vI o), none] [] σ
  refine r_rngz hC (fun g0 => ?_)
  have r_o : -2147483648 ≤ o ∧ o ≤ 2147483647 := inR_le (g0 (vI o) (by simp))
  refine r_iconst hC dX5_isUsed_0 rfl ?_
  refine r_istore_n hC dX5_isUsed_1 rfl ?_
  have L2 : ∀ (n2 : Nat) (w1 : Int), 0 ≤ w1 ∧ w1 ≤ 4 → (∀ j : Int, 0 ≤ j → j < (w1) → ¬ (σ 7 j 1 = 1 ∧ σ 7 j 2 = o)) → 4 - w1 < (n2 : Int) → K 2 [some (vR 2 0), some (vI o), some (vI w1)] [] σ := by
    intro n2
    induction n2 with
    | zero => intro w1  f_w1 i0_2 hm ; omega
    | succ n2 ih2 =>
      intro w1  f_w1 i0_2 hm2 
      refine r_iload_n hC dX5_isUsed_2 rfl ?_
      refine r_iconst hC dX5_isUsed_3 rfl ?_
      refine r_icmp_ge (tgt := 40) hC dX5_isUsed_4 rfl (fun h2 => ?_) (fun h2 => ?_)
      · refine r_iconst hC dX5_isUsed_40 rfl ?_
        refine r_istore_n hC dX5_isUsed_41 rfl ?_
        have L42 : ∀ (n42 : Nat) (w3 : Int), 0 ≤ w3 ∧ w3 ≤ 3 → (∀ j : Int, 0 ≤ j → j < (w3) + 4 → ¬ (σ 7 j 1 = 1 ∧ σ 7 j 2 = o)) → 3 - w3 < (n42 : Int) → K 42 [some (vR 2 0), some (vI o), some (vI w3)] [] σ := by
          intro n42
          induction n42 with
          | zero => intro w3  f_w3 i0_42 hm ; omega
          | succ n42 ih42 =>
            intro w3  f_w3 i0_42 hm42 
            refine r_iload_n hC dX5_isUsed_42 rfl ?_
            refine r_iconst hC dX5_isUsed_43 rfl ?_
            refine r_icmp_ge (tgt := 80) hC dX5_isUsed_44 rfl (fun h4 => ?_) (fun h4 => ?_)
            · refine r_iconst hC dX5_isUsed_80 rfl ?_
              refine y_zret hK rfl dX5_isUsed_81 (by omega) ?_
              exact k0 (by rintro ⟨j, j0, j1, j2⟩; exact i0_42 j j0 (by omega) j2)
            · refine r_aload_n hC dX5_isUsed_47 rfl ?_
              refine z_getR hM dX5_isUsed_48 fl_RX5_27 rfl rfl (vld_of (n := 1) rfl (by omega) (by omega)) ?_
              refine r_iload_n hC dX5_isUsed_51 rfl ?_
              refine z_aald hM dX5_isUsed_52 rfl (by decide) (by omega) (by omega) (vld_of (n := 7) rfl (by omega) (by omega)) ?_
              rw [show rfa 4 w3 = (7, (w3 + 4)) from by simp [rfa]; try omega]
              refine z_getI (jz := 1) hM dX5_isUsed_53 fl_RX5_94 rfl rfl rfl (fun v5 h_v5 o_v5 t_v5 => ?_)
              have w_v5 := t_v5 (Or.inl (by simp [Tb]))
              subst w_v5
              have q_v5 : 0 ≤ (σ 7 (w3 + 4) 1) ∧ (σ 7 (w3 + 4) 1) ≤ 1 := by have := o_v5.2.1 rfl; omega
              refine r_if_eq (tgt := 74) hC dX5_isUsed_56 rfl (fun h6 => ?_) (fun h6 => ?_)
              · refine r_iincE hC ((w3 + 1)) dX5_isUsed_74 rfl rfl (by omega) (by unfold inR; omega) ?_
                refine r_goto (tgt := 42) hC dX5_isUsed_77 rfl ?_
                exact ih42 ((w3 + 1))  (by omega) (by intro j h0 h1; first | exact i0_2 j h0 (by omega) | (rcases (by omega : j < w3 + 4 ∨ j = w3 + 4) with h | h; exact i0_42 j h0 h; subst h; omega)) (by omega) 
              · refine r_aload_n hC dX5_isUsed_59 rfl ?_
                refine z_getR hM dX5_isUsed_60 fl_RX5_27 rfl rfl (vld_of (n := 1) rfl (by omega) (by omega)) ?_
                refine r_iload_n hC dX5_isUsed_63 rfl ?_
                refine z_aald hM dX5_isUsed_64 rfl (by decide) (by omega) (by omega) (vld_of (n := 7) rfl (by omega) (by omega)) ?_
                rw [show rfa 4 w3 = (7, (w3 + 4)) from by simp [rfa]; try omega]
                refine z_getI (jz := 2) hM dX5_isUsed_65 fl_RX5_98 rfl rfl rfl (fun v7 h_v7 o_v7 t_v7 => ?_)
                have w_v7 := t_v7 (Or.inl (by simp [Tb]))
                subst w_v7
                have q_v7 : 0 ≤ (σ 7 (w3 + 4) 2) ∧ (σ 7 (w3 + 4) 2) ≤ 9 := o_v7.2.2 rfl
                refine r_iload_n hC dX5_isUsed_68 rfl ?_
                refine r_icmp_ne (tgt := 74) hC dX5_isUsed_69 rfl (fun h8 => ?_) (fun h8 => ?_)
                · refine r_iincE hC ((w3 + 1)) dX5_isUsed_74 rfl rfl (by omega) (by unfold inR; omega) ?_
                  refine r_goto (tgt := 42) hC dX5_isUsed_77 rfl ?_
                  exact ih42 ((w3 + 1))  (by omega) (by intro j h0 h1; first | exact i0_2 j h0 (by omega) | (rcases (by omega : j < w3 + 4 ∨ j = w3 + 4) with h | h; exact i0_42 j h0 h; subst h; omega)) (by omega) 
                · refine r_iconst hC dX5_isUsed_72 rfl ?_
                  refine y_zret hK rfl dX5_isUsed_73 (by omega) ?_
                  exact k1 ⟨(w3 + 4), by omega, by omega, by omega⟩
        exact L42 5 (0)  (by omega) (by intro j h0 h1; first | exact i0_2 j h0 (by omega) | (rcases (by omega : j < w3 + 4 ∨ j = w3 + 4) with h | h; exact i0_42 j h0 h; subst h; omega)) (by omega) 
      · refine r_aload_n hC dX5_isUsed_7 rfl ?_
        refine z_getR hM dX5_isUsed_8 fl_RX5_13 rfl rfl (vld_of (n := 1) rfl (by omega) (by omega)) ?_
        refine r_iload_n hC dX5_isUsed_11 rfl ?_
        refine z_aald hM dX5_isUsed_12 rfl (by decide) (by omega) (by omega) (vld_of (n := 7) rfl (by omega) (by omega)) ?_
        refine z_getI (jz := 1) hM dX5_isUsed_13 fl_RX5_94 rfl rfl rfl (fun v9 h_v9 o_v9 t_v9 => ?_)
        have w_v9 := t_v9 (Or.inl (by simp [Tb]))
        subst w_v9
        have q_v9 : 0 ≤ (σ 7 w1 1) ∧ (σ 7 w1 1) ≤ 1 := by have := o_v9.2.1 rfl; omega
        refine r_if_eq (tgt := 34) hC dX5_isUsed_16 rfl (fun h10 => ?_) (fun h10 => ?_)
        · refine r_iincE hC ((w1 + 1)) dX5_isUsed_34 rfl rfl (by omega) (by unfold inR; omega) ?_
          refine r_goto (tgt := 2) hC dX5_isUsed_37 rfl ?_
          exact ih2 ((w1 + 1))  (by omega) (by intro j h0 h1; first | omega | (rcases (by omega : j < w1 ∨ j = w1) with h | h; exact i0_2 j h0 h; subst h; omega)) (by omega) 
        · refine r_aload_n hC dX5_isUsed_19 rfl ?_
          refine z_getR hM dX5_isUsed_20 fl_RX5_13 rfl rfl (vld_of (n := 1) rfl (by omega) (by omega)) ?_
          refine r_iload_n hC dX5_isUsed_23 rfl ?_
          refine z_aald hM dX5_isUsed_24 rfl (by decide) (by omega) (by omega) (vld_of (n := 7) rfl (by omega) (by omega)) ?_
          refine z_getI (jz := 2) hM dX5_isUsed_25 fl_RX5_98 rfl rfl rfl (fun v11 h_v11 o_v11 t_v11 => ?_)
          have w_v11 := t_v11 (Or.inl (by simp [Tb]))
          subst w_v11
          have q_v11 : 0 ≤ (σ 7 w1 2) ∧ (σ 7 w1 2) ≤ 9 := o_v11.2.2 rfl
          refine r_iload_n hC dX5_isUsed_28 rfl ?_
          refine r_icmp_ne (tgt := 34) hC dX5_isUsed_29 rfl (fun h12 => ?_) (fun h12 => ?_)
          · refine r_iincE hC ((w1 + 1)) dX5_isUsed_34 rfl rfl (by omega) (by unfold inR; omega) ?_
            refine r_goto (tgt := 2) hC dX5_isUsed_37 rfl ?_
            exact ih2 ((w1 + 1))  (by omega) (by intro j h0 h1; first | omega | (rcases (by omega : j < w1 ∨ j = w1) with h | h; exact i0_2 j h0 h; subst h; omega)) (by omega) 
          · refine r_iconst hC dX5_isUsed_32 rfl ?_
            refine y_zret hK rfl dX5_isUsed_33 (by omega) ?_
            exact k1 ⟨w1, by omega, by omega, by omega⟩
  exact L2 6 (0)  (by omega) (by intro j h0 h1; first | omega | (rcases (by omega : j < w1 ∨ j = w1) with h | h; exact i0_2 j h0 h; subst h; omega)) (by omega) 
theorem m_isUsedX {e : Ev} {d : Nat} {P : Option Vl → Mm → Prop} {σ : Mm} {o : Int}   (k1 : (∃ i : Int, 0 ≤ i ∧ i ≤ 6 ∧ σ 31 0 (22 * i + 0) = 1 ∧ σ 31 0 (22 * i + 1) = o) → P (some (vI 1)) σ) (k0 : ¬ (∃ i : Int, 0 ≤ i ∧ i ≤ 6 ∧ σ 31 0 (22 * i + 0) = 1 ∧ σ 31 0 (22 * i + 1) = o) → P (some (vI 0)) σ) : WT e (d + 2) 142 [vR 30 0, vI o] σ P := by
  refine WT_in fun K hK => ?_
  have hK : StpY e cX6_isUsed RX6 (some .boolean) (WT e (d + 1)) P K := hK
  have hM := hK.1
  have hC := hK.1.1
  show K 0 [some (vR 30 0), some (vI o), none] [] σ
  refine r_rngz hC (fun g0 => ?_)
  have r_o : -2147483648 ≤ o ∧ o ≤ 2147483647 := inR_le (g0 (vI o) (by simp))
  refine r_iconst hC dX6_isUsed_0 rfl ?_
  refine r_istore_n hC dX6_isUsed_1 rfl ?_
  have L2 : ∀ (n2 : Nat) (w1 : Int), 0 ≤ w1 ∧ w1 ≤ 7 → (∀ j : Int, 0 ≤ j → j < (w1) → ¬ (σ 31 0 (22 * j + 0) = 1 ∧ σ 31 0 (22 * j + 1) = o)) → 7 - w1 < (n2 : Int) → K 2 [some (vR 30 0), some (vI o), some (vI w1)] [] σ := by
    intro n2
    induction n2 with
    | zero => intro w1  f_w1 i0_2 hm ; omega
    | succ n2 ih2 =>
      intro w1  f_w1 i0_2 hm2 
      refine r_iload_n hC dX6_isUsed_2 rfl ?_
      refine r_bipush hC dX6_isUsed_3 rfl ?_
      refine r_icmp_ge (tgt := 36) hC dX6_isUsed_5 rfl (fun h2 => ?_) (fun h2 => ?_)
      · refine r_iconst hC dX6_isUsed_36 rfl ?_
        refine y_zret hK rfl dX6_isUsed_37 (by omega) ?_
        exact k0 (by rintro ⟨j, j0, j1, j2⟩; exact i0_2 j j0 (by omega) j2)
      · refine r_aload_n hC dX6_isUsed_8 rfl ?_
        refine r_iload_n hC dX6_isUsed_9 rfl ?_
        refine r_iconst hC dX6_isUsed_10 rfl ?_
        refine z_inv2 hM dX6_isUsed_11 vl_RX6_80 rfl rfl rfl (Nat.le_of_ble_eq_true rfl) (Nat.le_of_ble_eq_true rfl) ?_
        refine m_of (by omega) (by omega) (fun v3 h_v3 h5_v3 h0_v3 t_v3 => ?_)
        have w_v3 := t_v3 (Or.inl (by simp only [Tb]; omega))
        subst w_v3
        have q_v3 := h0_v3 rfl
        refine r_iconst hC dX6_isUsed_14 rfl ?_
        refine r_icmp_ne (tgt := 30) hC dX6_isUsed_15 rfl (fun h4 => ?_) (fun h4 => ?_)
        · refine r_iincE hC ((w1 + 1)) dX6_isUsed_30 rfl rfl (by omega) (by unfold inR; omega) ?_
          refine r_goto (tgt := 2) hC dX6_isUsed_33 rfl ?_
          exact ih2 ((w1 + 1))  (by omega) (by intro j h0 h1; first | omega | (rcases (by omega : j < w1 ∨ j = w1) with h | h; exact i0_2 j h0 h; subst h; omega)) (by omega) 
        · refine r_aload_n hC dX6_isUsed_18 rfl ?_
          refine r_iload_n hC dX6_isUsed_19 rfl ?_
          refine r_iconst hC dX6_isUsed_20 rfl ?_
          refine z_inv2 hM dX6_isUsed_21 vl_RX6_80 rfl rfl rfl (Nat.le_of_ble_eq_true rfl) (Nat.le_of_ble_eq_true rfl) ?_
          refine m_of (by omega) (by omega) (fun v5 h_v5 h5_v5 h0_v5 t_v5 => ?_)
          have w_v5 := t_v5 (Or.inl (by simp only [Tb]; omega))
          subst w_v5
          refine r_iload_n hC dX6_isUsed_24 rfl ?_
          refine r_icmp_ne (tgt := 30) hC dX6_isUsed_25 rfl (fun h6 => ?_) (fun h6 => ?_)
          · refine r_iincE hC ((w1 + 1)) dX6_isUsed_30 rfl rfl (by omega) (by unfold inR; omega) ?_
            refine r_goto (tgt := 2) hC dX6_isUsed_33 rfl ?_
            exact ih2 ((w1 + 1))  (by omega) (by intro j h0 h1; first | omega | (rcases (by omega : j < w1 ∨ j = w1) with h | h; exact i0_2 j h0 h; subst h; omega)) (by omega) 
          · refine r_iconst hC dX6_isUsed_28 rfl ?_
            refine y_zret hK rfl dX6_isUsed_29 (by omega) ?_
            exact k1 ⟨w1, by omega, by omega, by omega⟩
  exact L2 9 (0)  (by omega) (by intro j h0 h1; first | omega | (rcases (by omega : j < w1 ∨ j = w1) with h | h; exact i0_2 j h0 h; subst h; omega)) (by omega) 
theorem s_isLinkedToX {e : Ev} {d : Nat} {P : Option Vl → Mm → Prop} {σ : Mm} {l : Int}   (k1 : (∃ i : Int, 0 ≤ i ∧ i ≤ 3 ∧ σ 13 i 0 = l) → P (some (vI 1)) σ) (k0 : ¬ (∃ i : Int, 0 ≤ i ∧ i ≤ 3 ∧ σ 13 i 0 = l) → P (some (vI 0)) σ) : WT e (d + 1) 107 [vR 2 0, vI l] σ P := by
  refine WT_in fun K hK => ?_
  have hK : StpY e cX5_isLinkedTo RX5 (some .boolean) (WT e (d + 0)) P K := hK
  have hM := hK.1
  have hC := hK.1.1
  show K 0 [some (vR 2 0), some (vI l), none] [] σ
  refine r_rngz hC (fun g0 => ?_)
  have r_l : -2147483648 ≤ l ∧ l ≤ 2147483647 := inR_le (g0 (vI l) (by simp))
  refine r_iconst hC dX5_isLinkedTo_0 rfl ?_
  refine r_istore_n hC dX5_isLinkedTo_1 rfl ?_
  have L2 : ∀ (n2 : Nat) (w1 : Int), 0 ≤ w1 ∧ w1 ≤ 4 → (∀ j : Int, 0 ≤ j → j < (w1) → ¬ (σ 13 j 0 = l)) → 4 - w1 < (n2 : Int) → K 2 [some (vR 2 0), some (vI l), some (vI w1)] [] σ := by
    intro n2
    induction n2 with
    | zero => intro w1  f_w1 i0_2 hm ; omega
    | succ n2 ih2 =>
      intro w1  f_w1 i0_2 hm2 
      refine r_iload_n hC dX5_isLinkedTo_2 rfl ?_
      refine r_iconst hC dX5_isLinkedTo_3 rfl ?_
      refine r_icmp_ge (tgt := 28) hC dX5_isLinkedTo_4 rfl (fun h2 => ?_) (fun h2 => ?_)
      · refine r_iconst hC dX5_isLinkedTo_28 rfl ?_
        refine y_zret hK rfl dX5_isLinkedTo_29 (by omega) ?_
        exact k0 (by rintro ⟨j, j0, j1, j2⟩; exact i0_2 j j0 (by omega) j2)
      · refine r_aload_n hC dX5_isLinkedTo_7 rfl ?_
        refine z_getR hM dX5_isLinkedTo_8 fl_RX5_19 rfl rfl (vld_of (n := 1) rfl (by omega) (by omega)) ?_
        refine r_iload_n hC dX5_isLinkedTo_11 rfl ?_
        refine z_aald hM dX5_isLinkedTo_12 rfl (by decide) (by omega) (by omega) (vld_of (n := 4) rfl (by omega) (by omega)) ?_
        refine z_getI (jz := 0) hM dX5_isLinkedTo_13 fl_RX5_215 rfl rfl rfl (fun v3 h_v3 o_v3 t_v3 => ?_)
        have w_v3 := t_v3 (Or.inl (by simp [Tb]))
        subst w_v3
        refine r_iload_n hC dX5_isLinkedTo_16 rfl ?_
        refine r_icmp_ne (tgt := 22) hC dX5_isLinkedTo_17 rfl (fun h4 => ?_) (fun h4 => ?_)
        · refine r_iincE hC ((w1 + 1)) dX5_isLinkedTo_22 rfl rfl (by omega) (by unfold inR; omega) ?_
          refine r_goto (tgt := 2) hC dX5_isLinkedTo_25 rfl ?_
          exact ih2 ((w1 + 1))  (by omega) (by intro j h0 h1; first | omega | (rcases (by omega : j < w1 ∨ j = w1) with h | h; exact i0_2 j h0 h; subst h; omega)) (by omega) 
        · refine r_iconst hC dX5_isLinkedTo_20 rfl ?_
          refine y_zret hK rfl dX5_isLinkedTo_21 (by omega) ?_
          exact k1 ⟨w1, by omega, by omega, by omega⟩
  exact L2 6 (0)  (by omega) (by intro j h0 h1; first | omega | (rcases (by omega : j < w1 ∨ j = w1) with h | h; exact i0_2 j h0 h; subst h; omega)) (by omega) 
theorem m_isLinkedToX {e : Ev} {d : Nat} {P : Option Vl → Mm → Prop} {σ : Mm} {l : Int}   (k1 : (∃ i : Int, 0 ≤ i ∧ i ≤ 3 ∧ σ 45 0 i = l) → P (some (vI 1)) σ) (k0 : ¬ (∃ i : Int, 0 ≤ i ∧ i ≤ 3 ∧ σ 45 0 i = l) → P (some (vI 0)) σ) : WT e (d + 1) 197 [vR 30 0, vI l] σ P := by
  refine WT_in fun K hK => ?_
  have hK : StpY e cX6_isLinkedTo RX6 (some .boolean) (WT e (d + 0)) P K := hK
  have hM := hK.1
  have hC := hK.1.1
  show K 0 [some (vR 30 0), some (vI l), none] [] σ
  refine r_rngz hC (fun g0 => ?_)
  have r_l : -2147483648 ≤ l ∧ l ≤ 2147483647 := inR_le (g0 (vI l) (by simp))
  refine r_iconst hC dX6_isLinkedTo_0 rfl ?_
  refine r_istore_n hC dX6_isLinkedTo_1 rfl ?_
  have L2 : ∀ (n2 : Nat) (w1 : Int), 0 ≤ w1 ∧ w1 ≤ 4 → (∀ j : Int, 0 ≤ j → j < (w1) → ¬ (σ 45 0 j = l)) → 4 - w1 < (n2 : Int) → K 2 [some (vR 30 0), some (vI l), some (vI w1)] [] σ := by
    intro n2
    induction n2 with
    | zero => intro w1  f_w1 i0_2 hm ; omega
    | succ n2 ih2 =>
      intro w1  f_w1 i0_2 hm2 
      refine r_iload_n hC dX6_isLinkedTo_2 rfl ?_
      refine r_iconst hC dX6_isLinkedTo_3 rfl ?_
      refine r_icmp_ge (tgt := 25) hC dX6_isLinkedTo_4 rfl (fun h2 => ?_) (fun h2 => ?_)
      · refine r_iconst hC dX6_isLinkedTo_25 rfl ?_
        refine y_zret hK rfl dX6_isLinkedTo_26 (by omega) ?_
        exact k0 (by rintro ⟨j, j0, j1, j2⟩; exact i0_2 j j0 (by omega) j2)
      · refine r_aload_n hC dX6_isLinkedTo_7 rfl ?_
        refine z_getR hM dX6_isLinkedTo_8 fl_RX6_52 rfl rfl (vld_of (n := 1) rfl (by omega) (by omega)) ?_
        refine r_iload_n hC dX6_isLinkedTo_11 rfl ?_
        refine z_iald hM dX6_isLinkedTo_12 rfl (by omega) (by omega) (fun v3 h_v3 o_v3 t_v3 => ?_)
        have w_v3 := t_v3 (Or.inl trivial)
        subst w_v3
        have q_v3 : -1 ≤ (σ 45 0 w1) ∧ (σ 45 0 w1) ≤ 3 := o_v3
        refine r_iload_n hC dX6_isLinkedTo_13 rfl ?_
        refine r_icmp_ne (tgt := 19) hC dX6_isLinkedTo_14 rfl (fun h4 => ?_) (fun h4 => ?_)
        · refine r_iincE hC ((w1 + 1)) dX6_isLinkedTo_19 rfl rfl (by omega) (by unfold inR; omega) ?_
          refine r_goto (tgt := 2) hC dX6_isLinkedTo_22 rfl ?_
          exact ih2 ((w1 + 1))  (by omega) (by intro j h0 h1; first | omega | (rcases (by omega : j < w1 ∨ j = w1) with h | h; exact i0_2 j h0 h; subst h; omega)) (by omega) 
        · refine r_iconst hC dX6_isLinkedTo_17 rfl ?_
          refine y_zret hK rfl dX6_isLinkedTo_18 (by omega) ?_
          exact k1 ⟨w1, by omega, by omega, by omega⟩
  exact L2 6 (0)  (by omega) (by intro j h0 h1; first | omega | (rcases (by omega : j < w1 ∨ j = w1) with h | h; exact i0_2 j h0 h; subst h; omega)) (by omega) 
def pr (k : Nat) (σ : Mm) (x y : Int) : Int := σ k 0 (4 * x + y)
def asc (k : Nat) (σ : Mm) (t : Int) : Bool := pr k σ (pr k σ (t / 16) (t / 4 % 4)) (t % 4) == pr k σ (t / 16) (pr k σ (t / 4 % 4) (t % 4))
def cntA (k : Nat) (σ : Mm) : Nat → Int
  | 0 => 0
  | n + 1 => cntA k σ n + (if asc k σ (n : Int) = true then 1 else 0)
def fstA (k : Nat) (σ : Mm) : Nat → Int
  | 0 => -1
  | n + 1 => if fstA k σ n = -1 then (if asc k σ (n : Int) = true then -1 else (n : Int)) else fstA k σ n
theorem asc_yes {k : Nat} {σ : Mm} {t : Int} (h : pr k σ (pr k σ (t / 16) (t / 4 % 4)) (t % 4) = pr k σ (t / 16) (pr k σ (t / 4 % 4) (t % 4))) : asc k σ t = true := by
  unfold asc; rw [h]; exact beq_self_eq_true _
theorem asc_no {k : Nat} {σ : Mm} {t : Int} (h : ¬ pr k σ (pr k σ (t / 16) (t / 4 % 4)) (t % 4) = pr k σ (t / 16) (pr k σ (t / 4 % 4) (t % 4))) : ¬ asc k σ t = true := by
  unfold asc; intro q; exact h (eq_of_beq q)
theorem nat_succ {t : Int} (h : 0 ≤ t) : (t + 1).toNat = t.toNat + 1 := by omega
theorem cntA_yes {k : Nat} {σ : Mm} {t : Int} (h0 : 0 ≤ t) (h : pr k σ (pr k σ (t / 16) (t / 4 % 4)) (t % 4) = pr k σ (t / 16) (pr k σ (t / 4 % 4) (t % 4))) : cntA k σ (t + 1).toNat = cntA k σ t.toNat + 1 := by
  rw [nat_succ h0]
  show cntA k σ t.toNat + (if asc k σ (t.toNat : Int) = true then 1 else 0) = _
  rw [Int.toNat_of_nonneg h0, if_pos (asc_yes h)]
theorem cntA_no {k : Nat} {σ : Mm} {t : Int} (h0 : 0 ≤ t) (h : ¬ pr k σ (pr k σ (t / 16) (t / 4 % 4)) (t % 4) = pr k σ (t / 16) (pr k σ (t / 4 % 4) (t % 4))) : cntA k σ (t + 1).toNat = cntA k σ t.toNat := by
  rw [nat_succ h0]
  show cntA k σ t.toNat + (if asc k σ (t.toNat : Int) = true then 1 else 0) = _
  rw [Int.toNat_of_nonneg h0, if_neg (asc_no h)]
  omega
theorem fstA_yes {k : Nat} {σ : Mm} {t : Int} (h0 : 0 ≤ t) (h : pr k σ (pr k σ (t / 16) (t / 4 % 4)) (t % 4) = pr k σ (t / 16) (pr k σ (t / 4 % 4) (t % 4))) : fstA k σ (t + 1).toNat = fstA k σ t.toNat := by
  rw [nat_succ h0]
  show (if fstA k σ t.toNat = -1 then (if asc k σ (t.toNat : Int) = true then -1 else (t.toNat : Int)) else fstA k σ t.toNat) = _
  rw [Int.toNat_of_nonneg h0, if_pos (asc_yes h)]
  split <;> omega
theorem fstA_new {k : Nat} {σ : Mm} {t : Int} (h0 : 0 ≤ t) (hf : fstA k σ t.toNat = -1) (h : ¬ pr k σ (pr k σ (t / 16) (t / 4 % 4)) (t % 4) = pr k σ (t / 16) (pr k σ (t / 4 % 4) (t % 4))) : fstA k σ (t + 1).toNat = t := by
  rw [nat_succ h0]
  show (if fstA k σ t.toNat = -1 then (if asc k σ (t.toNat : Int) = true then -1 else (t.toNat : Int)) else fstA k σ t.toNat) = _
  rw [Int.toNat_of_nonneg h0, if_pos hf, if_neg (asc_no h)]
theorem fstA_old {k : Nat} {σ : Mm} {t : Int} (h0 : 0 ≤ t) (hf : ¬ fstA k σ t.toNat = -1) : fstA k σ (t + 1).toNat = fstA k σ t.toNat := by
  rw [nat_succ h0]
  show (if fstA k σ t.toNat = -1 then (if asc k σ (t.toNat : Int) = true then -1 else (t.toNat : Int)) else fstA k σ t.toNat) = _
  rw [if_neg hf]
theorem fstA_stay {k : Nat} {σ : Mm} {n m : Nat} {x : Int} (h : fstA k σ n = x) (hx : x ≠ -1) (hm : n ≤ m) : fstA k σ m = x := by
  induction m with
  | zero => rw [show n = 0 from by omega] at h; exact h
  | succ m ih =>
    by_cases e : n = m + 1
    · rw [← e]; exact h
    · have q := ih (by omega)
      show (if fstA k σ m = -1 then _ else fstA k σ m) = x
      rw [if_neg (by omega)]
      exact q
theorem cnt_fst (k : Nat) (σ : Mm) (n : Nat) : cntA k σ n ≤ n ∧ (cntA k σ n = n ↔ fstA k σ n = -1) ∧ -1 ≤ fstA k σ n := by
  induction n with
  | zero => exact ⟨Int.le_refl _, by simp [cntA, fstA], by simp [fstA]⟩
  | succ n ih =>
    obtain ⟨h1, h2, h3⟩ := ih
    have e1 : cntA k σ (n + 1) = cntA k σ n + (if asc k σ (n : Int) = true then 1 else 0) := rfl
    have e2 : fstA k σ (n + 1) = (if fstA k σ n = -1 then (if asc k σ (n : Int) = true then -1 else (n : Int)) else fstA k σ n) := rfl
    rw [e1, e2]
    by_cases ha : asc k σ (n : Int) = true
    · rw [if_pos ha, if_pos ha]
      by_cases hf : fstA k σ n = -1
      · rw [if_pos hf]; have := h2.mpr hf; omega
      · rw [if_neg hf]; have : ¬ cntA k σ n = n := fun q => hf (h2.mp q); omega
    · rw [if_neg ha, if_neg ha]
      by_cases hf : fstA k σ n = -1
      · rw [if_pos hf]; have := h2.mpr hf; omega
      · rw [if_neg hf]; have : ¬ cntA k σ n = n := fun q => hf (h2.mp q); omega
def trpF (k : Nat) (σ : Mm) (w : Int) : Int := if w = 3 then cntA k σ (64 : Int).toNat else if fstA k σ (64 : Int).toNat < 0 ∨ ¬ (0 ≤ w ∧ w ≤ 2) then -1 else if w = 0 then fstA k σ (64 : Int).toNat / 16 else if w = 1 then fstA k σ (64 : Int).toNat / 4 % 4 else fstA k σ (64 : Int).toNat % 4
theorem cntA_eq {k k2 : Nat} {σ ρ : Mm} (h : ∀ j : Int, 0 ≤ j → j < 16 → σ k 0 j = ρ k2 0 j) (hb : ∀ j : Int, 0 ≤ j → j < 16 → 0 ≤ σ k 0 j ∧ σ k 0 j ≤ 3) (t : Int) (h0 : 0 ≤ t) (h1 : t < 64) : asc k σ t = asc k2 ρ t := by
  have e : ∀ x y : Int, 0 ≤ x ∧ x ≤ 3 → 0 ≤ y ∧ y ≤ 3 → pr k σ x y = pr k2 ρ x y ∧ 0 ≤ pr k σ x y ∧ pr k σ x y ≤ 3 := fun x y hx hy => ⟨h _ (by omega) (by omega), hb _ (by omega) (by omega)⟩
  have a := e (t / 16) (t / 4 % 4) (by omega) (by omega)
  have b := e (t / 4 % 4) (t % 4) (by omega) (by omega)
  have c := e (pr k σ (t / 16) (t / 4 % 4)) (t % 4) a.2 (by omega)
  have d := e (t / 16) (pr k σ (t / 4 % 4) (t % 4)) (by omega) b.2
  unfold asc
  rw [c.1, d.1, a.1, b.1]
theorem cnt_eq {k k2 : Nat} {σ ρ : Mm} (h : ∀ j : Int, 0 ≤ j → j < 16 → σ k 0 j = ρ k2 0 j) (hb : ∀ j : Int, 0 ≤ j → j < 16 → 0 ≤ σ k 0 j ∧ σ k 0 j ≤ 3) (n : Nat) (hn : n ≤ 64) : cntA k σ n = cntA k2 ρ n ∧ fstA k σ n = fstA k2 ρ n := by
  induction n with
  | zero => exact ⟨rfl, rfl⟩
  | succ n ih =>
    obtain ⟨i1, i2⟩ := ih (by omega)
    have e := cntA_eq h hb (n : Int) (by omega) (by omega)
    refine ⟨?_, ?_⟩
    · show cntA k σ n + (if asc k σ (n : Int) = true then 1 else 0) = cntA k2 ρ n + (if asc k2 ρ (n : Int) = true then 1 else 0)
      rw [i1, e]
    · show (if fstA k σ n = -1 then (if asc k σ (n : Int) = true then -1 else (n : Int)) else fstA k σ n) = (if fstA k2 ρ n = -1 then (if asc k2 ρ (n : Int) = true then -1 else (n : Int)) else fstA k2 ρ n)
      rw [i2, e]
theorem trp_eq {k k2 : Nat} {σ ρ : Mm} (h : ∀ j : Int, 0 ≤ j → j < 16 → σ k 0 j = ρ k2 0 j) (hb : ∀ j : Int, 0 ≤ j → j < 16 → 0 ≤ σ k 0 j ∧ σ k 0 j ≤ 3) (w : Int) : trpF k σ w = trpF k2 ρ w := by
  have e := cnt_eq h hb (64 : Int).toNat (by decide)
  unfold trpF
  rw [e.1, e.2]
theorem s_productX {e : Ev} {d : Nat} {P : Option Vl → Mm → Prop} {σ : Mm} {x y : Int} (b_x : 0 ≤ x ∧ x ≤ 3) (b_y : 0 ≤ y ∧ y ≤ 3)  (k : 0 ≤ pr 15 σ x y ∧ pr 15 σ x y ≤ 3 → P (some (vI (pr 15 σ x y))) σ) : WT e (d + 1) 51 [vR 2 0, vI x, vI y] σ P := by
  refine WT_in fun K hK => ?_
  have hK : StpY e cX5_product RX5 (some .int) (WT e (d + 0)) P K := hK
  have hM := hK.1
  have hC := hK.1.1
  show K 0 [some (vR 2 0), some (vI x), some (vI y)] [] σ
  refine r_aload_n hC dX5_product_0 rfl ?_
  refine z_getR hM dX5_product_1 fl_RX5_40 rfl rfl (vld_of (n := 1) rfl (by omega) (by omega)) ?_
  refine z_getR hM dX5_product_4 fl_RX5_67 rfl rfl (vld_of (n := 1) rfl (by omega) (by omega)) ?_
  refine r_iconst hC dX5_product_7 rfl ?_
  refine r_iload_n hC dX5_product_8 rfl ?_
  refine r_imulE hC ((4 * x)) dX5_product_9 (by omega) (by unfold inR; omega) ?_
  refine r_iload_n hC dX5_product_10 rfl ?_
  refine r_iaddE hC (((4 * x) + y)) dX5_product_11 (by omega) (by unfold inR; omega) ?_
  refine z_iald hM dX5_product_12 rfl (by omega) (by omega) (fun v1 h_v1 o_v1 t_v1 => ?_)
  have w_v1 := t_v1 (Or.inl trivial)
  subst w_v1
  have q_v1 : 0 ≤ (σ 15 0 ((4 * x) + y)) ∧ (σ 15 0 ((4 * x) + y)) ≤ 3 := o_v1
  refine y_iret hK rfl dX5_product_13 ?_
  exact k (by unfold pr; omega)
theorem m_productX {e : Ev} {d : Nat} {P : Option Vl → Mm → Prop} {σ : Mm} {x y : Int} (b_x : 0 ≤ x ∧ x ≤ 3) (b_y : 0 ≤ y ∧ y ≤ 3)  (k : 0 ≤ pr 35 σ x y ∧ pr 35 σ x y ≤ 3 → P (some (vI (pr 35 σ x y))) σ) : WT e (d + 1) 145 [vR 30 0, vI x, vI y] σ P := by
  refine WT_in fun K hK => ?_
  have hK : StpY e cX6_product RX6 (some .int) (WT e (d + 0)) P K := hK
  have hM := hK.1
  have hC := hK.1.1
  show K 0 [some (vR 30 0), some (vI x), some (vI y)] [] σ
  refine r_aload_n hC dX6_product_0 rfl ?_
  refine z_getR hM dX6_product_1 fl_RX6_22 rfl rfl (vld_of (n := 1) rfl (by omega) (by omega)) ?_
  refine r_iconst hC dX6_product_4 rfl ?_
  refine r_iload_n hC dX6_product_5 rfl ?_
  refine r_imulE hC ((4 * x)) dX6_product_6 (by omega) (by unfold inR; omega) ?_
  refine r_iload_n hC dX6_product_7 rfl ?_
  refine r_iaddE hC (((4 * x) + y)) dX6_product_8 (by omega) (by unfold inR; omega) ?_
  refine z_iald hM dX6_product_9 rfl (by omega) (by omega) (fun v1 h_v1 o_v1 t_v1 => ?_)
  have w_v1 := t_v1 (Or.inl trivial)
  subst w_v1
  have q_v1 : 0 ≤ (σ 35 0 ((4 * x) + y)) ∧ (σ 35 0 ((4 * x) + y)) ≤ 3 := o_v1
  refine y_iret hK rfl dX6_product_10 ?_
  exact k (by unfold pr; omega)
theorem s_associatesX {e : Ev} {d : Nat} {P : Option Vl → Mm → Prop} {σ : Mm} {x y z : Int} (b_x : 0 ≤ x ∧ x ≤ 3) (b_y : 0 ≤ y ∧ y ≤ 3) (b_z : 0 ≤ z ∧ z ≤ 3)  (k1 : (pr 15 σ (pr 15 σ x y) z = pr 15 σ x (pr 15 σ y z)) → P (some (vI 1)) σ) (k0 : ¬ (pr 15 σ (pr 15 σ x y) z = pr 15 σ x (pr 15 σ y z)) → P (some (vI 0)) σ) : WT e (d + 2) 52 [vR 2 0, vI x, vI y, vI z] σ P := by
  refine WT_in fun K hK => ?_
  have hK : StpY e cX5_associates RX5 (some .boolean) (WT e (d + 1)) P K := hK
  have hM := hK.1
  have hC := hK.1.1
  show K 0 [some (vR 2 0), some (vI x), some (vI y), some (vI z)] [] σ
  refine r_aload_n hC dX5_associates_0 rfl ?_
  refine r_aload_n hC dX5_associates_1 rfl ?_
  refine r_iload_n hC dX5_associates_2 rfl ?_
  refine r_iload_n hC dX5_associates_3 rfl ?_
  refine z_inv2 hM dX5_associates_4 vl_RX5_90 rfl rfl rfl (Nat.le_of_ble_eq_true rfl) (Nat.le_of_ble_eq_true rfl) ?_
  refine s_productX (by omega) (by omega) (fun h1 => ?_)
  refine r_iload_n hC dX5_associates_7 rfl ?_
  refine z_inv2 hM dX5_associates_8 vl_RX5_90 rfl rfl rfl (Nat.le_of_ble_eq_true rfl) (Nat.le_of_ble_eq_true rfl) ?_
  refine s_productX (by omega) (by omega) (fun h2 => ?_)
  refine r_aload_n hC dX5_associates_11 rfl ?_
  refine r_iload_n hC dX5_associates_12 rfl ?_
  refine r_aload_n hC dX5_associates_13 rfl ?_
  refine r_iload_n hC dX5_associates_14 rfl ?_
  refine r_iload_n hC dX5_associates_15 rfl ?_
  refine z_inv2 hM dX5_associates_16 vl_RX5_90 rfl rfl rfl (Nat.le_of_ble_eq_true rfl) (Nat.le_of_ble_eq_true rfl) ?_
  refine s_productX (by omega) (by omega) (fun h3 => ?_)
  refine z_inv2 hM dX5_associates_19 vl_RX5_90 rfl rfl rfl (Nat.le_of_ble_eq_true rfl) (Nat.le_of_ble_eq_true rfl) ?_
  refine s_productX (by omega) (by omega) (fun h4 => ?_)
  refine r_icmp_ne (tgt := 29) hC dX5_associates_22 rfl (fun h5 => ?_) (fun h5 => ?_)
  · refine r_iconst hC dX5_associates_29 rfl ?_
    refine y_zret hK rfl dX5_associates_30 (by omega) ?_
    exact k0 (by omega)
  · refine r_iconst hC dX5_associates_25 rfl ?_
    refine r_goto (tgt := 30) hC dX5_associates_26 rfl ?_
    refine y_zret hK rfl dX5_associates_30 (by omega) ?_
    exact k1 (by omega)
theorem m_associatesX {e : Ev} {d : Nat} {P : Option Vl → Mm → Prop} {σ : Mm} {t : Int} (b_t : 0 ≤ t ∧ t ≤ 63)  (k1 : (pr 35 σ (pr 35 σ (t / 16) (t / 4 % 4)) (t % 4) = pr 35 σ (t / 16) (pr 35 σ (t / 4 % 4) (t % 4))) → P (some (vI 1)) σ) (k0 : ¬ (pr 35 σ (pr 35 σ (t / 16) (t / 4 % 4)) (t % 4) = pr 35 σ (t / 16) (pr 35 σ (t / 4 % 4) (t % 4))) → P (some (vI 0)) σ) : WT e (d + 2) 146 [vR 30 0, vI t] σ P := by
  refine WT_in fun K hK => ?_
  have hK : StpY e cX6_associates RX6 (some .boolean) (WT e (d + 1)) P K := hK
  have hM := hK.1
  have hC := hK.1.1
  show K 0 [some (vR 30 0), some (vI t), none, none, none] [] σ
  refine r_iload_n hC dX6_associates_0 rfl ?_
  refine r_bipush hC dX6_associates_1 rfl ?_
  refine r_idivN hC dX6_associates_3 (by omega) (by omega) ?_
  refine r_istore_n hC dX6_associates_4 rfl ?_
  refine r_iload_n hC dX6_associates_5 rfl ?_
  refine r_iconst hC dX6_associates_6 rfl ?_
  refine r_idivN hC dX6_associates_7 (by omega) (by omega) ?_
  refine r_iconst hC dX6_associates_8 rfl ?_
  refine r_iremN hC dX6_associates_9 (by omega) (by omega) ?_
  refine r_istore_n hC dX6_associates_10 rfl ?_
  refine r_iload_n hC dX6_associates_11 rfl ?_
  refine r_iconst hC dX6_associates_12 rfl ?_
  refine r_iremN hC dX6_associates_13 (by omega) (by omega) ?_
  refine r_istore hC dX6_associates_14 rfl ?_
  show K _ [_, _, _, _, _] _ _
  refine r_aload_n hC dX6_associates_16 rfl ?_
  refine r_aload_n hC dX6_associates_17 rfl ?_
  refine r_iload_n hC dX6_associates_18 rfl ?_
  refine r_iload_n hC dX6_associates_19 rfl ?_
  refine z_inv2 hM dX6_associates_20 vl_RX6_88 rfl rfl rfl (Nat.le_of_ble_eq_true rfl) (Nat.le_of_ble_eq_true rfl) ?_
  refine m_productX (by omega) (by omega) (fun h1 => ?_)
  refine r_iload hC dX6_associates_23 rfl ?_
  refine z_inv2 hM dX6_associates_25 vl_RX6_88 rfl rfl rfl (Nat.le_of_ble_eq_true rfl) (Nat.le_of_ble_eq_true rfl) ?_
  refine m_productX (by omega) (by omega) (fun h2 => ?_)
  refine r_aload_n hC dX6_associates_28 rfl ?_
  refine r_iload_n hC dX6_associates_29 rfl ?_
  refine r_aload_n hC dX6_associates_30 rfl ?_
  refine r_iload_n hC dX6_associates_31 rfl ?_
  refine r_iload hC dX6_associates_32 rfl ?_
  refine z_inv2 hM dX6_associates_34 vl_RX6_88 rfl rfl rfl (Nat.le_of_ble_eq_true rfl) (Nat.le_of_ble_eq_true rfl) ?_
  refine m_productX (by omega) (by omega) (fun h3 => ?_)
  refine z_inv2 hM dX6_associates_37 vl_RX6_88 rfl rfl rfl (Nat.le_of_ble_eq_true rfl) (Nat.le_of_ble_eq_true rfl) ?_
  refine m_productX (by omega) (by omega) (fun h4 => ?_)
  refine r_icmp_ne (tgt := 47) hC dX6_associates_40 rfl (fun h5 => ?_) (fun h5 => ?_)
  · refine r_iconst hC dX6_associates_47 rfl ?_
    refine y_zret hK rfl dX6_associates_48 (by omega) ?_
    exact k0 (by omega)
  · refine r_iconst hC dX6_associates_43 rfl ?_
    refine r_goto (tgt := 48) hC dX6_associates_44 rfl ?_
    refine y_zret hK rfl dX6_associates_48 (by omega) ?_
    exact k1 (by omega)
theorem s_tripleX {e : Ev} {d : Nat} {P : Option Vl → Mm → Prop} {σ : Mm} {w : Int}   (k : P (some (vI (trpF 15 σ w))) σ) : WT e (d + 3) 49 [vR 2 0, vI w] σ P := by
  refine WT_in fun K hK => ?_
  have hK : StpY e cX5_triple RX5 (some .int) (WT e (d + 2)) P K := hK
  have hM := hK.1
  have hC := hK.1.1
  show K 0 [some (vR 2 0), some (vI w), none, none, none] [] σ
  refine r_rngz hC (fun g0 => ?_)
  have r_w : -2147483648 ≤ w ∧ w ≤ 2147483647 := inR_le (g0 (vI w) (by simp))
  refine r_iload_n hC dX5_triple_0 rfl ?_
  refine r_iconst hC dX5_triple_1 rfl ?_
  refine r_iconst hC dX5_triple_2 rfl ?_
  refine z_ins3 hM dX5_triple_3 tl_RX5_59 rfl (Nat.le_of_ble_eq_true rfl) (Nat.le_of_ble_eq_true rfl) ?_
  refine s_within (fun h2 => ?_) (fun h2 => ?_)
  · refine r_if_ne (tgt := 11) hC dX5_triple_6 rfl (fun h3 => ?_) (fun h3 => by omega)
    refine r_iconst hC dX5_triple_11 rfl ?_
    refine r_istore_n hC dX5_triple_12 rfl ?_
    refine r_iconst hC dX5_triple_13 rfl ?_
    refine r_istore_n hC dX5_triple_14 rfl ?_
    refine r_iconst hC dX5_triple_15 rfl ?_
    refine r_istore hC dX5_triple_16 rfl ?_
    have L18 : ∀ (n18 : Nat) (w4 w5 w6 : Int), 0 ≤ w4 ∧ w4 ≤ 64 → 0 ≤ w5 ∧ w5 ≤ 64 → -1 ≤ w6 ∧ w6 ≤ 63 → ((w4) = cntA 15 σ ((w5)).toNat) → ((w6) = fstA 15 σ ((w5)).toNat) → ((w4) ≤ (w5)) → 64 - w5 < (n18 : Int) → K 18 [some (vR 2 0), some (vI w), some (vI w6), some (vI w4), some (vI w5)] [] σ := by
      intro n18
      induction n18 with
      | zero => intro w4 w5 w6  f_w4 f_w5 f_w6 i0_18 i1_18 i2_18 hm ; omega
      | succ n18 ih18 =>
        intro w4 w5 w6  f_w4 f_w5 f_w6 i0_18 i1_18 i2_18 hm18 
        refine r_iload hC dX5_triple_18 rfl ?_
        refine r_bipush hC dX5_triple_20 rfl ?_
        refine r_icmp_ge (tgt := 67) hC dX5_triple_22 rfl (fun h7 => ?_) (fun h7 => ?_)
        · refine r_iload_n hC dX5_triple_67 rfl ?_
          refine r_iconst hC dX5_triple_68 rfl ?_
          refine r_icmp_ne (tgt := 74) hC dX5_triple_69 rfl (fun h8 => ?_) (fun h8 => ?_)
          · refine r_iload_n hC dX5_triple_74 rfl ?_
            refine r_iconst hC dX5_triple_75 rfl ?_
            refine r_icmp_ne (tgt := 81) hC dX5_triple_76 rfl (fun h9 => ?_) (fun h9 => ?_)
            · refine r_iload_n hC dX5_triple_81 rfl ?_
              refine r_if_ne (tgt := 92) hC dX5_triple_82 rfl (fun h10 => ?_) (fun h10 => ?_)
              · refine r_iload_n hC dX5_triple_92 rfl ?_
                refine r_iconst hC dX5_triple_93 rfl ?_
                refine r_icmp_ne (tgt := 105) hC dX5_triple_94 rfl (fun h11 => ?_) (fun h11 => ?_)
                · refine r_iload_n hC dX5_triple_105 rfl ?_
                  refine r_iconst hC dX5_triple_106 rfl ?_
                  refine r_iremN hC dX5_triple_107 (by omega) (by omega) ?_
                  refine y_iret hK rfl dX5_triple_108 ?_
                  obtain rfl : w5 = 64 := by omega
                  have e : trpF 15 σ w = (w6 % 4) := by unfold trpF; (repeat' split) <;> omega
                  rw [e] at k
                  exact k
                · refine r_iload_n hC dX5_triple_97 rfl ?_
                  refine r_iconst hC dX5_triple_98 rfl ?_
                  refine r_idivN hC dX5_triple_99 (by omega) (by omega) ?_
                  refine r_iconst hC dX5_triple_100 rfl ?_
                  refine r_iremN hC dX5_triple_101 (by omega) (by omega) ?_
                  refine r_goto (tgt := 108) hC dX5_triple_102 rfl ?_
                  refine y_iret hK rfl dX5_triple_108 ?_
                  obtain rfl : w5 = 64 := by omega
                  have e : trpF 15 σ w = ((w6 / 4) % 4) := by unfold trpF; (repeat' split) <;> omega
                  rw [e] at k
                  exact k
              · refine r_iload_n hC dX5_triple_85 rfl ?_
                refine r_bipush hC dX5_triple_86 rfl ?_
                refine r_idivN hC dX5_triple_88 (by omega) (by omega) ?_
                refine r_goto (tgt := 108) hC dX5_triple_89 rfl ?_
                refine y_iret hK rfl dX5_triple_108 ?_
                obtain rfl : w5 = 64 := by omega
                have e : trpF 15 σ w = (w6 / 16) := by unfold trpF; (repeat' split) <;> omega
                rw [e] at k
                exact k
            · refine r_iconst hC dX5_triple_79 rfl ?_
              refine y_iret hK rfl dX5_triple_80 ?_
              obtain rfl : w5 = 64 := by omega
              have e : trpF 15 σ w = (-1) := by unfold trpF; (repeat' split) <;> omega
              rw [e] at k
              exact k
          · refine r_iload_n hC dX5_triple_72 rfl ?_
            refine y_iret hK rfl dX5_triple_73 ?_
            obtain rfl : w5 = 64 := by omega
            have e : trpF 15 σ w = w4 := by unfold trpF; (repeat' split) <;> omega
            rw [e] at k
            exact k
        · refine r_aload_n hC dX5_triple_25 rfl ?_
          refine r_iload hC dX5_triple_26 rfl ?_
          refine r_bipush hC dX5_triple_28 rfl ?_
          refine r_idivN hC dX5_triple_30 (by omega) (by omega) ?_
          refine r_iload hC dX5_triple_31 rfl ?_
          refine r_iconst hC dX5_triple_33 rfl ?_
          refine r_idivN hC dX5_triple_34 (by omega) (by omega) ?_
          refine r_iconst hC dX5_triple_35 rfl ?_
          refine r_iremN hC dX5_triple_36 (by omega) (by omega) ?_
          refine r_iload hC dX5_triple_37 rfl ?_
          refine r_iconst hC dX5_triple_39 rfl ?_
          refine r_iremN hC dX5_triple_40 (by omega) (by omega) ?_
          refine z_inv3 hM dX5_triple_41 vl_RX5_74 rfl rfl rfl (Nat.le_of_ble_eq_true rfl) (Nat.le_of_ble_eq_true rfl) ?_
          refine s_associatesX (by omega) (by omega) (by omega) (fun h12 => ?_) (fun h12 => ?_)
          · refine r_if_eq (tgt := 53) hC dX5_triple_44 rfl (fun h13 => by omega) (fun h13 => ?_)
            refine r_iincE hC ((w4 + 1)) dX5_triple_47 rfl rfl (by omega) (by unfold inR; omega) ?_
            refine r_goto (tgt := 61) hC dX5_triple_50 rfl ?_
            refine r_iincE hC ((w5 + 1)) dX5_triple_61 rfl rfl (by omega) (by unfold inR; omega) ?_
            refine r_goto (tgt := 18) hC dX5_triple_64 rfl ?_
            exact ih18 ((w4 + 1)) ((w5 + 1)) (w6)  (by omega) (by omega) (by omega) (by first | rfl | (rw [cntA_yes (by omega) (by assumption)]; omega) | (rw [cntA_no (by omega) (by assumption)]; omega)) (by first | rfl | (rw [fstA_yes (by omega) (by assumption)]; omega) | (rw [fstA_new (by omega) (by omega) (by assumption)]) | (rw [fstA_old (by omega) (by omega)]; omega)) (by omega) (by omega) 
          · refine r_if_eq (tgt := 53) hC dX5_triple_44 rfl (fun h14 => ?_) (fun h14 => by omega)
            refine r_iload_n hC dX5_triple_53 rfl ?_
            refine r_iconst hC dX5_triple_54 rfl ?_
            refine r_icmp_ne (tgt := 61) hC dX5_triple_55 rfl (fun h15 => ?_) (fun h15 => ?_)
            · refine r_iincE hC ((w5 + 1)) dX5_triple_61 rfl rfl (by omega) (by unfold inR; omega) ?_
              refine r_goto (tgt := 18) hC dX5_triple_64 rfl ?_
              exact ih18 (w4) ((w5 + 1)) (w6)  (by omega) (by omega) (by omega) (by first | rfl | (rw [cntA_yes (by omega) (by assumption)]; omega) | (rw [cntA_no (by omega) (by assumption)]; omega)) (by first | rfl | (rw [fstA_yes (by omega) (by assumption)]; omega) | (rw [fstA_new (by omega) (by omega) (by assumption)]) | (rw [fstA_old (by omega) (by omega)]; omega)) (by omega) (by omega) 
            · refine r_iload hC dX5_triple_58 rfl ?_
              refine r_istore_n hC dX5_triple_60 rfl ?_
              refine r_iincE hC ((w5 + 1)) dX5_triple_61 rfl rfl (by omega) (by unfold inR; omega) ?_
              refine r_goto (tgt := 18) hC dX5_triple_64 rfl ?_
              exact ih18 (w4) ((w5 + 1)) (w5)  (by omega) (by omega) (by omega) (by first | rfl | (rw [cntA_yes (by omega) (by assumption)]; omega) | (rw [cntA_no (by omega) (by assumption)]; omega)) (by first | rfl | (rw [fstA_yes (by omega) (by assumption)]; omega) | (rw [fstA_new (by omega) (by omega) (by assumption)]) | (rw [fstA_old (by omega) (by omega)]; omega)) (by omega) (by omega) 
    exact L18 66 (0) (0) ((-1))  (by omega) (by omega) (by omega) (by first | rfl | (rw [cntA_yes (by omega) (by assumption)]; omega) | (rw [cntA_no (by omega) (by assumption)]; omega)) (by first | rfl | (rw [fstA_yes (by omega) (by assumption)]; omega) | (rw [fstA_new (by omega) (by omega) (by assumption)]) | (rw [fstA_old (by omega) (by omega)]; omega)) (by omega) (by omega) 
  · refine r_if_ne (tgt := 11) hC dX5_triple_6 rfl (fun h16 => by omega) (fun h16 => ?_)
    refine r_iconst hC dX5_triple_9 rfl ?_
    refine y_iret hK rfl dX5_triple_10 ?_
    have e : trpF 15 σ w = (-1) := by unfold trpF; (repeat' split) <;> omega
    rw [e] at k
    exact k
theorem m_firstThreeX {e : Ev} {d : Nat} {P : Option Vl → Mm → Prop} {σ : Mm}   (k : P (some (vI (fstA 35 σ (64 : Int).toNat))) σ) : WT e (d + 3) 147 [vR 30 0] σ P := by
  refine WT_in fun K hK => ?_
  have hK : StpY e cX6_firstThree RX6 (some .int) (WT e (d + 2)) P K := hK
  have hM := hK.1
  have hC := hK.1.1
  show K 0 [some (vR 30 0), none] [] σ
  refine r_iconst hC dX6_firstThree_0 rfl ?_
  refine r_istore_n hC dX6_firstThree_1 rfl ?_
  have L2 : ∀ (n2 : Nat) (w1 : Int), 0 ≤ w1 ∧ w1 ≤ 64 → (-1 = fstA 35 σ ((w1)).toNat) → 64 - w1 < (n2 : Int) → K 2 [some (vR 30 0), some (vI w1)] [] σ := by
    intro n2
    induction n2 with
    | zero => intro w1  f_w1 i0_2 hm ; omega
    | succ n2 ih2 =>
      intro w1  f_w1 i0_2 hm2 
      refine r_iload_n hC dX6_firstThree_2 rfl ?_
      refine r_bipush hC dX6_firstThree_3 rfl ?_
      refine r_icmp_ge (tgt := 24) hC dX6_firstThree_5 rfl (fun h2 => ?_) (fun h2 => ?_)
      · refine r_iconst hC dX6_firstThree_24 rfl ?_
        refine y_iret hK rfl dX6_firstThree_25 ?_
        obtain rfl : w1 = 64 := by omega
        rw [← i0_2] at k
        exact k
      · refine r_aload_n hC dX6_firstThree_8 rfl ?_
        refine r_iload_n hC dX6_firstThree_9 rfl ?_
        refine z_inv1 hM dX6_firstThree_10 vl_RX6_91 rfl rfl rfl (Nat.le_of_ble_eq_true rfl) (Nat.le_of_ble_eq_true rfl) ?_
        refine m_associatesX (by omega) (fun h3 => ?_) (fun h3 => ?_)
        · refine r_if_ne (tgt := 18) hC dX6_firstThree_13 rfl (fun h4 => ?_) (fun h4 => by omega)
          refine r_iincE hC ((w1 + 1)) dX6_firstThree_18 rfl rfl (by omega) (by unfold inR; omega) ?_
          refine r_goto (tgt := 2) hC dX6_firstThree_21 rfl ?_
          exact ih2 ((w1 + 1))  (by omega) (by first | rfl | (rw [fstA_yes (by omega) (by assumption)]; omega) | (rw [fstA_new (by omega) (by omega) (by assumption)]) | (rw [fstA_old (by omega) (by omega)]; omega)) (by omega) 
        · refine r_if_ne (tgt := 18) hC dX6_firstThree_13 rfl (fun h5 => by omega) (fun h5 => ?_)
          refine r_iload_n hC dX6_firstThree_16 rfl ?_
          refine y_iret hK rfl dX6_firstThree_17 ?_
          have e := fstA_stay (m := (64 : Int).toNat) (fstA_new (k := 35) (σ := σ) (t := w1) (by omega) (by omega) (by assumption)) (by omega) (by omega)
          rw [e] at k
          exact k
  exact L2 66 (0)  (by omega) (by first | rfl | (rw [fstA_yes (by omega) (by assumption)]; omega) | (rw [fstA_new (by omega) (by omega) (by assumption)]) | (rw [fstA_old (by omega) (by omega)]; omega)) (by omega) 
theorem m_countX {e : Ev} {d : Nat} {P : Option Vl → Mm → Prop} {σ : Mm}   (k : P (some (vI (cntA 35 σ (64 : Int).toNat))) σ) : WT e (d + 3) 149 [vR 30 0] σ P := by
  refine WT_in fun K hK => ?_
  have hK : StpY e cX6_countAssociating RX6 (some .int) (WT e (d + 2)) P K := hK
  have hM := hK.1
  have hC := hK.1.1
  show K 0 [some (vR 30 0), none, none] [] σ
  refine r_iconst hC dX6_countAssociating_0 rfl ?_
  refine r_istore_n hC dX6_countAssociating_1 rfl ?_
  refine r_iconst hC dX6_countAssociating_2 rfl ?_
  refine r_istore_n hC dX6_countAssociating_3 rfl ?_
  have L4 : ∀ (n4 : Nat) (w1 w2 : Int), 0 ≤ w1 ∧ w1 ≤ 64 → 0 ≤ w2 ∧ w2 ≤ 64 → ((w1) = cntA 35 σ ((w2)).toNat) → ((w1) ≤ (w2)) → 64 - w2 < (n4 : Int) → K 4 [some (vR 30 0), some (vI w1), some (vI w2)] [] σ := by
    intro n4
    induction n4 with
    | zero => intro w1 w2  f_w1 f_w2 i0_4 i1_4 hm ; omega
    | succ n4 ih4 =>
      intro w1 w2  f_w1 f_w2 i0_4 i1_4 hm4 
      refine r_iload_n hC dX6_countAssociating_4 rfl ?_
      refine r_bipush hC dX6_countAssociating_5 rfl ?_
      refine r_icmp_ge (tgt := 32) hC dX6_countAssociating_7 rfl (fun h3 => ?_) (fun h3 => ?_)
      · refine r_iload_n hC dX6_countAssociating_32 rfl ?_
        refine y_iret hK rfl dX6_countAssociating_33 ?_
        obtain rfl : w2 = 64 := by omega
        rw [← i0_4] at k
        exact k
      · refine r_iload_n hC dX6_countAssociating_10 rfl ?_
        refine r_aload_n hC dX6_countAssociating_11 rfl ?_
        refine r_iload_n hC dX6_countAssociating_12 rfl ?_
        refine z_inv1 hM dX6_countAssociating_13 vl_RX6_91 rfl rfl rfl (Nat.le_of_ble_eq_true rfl) (Nat.le_of_ble_eq_true rfl) ?_
        refine m_associatesX (by omega) (fun h4 => ?_) (fun h4 => ?_)
        · refine r_if_eq (tgt := 23) hC dX6_countAssociating_16 rfl (fun h5 => by omega) (fun h5 => ?_)
          refine r_iconst hC dX6_countAssociating_19 rfl ?_
          refine r_goto (tgt := 24) hC dX6_countAssociating_20 rfl ?_
          refine r_iaddE hC ((w1 + 1)) dX6_countAssociating_24 (by omega) (by unfold inR; omega) ?_
          refine r_istore_n hC dX6_countAssociating_25 rfl ?_
          refine r_iincE hC ((w2 + 1)) dX6_countAssociating_26 rfl rfl (by omega) (by unfold inR; omega) ?_
          refine r_goto (tgt := 4) hC dX6_countAssociating_29 rfl ?_
          exact ih4 ((w1 + 1)) ((w2 + 1))  (by omega) (by omega) (by first | rfl | (rw [cntA_yes (by omega) (by assumption)]; omega) | (rw [cntA_no (by omega) (by assumption)]; omega)) (by omega) (by omega) 
        · refine r_if_eq (tgt := 23) hC dX6_countAssociating_16 rfl (fun h6 => ?_) (fun h6 => by omega)
          refine r_iconst hC dX6_countAssociating_23 rfl ?_
          refine r_iaddE hC (w1) dX6_countAssociating_24 (by omega) (by unfold inR; omega) ?_
          refine r_istore_n hC dX6_countAssociating_25 rfl ?_
          refine r_iincE hC ((w2 + 1)) dX6_countAssociating_26 rfl rfl (by omega) (by unfold inR; omega) ?_
          refine r_goto (tgt := 4) hC dX6_countAssociating_29 rfl ?_
          exact ih4 (w1) ((w2 + 1))  (by omega) (by omega) (by first | rfl | (rw [cntA_yes (by omega) (by assumption)]; omega) | (rw [cntA_no (by omega) (by assumption)]; omega)) (by omega) (by omega) 
  exact L4 66 (0) (0)  (by omega) (by omega) (by first | rfl | (rw [cntA_yes (by omega) (by assumption)]; omega) | (rw [cntA_no (by omega) (by assumption)]; omega)) (by omega) (by omega) 
theorem fst_bd (k : Nat) (σ : Mm) : -1 ≤ fstA k σ (64 : Int).toNat ∧ fstA k σ (64 : Int).toNat ≤ 63 := by
  have h : ∀ n : Nat, -1 ≤ fstA k σ n ∧ (fstA k σ n < n ∨ fstA k σ n = -1) := by
    intro n
    induction n with
    | zero => exact ⟨by simp [fstA], Or.inr rfl⟩
    | succ n ih =>
      show -1 ≤ (if fstA k σ n = -1 then (if asc k σ (n : Int) = true then -1 else (n : Int)) else fstA k σ n) ∧ _
      have e : fstA k σ (n + 1) = (if fstA k σ n = -1 then (if asc k σ (n : Int) = true then -1 else (n : Int)) else fstA k σ n) := rfl
      rw [e]
      split
      · split <;> omega
      · omega
  have := h (64 : Int).toNat
  have e : ((64 : Int).toNat : Int) = 64 := by decide
  omega
theorem m_tripleX {e : Ev} {d : Nat} {P : Option Vl → Mm → Prop} {σ : Mm} {w : Int}   (k : P (some (vI (trpF 35 σ w))) σ) : WT e (d + 4) 148 [vR 30 0, vI w] σ P := by
  refine WT_in fun K hK => ?_
  have hK : StpY e cX6_triple RX6 (some .int) (WT e (d + 3)) P K := hK
  have hM := hK.1
  have hC := hK.1.1
  show K 0 [some (vR 30 0), some (vI w), none] [] σ
  refine r_rngz hC (fun g0 => ?_)
  have r_w : -2147483648 ≤ w ∧ w ≤ 2147483647 := inR_le (g0 (vI w) (by simp))
  refine r_iload_n hC dX6_triple_0 rfl ?_
  refine r_iconst hC dX6_triple_1 rfl ?_
  refine r_icmp_ne (tgt := 10) hC dX6_triple_2 rfl (fun h1 => ?_) (fun h1 => ?_)
  · refine r_aload_n hC dX6_triple_10 rfl ?_
    refine z_inv0 hM dX6_triple_11 vl_RX6_98 rfl rfl rfl (Nat.le_of_ble_eq_true rfl) (Nat.le_of_ble_eq_true rfl) ?_
    refine m_firstThreeX ?_
    have bf := fst_bd 35 σ
    refine r_istore_n hC dX6_triple_14 rfl ?_
    refine r_iload_n hC dX6_triple_15 rfl ?_
    refine r_if_lt (tgt := 28) hC dX6_triple_16 rfl (fun h2 => ?_) (fun h2 => ?_)
    · refine r_iconst hC dX6_triple_28 rfl ?_
      refine y_iret hK rfl dX6_triple_29 ?_
      have e : trpF 35 σ w = (-1) := by unfold trpF; (repeat' split) <;> omega
      rw [e] at k
      exact k
    · refine r_iload_n hC dX6_triple_19 rfl ?_
      refine r_iconst hC dX6_triple_20 rfl ?_
      refine r_iconst hC dX6_triple_21 rfl ?_
      refine z_ins3 hM dX6_triple_22 tl_RX6_76 rfl (Nat.le_of_ble_eq_true rfl) (Nat.le_of_ble_eq_true rfl) ?_
      refine m_isIn (fun h4 => ?_) (fun h4 => ?_)
      · refine r_if_ne (tgt := 30) hC dX6_triple_25 rfl (fun h5 => ?_) (fun h5 => by omega)
        refine r_iload_n hC dX6_triple_30 rfl ?_
        refine r_if_ne (tgt := 41) hC dX6_triple_31 rfl (fun h6 => ?_) (fun h6 => ?_)
        · refine r_iload_n hC dX6_triple_41 rfl ?_
          refine r_iconst hC dX6_triple_42 rfl ?_
          refine r_icmp_ne (tgt := 54) hC dX6_triple_43 rfl (fun h7 => ?_) (fun h7 => ?_)
          · refine r_iload_n hC dX6_triple_54 rfl ?_
            refine r_iconst hC dX6_triple_55 rfl ?_
            refine r_iremN hC dX6_triple_56 (by omega) (by omega) ?_
            refine y_iret hK rfl dX6_triple_57 ?_
            have e : trpF 35 σ w = ((fstA 35 σ (64 : Int).toNat) % 4) := by unfold trpF; (repeat' split) <;> omega
            rw [e] at k
            exact k
          · refine r_iload_n hC dX6_triple_46 rfl ?_
            refine r_iconst hC dX6_triple_47 rfl ?_
            refine r_idivN hC dX6_triple_48 (by omega) (by omega) ?_
            refine r_iconst hC dX6_triple_49 rfl ?_
            refine r_iremN hC dX6_triple_50 (by omega) (by omega) ?_
            refine r_goto (tgt := 57) hC dX6_triple_51 rfl ?_
            refine y_iret hK rfl dX6_triple_57 ?_
            have e : trpF 35 σ w = (((fstA 35 σ (64 : Int).toNat) / 4) % 4) := by unfold trpF; (repeat' split) <;> omega
            rw [e] at k
            exact k
        · refine r_iload_n hC dX6_triple_34 rfl ?_
          refine r_bipush hC dX6_triple_35 rfl ?_
          refine r_idivN hC dX6_triple_37 (by omega) (by omega) ?_
          refine r_goto (tgt := 57) hC dX6_triple_38 rfl ?_
          refine y_iret hK rfl dX6_triple_57 ?_
          have e : trpF 35 σ w = ((fstA 35 σ (64 : Int).toNat) / 16) := by unfold trpF; (repeat' split) <;> omega
          rw [e] at k
          exact k
      · refine r_if_ne (tgt := 30) hC dX6_triple_25 rfl (fun h8 => by omega) (fun h8 => ?_)
        refine r_iconst hC dX6_triple_28 rfl ?_
        refine y_iret hK rfl dX6_triple_29 ?_
        have e : trpF 35 σ w = (-1) := by unfold trpF; (repeat' split) <;> omega
        rw [e] at k
        exact k
  · refine r_aload_n hC dX6_triple_5 rfl ?_
    refine z_inv0 hM dX6_triple_6 vl_RX6_94 rfl rfl rfl (Nat.le_of_ble_eq_true rfl) (Nat.le_of_ble_eq_true rfl) ?_
    refine m_countX ?_
    refine y_iret hK rfl dX6_triple_9 ?_
    have e : trpF 35 σ w = (cntA 35 σ (64 : Int).toNat) := by unfold trpF; (repeat' split) <;> omega
    rw [e] at k
    exact k
