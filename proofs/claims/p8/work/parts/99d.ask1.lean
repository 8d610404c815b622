-- B: the class: what is asked of a LANE
theorem x_event {ec : Bool} {d : Nat} {P : Option Vl → Mm → Prop} {σ : Mm} {l x w : Int}  (hh : ∀ l : Int, 0 ≤ l → l ≤ 3 → 0 ≤ σ 7 l 6 ∧ σ 7 l 6 ≤ 120)  (k : P (some (vI (evR σ l x w))) σ) : WT (true, false, ec) (d + 5) 72 [vR 2 0, vI l, vI x, vI w] σ P := by
  refine WT_in fun K hK => ?_
  have hK : StpY (true, false, ec) cX5_event RX5 (some .int) (WT (true, false, ec) (d + 4)) P K := hK
  have hM := hK.1
  have hC := hK.1.1
  show K 0 [some (vR 2 0), some (vI l), some (vI x), some (vI w), none] [] σ
  refine r_rngz hC (fun g0 => ?_)
  have r_l : -2147483648 ≤ l ∧ l ≤ 2147483647 := inR_le (g0 (vI l) (by simp))
  have r_x : -2147483648 ≤ x ∧ x ≤ 2147483647 := inR_le (g0 (vI x) (by simp))
  have r_w : -2147483648 ≤ w ∧ w ≤ 2147483647 := inR_le (g0 (vI w) (by simp))
  have h6L := hh l
  refine r_aload_n hC dX5_event_0 rfl ?_
  refine r_iload_n hC dX5_event_1 rfl ?_
  refine r_iload_n hC dX5_event_2 rfl ?_
  refine z_inv2 hM dX5_event_3 vl_RX5_171 rfl rfl rfl (Nat.le_of_ble_eq_true rfl) (Nat.le_of_ble_eq_true rfl) ?_
  refine x_laneHolding (fun h1 => ?_) (fun h1 => ?_)
  · refine r_astore hC dX5_event_6 rfl ?_
    refine r_aload hC dX5_event_8 rfl ?_
    refine r_ifnonnullR (tgt := 16) hC dX5_event_10 rfl ?_
    refine r_iload_n hC dX5_event_16 rfl ?_
    rcases (by omega : (w < 0 ∨ 2 < w) ∨ w = 0 ∨ w = 1 ∨ w = 2) with h2 | h2 | h2 | h2
    · refine r_tableOut (tgt := 68) hC dX5_event_17 h2 rfl ?_
      refine r_ldc hC dX5_event_68 co_RX5_175 rfl ?_
      refine y_iret hK rfl dX5_event_70 ?_
      have hR : evR σ l x w = (-2147483648) := by
        unfold evR
        (repeat' split) <;> first | rfl | omega
      rw [hR] at k
      exact k
    · refine r_tableIn (tgt := 44) (off := 27) hC dX5_event_17 (by omega) (by omega) (by rw [h2]; rfl) rfl ?_
      refine r_aload hC dX5_event_44 rfl ?_
      refine z_getR hM dX5_event_46 fl_RX5_198 rfl rfl (vld_of (n := 7) rfl (by omega) (by omega)) ?_
      refine r_iload_n hC dX5_event_49 rfl ?_
      refine z_iald hM dX5_event_50 rfl (by omega) (by omega) (fun v3 h_v3 o_v3 t_v3 => ?_)
      have w_v3 := ((t_v3 (Or.inl (by simp [Tb]))).trans (rfl)).symm
      subst w_v3
      refine y_iret hK rfl dX5_event_51 ?_
      have hR : evR σ l x w = (σ 8 l x) := by
        unfold evR
        (repeat' split) <;> first | rfl | omega
      rw [hR] at k
      exact k
    · refine r_tableIn (tgt := 52) (off := 35) hC dX5_event_17 (by omega) (by omega) (by rw [h2]; rfl) rfl ?_
      refine r_aload hC dX5_event_52 rfl ?_
      refine z_getR hM dX5_event_54 fl_RX5_176 rfl rfl (vld_of (n := 7) rfl (by omega) (by omega)) ?_
      refine r_iload_n hC dX5_event_57 rfl ?_
      refine z_iald hM dX5_event_58 rfl (by omega) (by omega) (fun v4 h_v4 o_v4 t_v4 => ?_)
      have w_v4 := ((t_v4 (Or.inl (by simp [Tb]))).trans (rfl)).symm
      subst w_v4
      have q_v4 : -1000 ≤ (σ 9 l x) ∧ (σ 9 l x) ≤ 1000 := o_v4
      refine y_iret hK rfl dX5_event_59 ?_
      have hR : evR σ l x w = (σ 9 l x) := by
        unfold evR
        (repeat' split) <;> first | rfl | omega
      rw [hR] at k
      exact k
    · refine r_tableIn (tgt := 60) (off := 43) hC dX5_event_17 (by omega) (by omega) (by rw [h2]; rfl) rfl ?_
      refine r_aload hC dX5_event_60 rfl ?_
      refine z_getR hM dX5_event_62 fl_RX5_245 rfl rfl (vld_of (n := 7) rfl (by omega) (by omega)) ?_
      refine r_iload_n hC dX5_event_65 rfl ?_
      refine z_iald hM dX5_event_66 rfl (by omega) (by omega) (fun v5 h_v5 o_v5 t_v5 => ?_)
      have w_v5 := ((t_v5 (Or.inl (by simp [Tb]))).trans (rfl)).symm
      subst w_v5
      refine y_iret hK rfl dX5_event_67 ?_
      have hR : evR σ l x w = (σ 10 l x) := by
        unfold evR
        (repeat' split) <;> first | rfl | omega
      rw [hR] at k
      exact k
  · refine r_astoreN hC dX5_event_6 rfl ?_
    refine r_aloadN hC dX5_event_8 rfl ?_
    refine r_ifnonnullN hC dX5_event_10 ?_
    refine r_ldc hC dX5_event_13 co_RX5_175 rfl ?_
    refine y_iret hK rfl dX5_event_15 ?_
    have hR : evR σ l x w = (-2147483648) := by
      unfold evR
      (repeat' split) <;> first | rfl | omega
    rw [hR] at k
    exact k
theorem x_total {ec : Bool} {d : Nat} {P : Option Vl → Mm → Prop} {σ : Mm} {l w : Int}  (hh : ∀ l : Int, 0 ≤ l → l ≤ 3 → 0 ≤ σ 7 l 6 ∧ σ 7 l 6 ≤ 120)  (k : P (some (vI (ttR σ l w))) σ) : WT (true, false, ec) (d + 6) 73 [vR 2 0, vI l, vI w] σ P := by
  refine WT_in fun K hK => ?_
  have hK : StpY (true, false, ec) cX5_total RX5 (some .int) (WT (true, false, ec) (d + 5)) P K := hK
  have hM := hK.1
  have hC := hK.1.1
  show K 0 [some (vR 2 0), some (vI l), some (vI w), none] [] σ
  refine r_rngz hC (fun g0 => ?_)
  have r_l : -2147483648 ≤ l ∧ l ≤ 2147483647 := inR_le (g0 (vI l) (by simp))
  have r_w : -2147483648 ≤ w ∧ w ≤ 2147483647 := inR_le (g0 (vI w) (by simp))
  have h6L := hh l
  refine r_aload_n hC dX5_total_0 rfl ?_
  refine r_iload_n hC dX5_total_1 rfl ?_
  refine r_iload_n hC dX5_total_2 rfl ?_
  refine z_inv2 hM dX5_total_3 vl_RX5_248 rfl rfl rfl (Nat.le_of_ble_eq_true rfl) (Nat.le_of_ble_eq_true rfl) ?_
  refine x_laneWith (fun h1 => ?_) (fun h1 => ?_)
  · refine r_astore_n hC dX5_total_6 rfl ?_
    refine r_aload_n hC dX5_total_7 rfl ?_
    refine r_ifnonnullR (tgt := 16) hC dX5_total_8 rfl ?_
    refine r_aload_n hC dX5_total_16 rfl ?_
    refine r_aload_n hC dX5_total_17 rfl ?_
    refine r_iconst hC dX5_total_18 rfl ?_
    refine r_aload_n hC dX5_total_19 rfl ?_
    refine z_getI (jz := 6) hM dX5_total_20 fl_RX5_154 rfl rfl rfl (fun v2 h_v2 o_v2 t_v2 => ?_)
    have w_v2 := ((t_v2 (Or.inl (by simp [Tb]))).trans (rfl)).symm
    subst w_v2
    have q_v2 : 0 ≤ (σ 7 l 6) ∧ (σ 7 l 6) ≤ 121 := o_v2.1 rfl
    refine r_iload_n hC dX5_total_23 rfl ?_
    refine z_inv4 hM dX5_total_24 vl_RX5_227 rfl rfl rfl (Nat.le_of_ble_eq_true rfl) (Nat.le_of_ble_eq_true rfl) ?_
    refine x_comesTo (by omega) (by omega) (by omega) ?_
    refine y_iret hK rfl dX5_total_27 ?_
    have hR : ttR σ l w = (cm (σ 16 0) (σ 15 0) (σ 7 l 2) (fun j => σ 9 l (0 + j)) ((σ 7 l 6) - 0).toNat w) := by
      unfold ttR
      first | exact if_neg (by omega) | exact if_pos (by omega)
    rw [hR] at k
    exact k
  · refine r_astoreN_n hC dX5_total_6 rfl ?_
    refine r_aloadN_n hC dX5_total_7 rfl ?_
    refine r_ifnonnullN hC dX5_total_8 ?_
    refine r_ldc hC dX5_total_11 co_RX5_175 rfl ?_
    refine r_goto (tgt := 27) hC dX5_total_13 rfl ?_
    refine y_iret hK rfl dX5_total_27 ?_
    have hR : ttR σ l w = (-2147483648) := by
      unfold ttR
      first | exact if_neg (by omega) | exact if_pos (by omega)
    rw [hR] at k
    exact k
theorem x_law {ec : Bool} {d : Nat} {P : Option Vl → Mm → Prop} {σ : Mm} {l h w : Int}  (hh : ∀ l : Int, 0 ≤ l → l ≤ 3 → 0 ≤ σ 7 l 6 ∧ σ 7 l 6 ≤ 120)  (k : P (some (vI (laR σ l h w))) σ) : WT (true, false, ec) (d + 7) 85 [vR 2 0, vI l, vI h, vI w] σ P := by
  refine WT_in fun K hK => ?_
  have hK : StpY (true, false, ec) cX5_law RX5 (some .int) (WT (true, false, ec) (d + 6)) P K := hK
  have hM := hK.1
  have hC := hK.1.1
  show K 0 [some (vR 2 0), some (vI l), some (vI h), some (vI w)] [] σ
  refine r_rngz hC (fun g0 => ?_)
  have r_l : -2147483648 ≤ l ∧ l ≤ 2147483647 := inR_le (g0 (vI l) (by simp))
  have r_h : -2147483648 ≤ h ∧ h ≤ 2147483647 := inR_le (g0 (vI h) (by simp))
  have r_w : -2147483648 ≤ w ∧ w ≤ 2147483647 := inR_le (g0 (vI w) (by simp))
  refine r_iload_n hC dX5_law_0 rfl ?_
  refine r_iconst hC dX5_law_1 rfl ?_
  refine r_iconst hC dX5_law_2 rfl ?_
  refine z_ins3 hM dX5_law_3 tl_RX5_59 rfl (Nat.le_of_ble_eq_true rfl) (Nat.le_of_ble_eq_true rfl) ?_
  refine s_within (fun h2 => ?_) (fun h2 => ?_)
  · refine r_if_eq (tgt := 18) hC dX5_law_6 rfl (fun h3 => by omega) (fun h3 => ?_)
    refine r_aload_n hC dX5_law_9 rfl ?_
    refine r_iload_n hC dX5_law_10 rfl ?_
    refine r_iload_n hC dX5_law_11 rfl ?_
    refine z_inv2 hM dX5_law_12 vl_RX5_281 rfl rfl rfl (Nat.le_of_ble_eq_true rfl) (Nat.le_of_ble_eq_true rfl) ?_
    refine x_total hh ?_
    refine r_goto (tgt := 20) hC dX5_law_15 rfl ?_
    refine y_iret hK rfl dX5_law_20 ?_
    have hR : laR σ l h w = (ttR σ l w) := by
      unfold laR
      first | exact if_neg (by omega) | exact if_pos (by omega)
    rw [hR] at k
    exact k
  · refine r_if_eq (tgt := 18) hC dX5_law_6 rfl (fun h4 => ?_) (fun h4 => by omega)
    refine r_ldc hC dX5_law_18 co_RX5_175 rfl ?_
    refine y_iret hK rfl dX5_law_20 ?_
    have hR : laR σ l h w = (-2147483648) := by
      unfold laR
      first | exact if_neg (by omega) | exact if_pos (by omega)
    rw [hR] at k
    exact k
theorem x_part {ec : Bool} {d : Nat} {P : Option Vl → Mm → Prop} {σ : Mm} {l f z w : Int}  (hh : ∀ l : Int, 0 ≤ l → l ≤ 3 → 0 ≤ σ 7 l 6 ∧ σ 7 l 6 ≤ 120)  (k : P (some (vI (ptR σ l f z w))) σ) : WT (true, false, ec) (d + 6) 74 [vR 2 0, vI l, vI f, vI z, vI w] σ P := by
  refine WT_in fun K hK => ?_
  have hK : StpY (true, false, ec) cX5_part RX5 (some .int) (WT (true, false, ec) (d + 5)) P K := hK
  have hM := hK.1
  have hC := hK.1.1
  show K 0 [some (vR 2 0), some (vI l), some (vI f), some (vI z), some (vI w), none] [] σ
  refine r_rngz hC (fun g0 => ?_)
  have r_l : -2147483648 ≤ l ∧ l ≤ 2147483647 := inR_le (g0 (vI l) (by simp))
  have r_f : -2147483648 ≤ f ∧ f ≤ 2147483647 := inR_le (g0 (vI f) (by simp))
  have r_z : -2147483648 ≤ z ∧ z ≤ 2147483647 := inR_le (g0 (vI z) (by simp))
  have r_w : -2147483648 ≤ w ∧ w ≤ 2147483647 := inR_le (g0 (vI w) (by simp))
  have h6L := hh l
  refine r_aload_n hC dX5_part_0 rfl ?_
  refine r_iload_n hC dX5_part_1 rfl ?_
  refine r_iload hC dX5_part_2 rfl ?_
  refine z_inv2 hM dX5_part_4 vl_RX5_248 rfl rfl rfl (Nat.le_of_ble_eq_true rfl) (Nat.le_of_ble_eq_true rfl) ?_
  refine x_laneWith (fun h1 => ?_) (fun h1 => ?_)
  · refine r_astore hC dX5_part_7 rfl ?_
    refine r_aload hC dX5_part_9 rfl ?_
    refine r_ifnullR hC dX5_part_11 ?_
    refine r_iload_n hC dX5_part_14 rfl ?_
    refine r_if_lt (tgt := 32) hC dX5_part_15 rfl (fun h2 => ?_) (fun h2 => ?_)
    · refine r_ldc hC dX5_part_32 co_RX5_175 rfl ?_
      refine y_iret hK rfl dX5_part_34 ?_
      have hR : ptR σ l f z w = (-2147483648) := by
        unfold ptR
        first | exact if_neg (by omega) | exact if_pos (by omega)
      rw [hR] at k
      exact k
    · refine r_iload_n hC dX5_part_18 rfl ?_
      refine r_iload_n hC dX5_part_19 rfl ?_
      refine r_icmp_lt (tgt := 32) hC dX5_part_20 rfl (fun h3 => ?_) (fun h3 => ?_)
      · refine r_ldc hC dX5_part_32 co_RX5_175 rfl ?_
        refine y_iret hK rfl dX5_part_34 ?_
        have hR : ptR σ l f z w = (-2147483648) := by
          unfold ptR
          first | exact if_neg (by omega) | exact if_pos (by omega)
        rw [hR] at k
        exact k
      · refine r_iload_n hC dX5_part_23 rfl ?_
        refine r_aload hC dX5_part_24 rfl ?_
        refine z_getI (jz := 6) hM dX5_part_26 fl_RX5_154 rfl rfl rfl (fun v4 h_v4 o_v4 t_v4 => ?_)
        have w_v4 := ((t_v4 (Or.inl (by simp [Tb]))).trans (rfl)).symm
        subst w_v4
        have q_v4 : 0 ≤ (σ 7 l 6) ∧ (σ 7 l 6) ≤ 121 := o_v4.1 rfl
        refine r_icmp_lt (tgt := 35) hC dX5_part_29 rfl (fun h5 => ?_) (fun h5 => ?_)
        · refine r_aload_n hC dX5_part_35 rfl ?_
          refine r_aload hC dX5_part_36 rfl ?_
          refine r_iload_n hC dX5_part_38 rfl ?_
          refine r_iload_n hC dX5_part_39 rfl ?_
          refine r_iconst hC dX5_part_40 rfl ?_
          refine r_iaddE hC ((z + 1)) dX5_part_41 (by omega) (by unfold inR; omega) ?_
          refine r_iload hC dX5_part_42 rfl ?_
          refine z_inv4 hM dX5_part_44 vl_RX5_227 rfl rfl rfl (Nat.le_of_ble_eq_true rfl) (Nat.le_of_ble_eq_true rfl) ?_
          refine x_comesTo (by omega) (by omega) (by omega) ?_
          refine y_iret hK rfl dX5_part_47 ?_
          have hR : ptR σ l f z w = (cm (σ 16 0) (σ 15 0) (σ 7 l 2) (fun j => σ 9 l (f + j)) ((z + 1) - f).toNat w) := by
            unfold ptR
            first | exact if_neg (by omega) | exact if_pos (by omega)
          rw [hR] at k
          exact k
        · refine r_ldc hC dX5_part_32 co_RX5_175 rfl ?_
          refine y_iret hK rfl dX5_part_34 ?_
          have hR : ptR σ l f z w = (-2147483648) := by
            unfold ptR
            first | exact if_neg (by omega) | exact if_pos (by omega)
          rw [hR] at k
          exact k
  · refine r_astoreN hC dX5_part_7 rfl ?_
    refine r_aloadN hC dX5_part_9 rfl ?_
    refine r_ifnullN (tgt := 32) hC dX5_part_11 rfl ?_
    refine r_ldc hC dX5_part_32 co_RX5_175 rfl ?_
    refine y_iret hK rfl dX5_part_34 ?_
    have hR : ptR σ l f z w = (-2147483648) := by
      unfold ptR
      first | exact if_neg (by omega) | exact if_pos (by omega)
    rw [hR] at k
    exact k
theorem wl_id {a : Int} (h : -9223372036854775808 ≤ a ∧ a ≤ 9223372036854775807) : wl a = a := by
  unfold wl
  exact Int64.toInt_ofInt_of_le h.1 (by have := h.2; omega)
theorem x_during {ec : Bool} {d : Nat} {P : Option Vl → Mm → Prop} {σ : Mm} {l f z w : Int}  (hh : ∀ l : Int, 0 ≤ l → l ≤ 3 → 0 ≤ σ 7 l 6 ∧ σ 7 l 6 ≤ 120)  (k : P (some (vI (duR σ l f z w))) σ) : WT (true, false, ec) (d + 6) 75 [vR 2 0, vI l, vI f, vI z, vI w] σ P := by
  refine WT_in fun K hK => ?_
  have hK : StpY (true, false, ec) cX5_during RX5 (some .int) (WT (true, false, ec) (d + 5)) P K := hK
  have hM := hK.1
  have hC := hK.1.1
  show K 0 [some (vR 2 0), some (vI l), some (vI f), some (vI z), some (vI w), none] [] σ
  refine r_rngz hC (fun g0 => ?_)
  have r_l : -2147483648 ≤ l ∧ l ≤ 2147483647 := inR_le (g0 (vI l) (by simp))
  have r_f : -2147483648 ≤ f ∧ f ≤ 2147483647 := inR_le (g0 (vI f) (by simp))
  have r_z : -2147483648 ≤ z ∧ z ≤ 2147483647 := inR_le (g0 (vI z) (by simp))
  have r_w : -2147483648 ≤ w ∧ w ≤ 2147483647 := inR_le (g0 (vI w) (by simp))
  have ewl : wl (f - 1) = f - 1 := wl_id (by omega)
  have h6L := hh l
  refine r_aload_n hC dX5_during_0 rfl ?_
  refine r_iload_n hC dX5_during_1 rfl ?_
  refine r_iload hC dX5_during_2 rfl ?_
  refine z_inv2 hM dX5_during_4 vl_RX5_248 rfl rfl rfl (Nat.le_of_ble_eq_true rfl) (Nat.le_of_ble_eq_true rfl) ?_
  refine x_laneWith (fun h1 => ?_) (fun h1 => ?_)
  · refine r_astore hC dX5_during_7 rfl ?_
    refine r_aload hC dX5_during_9 rfl ?_
    refine r_ifnonnullR (tgt := 19) hC dX5_during_11 rfl ?_
    refine r_aload_n hC dX5_during_19 rfl ?_
    refine r_aload hC dX5_during_20 rfl ?_
    refine r_aload hC dX5_during_22 rfl ?_
    refine r_iload_n hC dX5_during_24 rfl ?_
    refine r_i2l hC dX5_during_25 ?_
    refine r_lconst hC dX5_during_26 (a := 1) rfl ?_
    refine r_lsub hC dX5_during_27 ?_
    refine z_inv1 hM dX5_during_28 vl_RX5_167 rfl rfl rfl (Nat.le_of_ble_eq_true rfl) (Nat.le_of_ble_eq_true rfl) ?_
    refine x_heldUntil (by omega) (fun h2 => ?_)
    rw [ewl] at h2 ⊢
    refine r_aload hC dX5_during_31 rfl ?_
    refine r_iload_n hC dX5_during_33 rfl ?_
    refine r_i2l hC dX5_during_34 ?_
    refine z_inv1 hM dX5_during_35 vl_RX5_167 rfl rfl rfl (Nat.le_of_ble_eq_true rfl) (Nat.le_of_ble_eq_true rfl) ?_
    refine x_heldUntil (by omega) (fun h3 => ?_)
    refine r_iload hC dX5_during_38 rfl ?_
    refine z_inv4 hM dX5_during_40 vl_RX5_227 rfl rfl rfl (Nat.le_of_ble_eq_true rfl) (Nat.le_of_ble_eq_true rfl) ?_
    refine x_comesTo (by omega) (by omega) (by omega) ?_
    refine y_iret hK rfl dX5_during_43 ?_
    have hR : duR σ l f z w = (cm (σ 16 0) (σ 15 0) (σ 7 l 2) (fun j => σ 9 l ((hU σ l (f - 1)) + j)) ((hU σ l z) - (hU σ l (f - 1))).toNat w) := by
      unfold duR
      first | exact if_neg (by omega) | exact if_pos (by omega)
    rw [hR] at k
    exact k
  · refine r_astoreN hC dX5_during_7 rfl ?_
    refine r_aloadN hC dX5_during_9 rfl ?_
    refine r_ifnonnullN hC dX5_during_11 ?_
    refine r_ldc hC dX5_during_14 co_RX5_175 rfl ?_
    refine r_goto (tgt := 43) hC dX5_during_16 rfl ?_
    refine y_iret hK rfl dX5_during_43 ?_
    have hR : duR σ l f z w = (-2147483648) := by
      unfold duR
      first | exact if_neg (by omega) | exact if_pos (by omega)
    rw [hR] at k
    exact k
theorem x_many {ec : Bool} {d : Nat} {P : Option Vl → Mm → Prop} {σ : Mm} {l f z : Int}  (hh : ∀ l : Int, 0 ≤ l → l ≤ 3 → 0 ≤ σ 7 l 6 ∧ σ 7 l 6 ≤ 120)  (k : P (some (vI (mnR σ l f z))) σ) : WT (true, false, ec) (d + 4) 76 [vR 2 0, vI l, vI f, vI z] σ P := by
  refine WT_in fun K hK => ?_
  have hK : StpY (true, false, ec) cX5_many RX5 (some .int) (WT (true, false, ec) (d + 3)) P K := hK
  have hM := hK.1
  have hC := hK.1.1
  show K 0 [some (vR 2 0), some (vI l), some (vI f), some (vI z), none] [] σ
  refine r_rngz hC (fun g0 => ?_)
  have r_l : -2147483648 ≤ l ∧ l ≤ 2147483647 := inR_le (g0 (vI l) (by simp))
  have r_f : -2147483648 ≤ f ∧ f ≤ 2147483647 := inR_le (g0 (vI f) (by simp))
  have r_z : -2147483648 ≤ z ∧ z ≤ 2147483647 := inR_le (g0 (vI z) (by simp))
  have ewl : wl (f - 1) = f - 1 := wl_id (by omega)
  have h6L := hh l
  refine r_aload_n hC dX5_many_0 rfl ?_
  refine r_iload_n hC dX5_many_1 rfl ?_
  refine z_inv1 hM dX5_many_2 vl_RX5_123 rfl rfl rfl (Nat.le_of_ble_eq_true rfl) (Nat.le_of_ble_eq_true rfl) ?_
  refine x_openLane (fun h1 => ?_) (fun h1 => ?_)
  · -- h1
    refine r_astore hC dX5_many_5 rfl ?_
    refine r_aload hC dX5_many_7 rfl ?_
    refine r_ifnonnullR (tgt := 16) hC dX5_many_9 rfl ?_
    refine r_iconst hC dX5_many_16 rfl ?_
    refine r_aload hC dX5_many_17 rfl ?_
    refine r_iload_n hC dX5_many_19 rfl ?_
    refine r_i2l hC dX5_many_20 ?_
    refine z_inv1 hM dX5_many_21 vl_RX5_167 rfl rfl rfl (Nat.le_of_ble_eq_true rfl) (Nat.le_of_ble_eq_true rfl) ?_
    refine x_heldUntil (by omega) (fun h2 => ?_)
    refine r_aload hC dX5_many_24 rfl ?_
    refine r_iload_n hC dX5_many_26 rfl ?_
    refine r_i2l hC dX5_many_27 ?_
    refine r_lconst hC dX5_many_28 (a := 1) rfl ?_
    refine r_lsub hC dX5_many_29 ?_
    refine z_inv1 hM dX5_many_30 vl_RX5_167 rfl rfl rfl (Nat.le_of_ble_eq_true rfl) (Nat.le_of_ble_eq_true rfl) ?_
    refine x_heldUntil (by omega) (fun h3 => ?_)
    rw [ewl] at h3 ⊢
    refine r_isubE hC (((hU σ l z) - (hU σ l (f - 1)))) dX5_many_33 (by omega) (by unfold inR; omega) ?_
    refine z_ins2 hM dX5_many_34 tl_RX5_239 rfl (Nat.le_of_ble_eq_true rfl) (Nat.le_of_ble_eq_true rfl) ?_
    refine x_maxE ?_
    refine y_iret hK rfl dX5_many_37 ?_
    have hR : mnR σ l f z = (max 0 ((hU σ l z) - (hU σ l (f - 1)))) := by
      unfold mnR
      first | exact if_neg (by omega) | exact if_pos (by omega)
    rw [hR] at k
    exact k
  · -- h1
    refine r_astoreN hC dX5_many_5 rfl ?_
    refine r_aloadN hC dX5_many_7 rfl ?_
    refine r_ifnonnullN hC dX5_many_9 ?_
    refine r_iconst hC dX5_many_12 rfl ?_
    refine r_goto (tgt := 37) hC dX5_many_13 rfl ?_
    refine y_iret hK rfl dX5_many_37 ?_
    have hR : mnR σ l f z = (-1) := by
      unfold mnR
      first | exact if_neg (by omega) | exact if_pos (by omega)
    rw [hR] at k
    exact k
def x_FtoldF (V : Mm) (i w : Int) : Int := if w = 0 then V 11 i 0 else if w = 1 then V 11 i 1 else if w = 2 then V 11 i 2 else if w = 3 then V 11 i 3 else if w = 4 then V 11 i 4 else if w = 5 then V 11 i 5 else if w = 6 then V 11 i 6 else -1
theorem x_Ftold {e : Ev} {d : Nat} {P : Option Vl → Mm → Prop} {σ : Mm} {i w : Int} (b_i : 0 ≤ i ∧ i ≤ 7)  (k : P (some (vI (x_FtoldF σ i w))) σ) : WT e (d + 1) 7 [vR 11 i, vI w] σ P := by
  refine WT_in fun K hK => ?_
  have hK : StpY e cX0_told RX0 (some .int) (WT e (d + 0)) P K := hK
  have hM := hK.1
  have hC := hK.1.1
  show K 0 [some (vR 11 i), some (vI w)] [] σ
  refine r_rngz hC (fun g0 => ?_)
  have r_w : -2147483648 ≤ w ∧ w ≤ 2147483647 := inR_le (g0 (vI w) (by simp))
  refine r_iload_n hC dX0_told_0 rfl ?_
  rcases (by omega : (w < 0 ∨ 6 < w) ∨ w = 0 ∨ w = 1 ∨ w = 2 ∨ w = 3 ∨ w = 4 ∨ w = 5 ∨ w = 6) with h1 | h1 | h1 | h1 | h1 | h1 | h1 | h1
  · refine r_tableOut (tgt := 79) hC dX0_told_1 h1 rfl ?_
    refine r_iconst hC dX0_told_79 rfl ?_
    refine y_iret hK rfl dX0_told_80 ?_
    have hR : x_FtoldF σ i w = (-1) := by
      unfold x_FtoldF
      (repeat' split) <;> first | rfl | omega
    rw [hR] at k
    exact k
  · refine r_tableIn (tgt := 44) (off := 43) hC dX0_told_1 (by omega) (by omega) (by rw [h1]; rfl) rfl ?_
    refine r_aload_n hC dX0_told_44 rfl ?_
    refine z_getI (jz := 0) hM dX0_told_45 fl_RX0_9 rfl rfl rfl (fun v2 h_v2 o_v2 t_v2 => ?_)
    have w_v2 := ((t_v2 (Or.inl (by simp [Tb]))).trans (rfl)).symm
    subst w_v2
    refine y_iret hK rfl dX0_told_48 ?_
    have hR : x_FtoldF σ i w = (σ 11 i 0) := by
      unfold x_FtoldF
      (repeat' split) <;> first | rfl | omega
    rw [hR] at k
    exact k
  · refine r_tableIn (tgt := 49) (off := 48) hC dX0_told_1 (by omega) (by omega) (by rw [h1]; rfl) rfl ?_
    refine r_aload_n hC dX0_told_49 rfl ?_
    refine z_getI (jz := 1) hM dX0_told_50 fl_RX0_15 rfl rfl rfl (fun v3 h_v3 o_v3 t_v3 => ?_)
    have w_v3 := ((t_v3 (Or.inl (by simp [Tb]))).trans (rfl)).symm
    subst w_v3
    refine y_iret hK rfl dX0_told_53 ?_
    have hR : x_FtoldF σ i w = (σ 11 i 1) := by
      unfold x_FtoldF
      (repeat' split) <;> first | rfl | omega
    rw [hR] at k
    exact k
  · refine r_tableIn (tgt := 54) (off := 53) hC dX0_told_1 (by omega) (by omega) (by rw [h1]; rfl) rfl ?_
    refine r_aload_n hC dX0_told_54 rfl ?_
    refine z_getI (jz := 2) hM dX0_told_55 fl_RX0_18 rfl rfl rfl (fun v4 h_v4 o_v4 t_v4 => ?_)
    have w_v4 := ((t_v4 (Or.inl (by simp [Tb]))).trans (rfl)).symm
    subst w_v4
    refine y_iret hK rfl dX0_told_58 ?_
    have hR : x_FtoldF σ i w = (σ 11 i 2) := by
      unfold x_FtoldF
      (repeat' split) <;> first | rfl | omega
    rw [hR] at k
    exact k
  · refine r_tableIn (tgt := 59) (off := 58) hC dX0_told_1 (by omega) (by omega) (by rw [h1]; rfl) rfl ?_
    refine r_aload_n hC dX0_told_59 rfl ?_
    refine z_getI (jz := 3) hM dX0_told_60 fl_RX0_21 rfl rfl rfl (fun v5 h_v5 o_v5 t_v5 => ?_)
    have w_v5 := ((t_v5 (Or.inl (by simp [Tb]))).trans (rfl)).symm
    subst w_v5
    refine y_iret hK rfl dX0_told_63 ?_
    have hR : x_FtoldF σ i w = (σ 11 i 3) := by
      unfold x_FtoldF
      (repeat' split) <;> first | rfl | omega
    rw [hR] at k
    exact k
  · refine r_tableIn (tgt := 64) (off := 63) hC dX0_told_1 (by omega) (by omega) (by rw [h1]; rfl) rfl ?_
    refine r_aload_n hC dX0_told_64 rfl ?_
    refine z_getI (jz := 4) hM dX0_told_65 fl_RX0_24 rfl rfl rfl (fun v6 h_v6 o_v6 t_v6 => ?_)
    have w_v6 := ((t_v6 (Or.inl (by simp [Tb]))).trans (rfl)).symm
    subst w_v6
    refine y_iret hK rfl dX0_told_68 ?_
    have hR : x_FtoldF σ i w = (σ 11 i 4) := by
      unfold x_FtoldF
      (repeat' split) <;> first | rfl | omega
    rw [hR] at k
    exact k
  · refine r_tableIn (tgt := 69) (off := 68) hC dX0_told_1 (by omega) (by omega) (by rw [h1]; rfl) rfl ?_
    refine r_aload_n hC dX0_told_69 rfl ?_
    refine z_getI (jz := 5) hM dX0_told_70 fl_RX0_27 rfl rfl rfl (fun v7 h_v7 o_v7 t_v7 => ?_)
    have w_v7 := ((t_v7 (Or.inl (by simp [Tb]))).trans (rfl)).symm
    subst w_v7
    refine y_iret hK rfl dX0_told_73 ?_
    have hR : x_FtoldF σ i w = (σ 11 i 5) := by
      unfold x_FtoldF
      (repeat' split) <;> first | rfl | omega
    rw [hR] at k
    exact k
  · refine r_tableIn (tgt := 74) (off := 73) hC dX0_told_1 (by omega) (by omega) (by rw [h1]; rfl) rfl ?_
    refine r_aload_n hC dX0_told_74 rfl ?_
    refine z_getI (jz := 6) hM dX0_told_75 fl_RX0_30 rfl rfl rfl (fun v8 h_v8 o_v8 t_v8 => ?_)
    have w_v8 := ((t_v8 (Or.inl (by simp [Tb]))).trans (rfl)).symm
    subst w_v8
    refine y_iret hK rfl dX0_told_78 ?_
    have hR : x_FtoldF σ i w = (σ 11 i 6) := by
      unfold x_FtoldF
      (repeat' split) <;> first | rfl | omega
    rw [hR] at k
    exact k
def x_KtoldF (V : Mm) (i w : Int) : Int := if w = 0 then V 13 i 0 else if w = 1 then V 13 i 1 else if w = 2 then V 13 i 2 else if w = 3 then V 13 i 3 else -1
theorem x_Ktold {e : Ev} {d : Nat} {P : Option Vl → Mm → Prop} {σ : Mm} {i w : Int} (b_i : 0 ≤ i ∧ i ≤ 3)  (k : P (some (vI (x_KtoldF σ i w))) σ) : WT e (d + 1) 41 [vR 13 i, vI w] σ P := by
  refine WT_in fun K hK => ?_
  have hK : StpY e cX3_told RX3 (some .int) (WT e (d + 0)) P K := hK
  have hM := hK.1
  have hC := hK.1.1
  show K 0 [some (vR 13 i), some (vI w)] [] σ
  refine r_rngz hC (fun g0 => ?_)
  have r_w : -2147483648 ≤ w ∧ w ≤ 2147483647 := inR_le (g0 (vI w) (by simp))
  refine r_iload_n hC dX3_told_0 rfl ?_
  rcases (by omega : (w < 0 ∨ 3 < w) ∨ w = 0 ∨ w = 1 ∨ w = 2 ∨ w = 3) with h1 | h1 | h1 | h1 | h1
  · refine r_tableOut (tgt := 52) hC dX3_told_1 h1 rfl ?_
    refine r_iconst hC dX3_told_52 rfl ?_
    refine y_iret hK rfl dX3_told_53 ?_
    have hR : x_KtoldF σ i w = (-1) := by
      unfold x_KtoldF
      (repeat' split) <;> first | rfl | omega
    rw [hR] at k
    exact k
  · refine r_tableIn (tgt := 32) (off := 31) hC dX3_told_1 (by omega) (by omega) (by rw [h1]; rfl) rfl ?_
    refine r_aload_n hC dX3_told_32 rfl ?_
    refine z_getI (jz := 0) hM dX3_told_33 fl_RX3_9 rfl rfl rfl (fun v2 h_v2 o_v2 t_v2 => ?_)
    have w_v2 := ((t_v2 (Or.inl (by simp [Tb]))).trans (rfl)).symm
    subst w_v2
    refine y_iret hK rfl dX3_told_36 ?_
    have hR : x_KtoldF σ i w = (σ 13 i 0) := by
      unfold x_KtoldF
      (repeat' split) <;> first | rfl | omega
    rw [hR] at k
    exact k
  · refine r_tableIn (tgt := 37) (off := 36) hC dX3_told_1 (by omega) (by omega) (by rw [h1]; rfl) rfl ?_
    refine r_aload_n hC dX3_told_37 rfl ?_
    refine z_getI (jz := 1) hM dX3_told_38 fl_RX3_15 rfl rfl rfl (fun v3 h_v3 o_v3 t_v3 => ?_)
    have w_v3 := ((t_v3 (Or.inl (by simp [Tb]))).trans (rfl)).symm
    subst w_v3
    refine y_iret hK rfl dX3_told_41 ?_
    have hR : x_KtoldF σ i w = (σ 13 i 1) := by
      unfold x_KtoldF
      (repeat' split) <;> first | rfl | omega
    rw [hR] at k
    exact k
  · refine r_tableIn (tgt := 42) (off := 41) hC dX3_told_1 (by omega) (by omega) (by rw [h1]; rfl) rfl ?_
    refine r_aload_n hC dX3_told_42 rfl ?_
    refine z_getI (jz := 2) hM dX3_told_43 fl_RX3_18 rfl rfl rfl (fun v4 h_v4 o_v4 t_v4 => ?_)
    have w_v4 := ((t_v4 (Or.inl (by simp [Tb]))).trans (rfl)).symm
    subst w_v4
    refine y_iret hK rfl dX3_told_46 ?_
    have hR : x_KtoldF σ i w = (σ 13 i 2) := by
      unfold x_KtoldF
      (repeat' split) <;> first | rfl | omega
    rw [hR] at k
    exact k
  · refine r_tableIn (tgt := 47) (off := 46) hC dX3_told_1 (by omega) (by omega) (by rw [h1]; rfl) rfl ?_
    refine r_aload_n hC dX3_told_47 rfl ?_
    refine z_getI (jz := 3) hM dX3_told_48 fl_RX3_21 rfl rfl rfl (fun v5 h_v5 o_v5 t_v5 => ?_)
    have w_v5 := ((t_v5 (Or.inl (by simp [Tb]))).trans (rfl)).symm
    subst w_v5
    refine y_iret hK rfl dX3_told_51 ?_
    have hR : x_KtoldF σ i w = (σ 13 i 3) := by
      unfold x_KtoldF
      (repeat' split) <;> first | rfl | omega
    rw [hR] at k
    exact k
theorem x_state {ec : Bool} {d : Nat} {P : Option Vl → Mm → Prop} {σ : Mm} {l w : Int}   (k : P (some (vI (stR σ l w))) σ) : WT (true, false, ec) (d + 4) 94 [vR 2 0, vI l, vI w] σ P := by
  refine WT_in fun K hK => ?_
  have hK : StpY (true, false, ec) cX5_state RX5 (some .int) (WT (true, false, ec) (d + 3)) P K := hK
  have hM := hK.1
  have hC := hK.1.1
  show K 0 [some (vR 2 0), some (vI l), some (vI w), none] [] σ
  refine r_rngz hC (fun g0 => ?_)
  have r_l : -2147483648 ≤ l ∧ l ≤ 2147483647 := inR_le (g0 (vI l) (by simp))
  have r_w : -2147483648 ≤ w ∧ w ≤ 2147483647 := inR_le (g0 (vI w) (by simp))
  refine r_aload_n hC dX5_state_0 rfl ?_
  refine r_iload_n hC dX5_state_1 rfl ?_
  refine z_inv1 hM dX5_state_2 vl_RX5_123 rfl rfl rfl (Nat.le_of_ble_eq_true rfl) (Nat.le_of_ble_eq_true rfl) ?_
  refine x_openLane (fun h1 => ?_) (fun h1 => ?_)
  · -- h1
    refine r_astore_n hC dX5_state_5 rfl ?_
    refine r_aload_n hC dX5_state_6 rfl ?_
    refine r_ifnonnullR (tgt := 14) hC dX5_state_7 rfl ?_
    refine r_aload_n hC dX5_state_14 rfl ?_
    refine z_getR hM dX5_state_15 fl_RX5_189 rfl rfl (vld_of (n := 8) rfl (by omega) (by omega)) ?_
    refine r_iload_n hC dX5_state_18 rfl ?_
    refine z_inv1 hM dX5_state_19 vl_RX5_288 rfl rfl rfl (Nat.le_of_ble_eq_true rfl) (Nat.le_of_ble_eq_true rfl) ?_
    refine x_Ftold (by omega) ?_
    refine y_iret hK rfl dX5_state_22 ?_
    have hR : stR σ l w = (x_FtoldF σ l w) := by
      unfold stR
      first | exact if_neg (by omega) | exact if_pos (by omega)
    rw [hR] at k
    exact k
  · -- h1
    refine r_astoreN_n hC dX5_state_5 rfl ?_
    refine r_aloadN_n hC dX5_state_6 rfl ?_
    refine r_ifnonnullN hC dX5_state_7 ?_
    refine r_iconst hC dX5_state_10 rfl ?_
    refine r_goto (tgt := 22) hC dX5_state_11 rfl ?_
    refine y_iret hK rfl dX5_state_22 ?_
    have hR : stR σ l w = (-1) := by
      unfold stR
      first | exact if_neg (by omega) | exact if_pos (by omega)
    rw [hR] at k
    exact k
theorem x_soon {ec : Bool} {d : Nat} {P : Option Vl → Mm → Prop} {σ : Mm} {l w : Int}  (hF : ∀ l : Int, 0 ≤ l → l ≤ 3 → (0 ≤ σ 11 l 0 ∧ σ 11 l 0 ≤ 121) ∧ (0 ≤ σ 11 l 1 ∧ σ 11 l 1 ≤ 121) ∧ (0 ≤ σ 11 l 2 ∧ σ 11 l 2 ≤ 121) ∧ 0 ≤ σ 11 l 3 ∧ σ 11 l 3 ≤ 242)  (k : P (some (vI (soR σ l w))) σ) : WT (true, false, ec) (d + 4) 95 [vR 2 0, vI l, vI w] σ P := by
  refine WT_in fun K hK => ?_
  have hK : StpY (true, false, ec) cX5_soon RX5 (some .int) (WT (true, false, ec) (d + 3)) P K := hK
  have hM := hK.1
  have hC := hK.1.1
  show K 0 [some (vR 2 0), some (vI l), some (vI w), none, none] [] σ
  refine r_rngz hC (fun g0 => ?_)
  have r_l : -2147483648 ≤ l ∧ l ≤ 2147483647 := inR_le (g0 (vI l) (by simp))
  have r_w : -2147483648 ≤ w ∧ w ≤ 2147483647 := inR_le (g0 (vI w) (by simp))
  have hFl := hF l
  refine r_aload_n hC dX5_soon_0 rfl ?_
  refine r_iload_n hC dX5_soon_1 rfl ?_
  refine z_inv1 hM dX5_soon_2 vl_RX5_123 rfl rfl rfl (Nat.le_of_ble_eq_true rfl) (Nat.le_of_ble_eq_true rfl) ?_
  refine x_openLane (fun h1 => ?_) (fun h1 => ?_)
  · -- h1
    refine r_astore_n hC dX5_soon_5 rfl ?_
    refine r_aload_n hC dX5_soon_6 rfl ?_
    refine r_ifnullR hC dX5_soon_7 ?_
    refine r_iload_n hC dX5_soon_10 rfl ?_
    refine r_iconst hC dX5_soon_11 rfl ?_
    refine r_iconst hC dX5_soon_12 rfl ?_
    refine z_ins3 hM dX5_soon_13 tl_RX5_59 rfl (Nat.le_of_ble_eq_true rfl) (Nat.le_of_ble_eq_true rfl) ?_
    refine s_within (fun h3 => ?_) (fun h3 => ?_)
    · refine r_if_ne (tgt := 21) hC dX5_soon_16 rfl (fun h4 => ?_) (fun h4 => by omega)
      refine r_aload_n hC dX5_soon_21 rfl ?_
      refine z_getR hM dX5_soon_22 fl_RX5_189 rfl rfl (vld_of (n := 8) rfl (by omega) (by omega)) ?_
      refine r_astore hC dX5_soon_25 rfl ?_
      refine r_iload_n hC dX5_soon_27 rfl ?_
      refine r_if_ne (tgt := 57) hC dX5_soon_28 rfl (fun h5 => ?_) (fun h5 => ?_)
      · refine r_aload hC dX5_soon_57 rfl ?_
        refine z_getI (jz := 3) hM dX5_soon_59 fl_RX5_291 rfl rfl rfl (fun v6 h_v6 o_v6 t_v6 => ?_)
        have w_v6 := ((t_v6 (Or.inl (by simp [Tb]))).trans (rfl)).symm
        subst w_v6
        refine r_if_le (tgt := 79) hC dX5_soon_62 rfl (fun h7 => ?_) (fun h7 => ?_)
        · refine r_iconst hC dX5_soon_79 rfl ?_
          refine y_iret hK rfl dX5_soon_80 ?_
          have hR : soR σ l w = (-1) := by
            unfold soR
            (repeat' split) <;> first | rfl | omega
          rw [hR] at k
          exact k
        · refine r_aload hC dX5_soon_65 rfl ?_
          refine z_getI (jz := 3) hM dX5_soon_67 fl_RX5_291 rfl rfl rfl (fun v8 h_v8 o_v8 t_v8 => ?_)
          have w_v8 := ((t_v8 (Or.inl (by simp [Tb]))).trans (rfl)).symm
          subst w_v8
          refine r_iconst hC dX5_soon_70 rfl ?_
          refine r_iaddE hC (((σ 11 l 3) + 3)) dX5_soon_71 (by omega) (by unfold inR; omega) ?_
          refine r_iconst hC dX5_soon_72 rfl ?_
          refine r_isubE hC (((σ 11 l 3) + 2)) dX5_soon_73 (by omega) (by unfold inR; omega) ?_
          refine r_iconst hC dX5_soon_74 rfl ?_
          refine r_idivN hC dX5_soon_75 (by omega) (by omega) ?_
          refine r_goto (tgt := 80) hC dX5_soon_76 rfl ?_
          refine y_iret hK rfl dX5_soon_80 ?_
          have hR : soR σ l w = (((σ 11 l 3) + 2) / 3) := by
            unfold soR
            (repeat' split) <;> first | rfl | omega
          rw [hR] at k
          exact k
      · refine r_aload hC dX5_soon_31 rfl ?_
        refine z_getI (jz := 3) hM dX5_soon_33 fl_RX5_291 rfl rfl rfl (fun v9 h_v9 o_v9 t_v9 => ?_)
        have w_v9 := ((t_v9 (Or.inl (by simp [Tb]))).trans (rfl)).symm
        subst w_v9
        refine r_if_le (tgt := 43) hC dX5_soon_36 rfl (fun h10 => ?_) (fun h10 => ?_)
        · refine r_aload hC dX5_soon_43 rfl ?_
          refine z_getI (jz := 0) hM dX5_soon_45 fl_RX5_294 rfl rfl rfl (fun v11 h_v11 o_v11 t_v11 => ?_)
          have w_v11 := ((t_v11 (Or.inl (by simp [Tb]))).trans (rfl)).symm
          subst w_v11
          refine r_iconst hC dX5_soon_48 rfl ?_
          refine r_iaddE hC (((σ 11 l 0) + 1)) dX5_soon_49 (by omega) (by unfold inR; omega) ?_
          refine r_aload hC dX5_soon_50 rfl ?_
          refine z_getI (jz := 2) hM dX5_soon_52 fl_RX5_297 rfl rfl rfl (fun v12 h_v12 o_v12 t_v12 => ?_)
          have w_v12 := ((t_v12 (Or.inl (by simp [Tb]))).trans (rfl)).symm
          subst w_v12
          refine r_isubE hC ((((σ 11 l 0) + 1) - (σ 11 l 2))) dX5_soon_55 (by omega) (by unfold inR; omega) ?_
          refine y_iret hK rfl dX5_soon_56 ?_
          have hR : soR σ l w = (((σ 11 l 0) + 1) - (σ 11 l 2)) := by
            unfold soR
            (repeat' split) <;> first | rfl | omega
          rw [hR] at k
          exact k
        · refine r_iconst hC dX5_soon_39 rfl ?_
          refine r_goto (tgt := 56) hC dX5_soon_40 rfl ?_
          refine y_iret hK rfl dX5_soon_56 ?_
          have hR : soR σ l w = (-1) := by
            unfold soR
            (repeat' split) <;> first | rfl | omega
          rw [hR] at k
          exact k
    · refine r_if_ne (tgt := 21) hC dX5_soon_16 rfl (fun h13 => by omega) (fun h13 => ?_)
      refine r_iconst hC dX5_soon_19 rfl ?_
      refine y_iret hK rfl dX5_soon_20 ?_
      have hR : soR σ l w = (-1) := by
        unfold soR
        (repeat' split) <;> first | rfl | omega
      rw [hR] at k
      exact k
  · -- h1
    refine r_astoreN_n hC dX5_soon_5 rfl ?_
    refine r_aloadN_n hC dX5_soon_6 rfl ?_
    refine r_ifnullN (tgt := 19) hC dX5_soon_7 rfl ?_
    refine r_iconst hC dX5_soon_19 rfl ?_
    refine y_iret hK rfl dX5_soon_20 ?_
    have hR : soR σ l w = (-1) := by
      unfold soR
      (repeat' split) <;> first | rfl | omega
    rw [hR] at k
    exact k
theorem x_linked {ec : Bool} {d : Nat} {P : Option Vl → Mm → Prop} {σ : Mm} {l w : Int}   (k : P (some (vI (lkR σ l w))) σ) : WT (true, false, ec) (d + 3) 106 [vR 2 0, vI l, vI w] σ P := by
  refine WT_in fun K hK => ?_
  have hK : StpY (true, false, ec) cX5_linked RX5 (some .int) (WT (true, false, ec) (d + 2)) P K := hK
  have hM := hK.1
  have hC := hK.1.1
  show K 0 [some (vR 2 0), some (vI l), some (vI w)] [] σ
  refine r_rngz hC (fun g0 => ?_)
  have r_l : -2147483648 ≤ l ∧ l ≤ 2147483647 := inR_le (g0 (vI l) (by simp))
  have r_w : -2147483648 ≤ w ∧ w ≤ 2147483647 := inR_le (g0 (vI w) (by simp))
  refine r_iload_n hC dX5_linked_0 rfl ?_
  refine z_ins1 hM dX5_linked_1 tl_RX5_102 rfl (Nat.le_of_ble_eq_true rfl) (Nat.le_of_ble_eq_true rfl) ?_
  refine s_isLane (fun h2 => ?_) (fun h2 => ?_)
  · refine r_if_eq (tgt := 33) hC dX5_linked_4 rfl (fun h3 => by omega) (fun h3 => ?_)
    refine r_aload_n hC dX5_linked_7 rfl ?_
    refine z_getR hM dX5_linked_8 fl_RX5_19 rfl rfl (vld_of (n := 1) rfl (by omega) (by omega)) ?_
    refine r_iload_n hC dX5_linked_11 rfl ?_
    refine z_aald hM dX5_linked_12 rfl (by decide) (by omega) (by omega) (vld_of (n := 4) rfl (by omega) (by omega)) ?_
    refine z_getI (jz := 0) hM dX5_linked_13 fl_RX5_215 rfl rfl rfl (fun v4 h_v4 o_v4 t_v4 => ?_)
    have w_v4 := ((t_v4 (Or.inl (by simp [Tb]))).trans (rfl)).symm
    subst w_v4
    refine r_iconst hC dX5_linked_16 rfl ?_
    refine r_icmp_eq (tgt := 33) hC dX5_linked_17 rfl (fun h5 => ?_) (fun h5 => ?_)
    · refine r_iconst hC dX5_linked_33 rfl ?_
      refine y_iret hK rfl dX5_linked_34 ?_
      have hR : lkR σ l w = (-1) := by
        unfold lkR
        first | exact if_neg (by omega) | exact if_pos (by omega)
      rw [hR] at k
      exact k
    · refine r_aload_n hC dX5_linked_20 rfl ?_
      refine z_getR hM dX5_linked_21 fl_RX5_19 rfl rfl (vld_of (n := 1) rfl (by omega) (by omega)) ?_
      refine r_iload_n hC dX5_linked_24 rfl ?_
      refine z_aald hM dX5_linked_25 rfl (by decide) (by omega) (by omega) (vld_of (n := 4) rfl (by omega) (by omega)) ?_
      refine r_iload_n hC dX5_linked_26 rfl ?_
      refine z_inv1 hM dX5_linked_27 vl_RX5_343 rfl rfl rfl (Nat.le_of_ble_eq_true rfl) (Nat.le_of_ble_eq_true rfl) ?_
      refine x_Ktold (by omega) ?_
      refine r_goto (tgt := 34) hC dX5_linked_30 rfl ?_
      refine y_iret hK rfl dX5_linked_34 ?_
      have hR : lkR σ l w = (x_KtoldF σ l w) := by
        unfold lkR
        first | exact if_neg (by omega) | exact if_pos (by omega)
      rw [hR] at k
      exact k
  · refine r_if_eq (tgt := 33) hC dX5_linked_4 rfl (fun h6 => ?_) (fun h6 => by omega)
    refine r_iconst hC dX5_linked_33 rfl ?_
    refine y_iret hK rfl dX5_linked_34 ?_
    have hR : lkR σ l w = (-1) := by
      unfold lkR
      first | exact if_neg (by omega) | exact if_pos (by omega)
    rw [hR] at k
    exact k
theorem x_isTold {e : Ev} {d : Nat} {P : Option Vl → Mm → Prop} {σ : Mm} {v : Int}   (k1 : (wtd σ v) → P (some (vI 1)) σ) (k0 : ¬ (wtd σ v) → P (some (vI 0)) σ) : WT e (d + 2) 101 [vR 2 0, vI v] σ P := by
  refine WT_in fun K hK => ?_
  have hK : StpY e cX5_isTold RX5 (some .boolean) (WT e (d + 1)) P K := hK
  have hM := hK.1
  have hC := hK.1.1
  show K 0 [some (vR 2 0), some (vI v)] [] σ
  refine r_rngz hC (fun g0 => ?_)
  have r_v : -2147483648 ≤ v ∧ v ≤ 2147483647 := inR_le (g0 (vI v) (by simp))
  refine r_iload_n hC dX5_isTold_0 rfl ?_
  refine r_iconst hC dX5_isTold_1 rfl ?_
  refine r_bipush hC dX5_isTold_2 rfl ?_
  refine z_ins3 hM dX5_isTold_4 tl_RX5_59 rfl (Nat.le_of_ble_eq_true rfl) (Nat.le_of_ble_eq_true rfl) ?_
  refine s_within (fun h2 => ?_) (fun h2 => ?_)
  · refine r_if_eq (tgt := 27) hC dX5_isTold_7 rfl (fun h3 => by omega) (fun h3 => ?_)
    refine r_aload_n hC dX5_isTold_10 rfl ?_
    refine z_getR hM dX5_isTold_11 fl_RX5_32 rfl rfl (vld_of (n := 1) rfl (by omega) (by omega)) ?_
    refine r_iload_n hC dX5_isTold_14 rfl ?_
    refine z_aald hM dX5_isTold_15 rfl (by decide) (by omega) (by omega) (vld_of (n := 8) rfl (by omega) (by omega)) ?_
    refine z_getI (jz := 0) hM dX5_isTold_16 fl_RX5_321 rfl rfl rfl (fun v4 h_v4 o_v4 t_v4 => ?_)
    have w_v4 := ((t_v4 (Or.inl (by simp [Tb]))).trans (rfl)).symm
    subst w_v4
    refine r_iconst hC dX5_isTold_19 rfl ?_
    refine r_icmp_eq (tgt := 27) hC dX5_isTold_20 rfl (fun h5 => ?_) (fun h5 => ?_)
    · refine r_iconst hC dX5_isTold_27 rfl ?_
      refine y_zret hK rfl dX5_isTold_28 (by omega) ?_
      exact k0 (by omega)
    · refine r_iconst hC dX5_isTold_23 rfl ?_
      refine r_goto (tgt := 28) hC dX5_isTold_24 rfl ?_
      refine y_zret hK rfl dX5_isTold_28 (by omega) ?_
      exact k1 (by omega)
  · refine r_if_eq (tgt := 27) hC dX5_isTold_7 rfl (fun h6 => ?_) (fun h6 => by omega)
    refine r_iconst hC dX5_isTold_27 rfl ?_
    refine y_zret hK rfl dX5_isTold_28 (by omega) ?_
    exact k0 (by omega)
theorem x_rings {ec : Bool} {d : Nat} {P : Option Vl → Mm → Prop} {σ : Mm} {v : Int}   (k : P (some (vI (riR σ v))) σ) : WT (true, false, ec) (d + 3) 99 [vR 2 0, vI v] σ P := by
  refine WT_in fun K hK => ?_
  have hK : StpY (true, false, ec) cX5_rings RX5 (some .int) (WT (true, false, ec) (d + 2)) P K := hK
  have hM := hK.1
  have hC := hK.1.1
  show K 0 [some (vR 2 0), some (vI v)] [] σ
  refine r_rngz hC (fun g0 => ?_)
  have r_v : -2147483648 ≤ v ∧ v ≤ 2147483647 := inR_le (g0 (vI v) (by simp))
  refine r_aload_n hC dX5_rings_0 rfl ?_
  refine r_iload_n hC dX5_rings_1 rfl ?_
  refine z_inv1 hM dX5_rings_2 vl_RX5_312 rfl rfl rfl (Nat.le_of_ble_eq_true rfl) (Nat.le_of_ble_eq_true rfl) ?_
  refine x_isTold (fun h1 => ?_) (fun h1 => ?_)
  · refine r_if_eq (tgt := 20) hC dX5_rings_5 rfl (fun h2 => by omega) (fun h2 => ?_)
    refine r_aload_n hC dX5_rings_8 rfl ?_
    refine z_getR hM dX5_rings_9 fl_RX5_32 rfl rfl (vld_of (n := 1) rfl (by omega) (by omega)) ?_
    refine r_iload_n hC dX5_rings_12 rfl ?_
    refine z_aald hM dX5_rings_13 rfl (by decide) (by omega) (by omega) (vld_of (n := 8) rfl (by omega) (by omega)) ?_
    refine z_getI (jz := 4) hM dX5_rings_14 fl_RX5_315 rfl rfl rfl (fun v3 h_v3 o_v3 t_v3 => ?_)
    have w_v3 := ((t_v3 (Or.inl (by simp [Tb]))).trans (rfl)).symm
    subst w_v3
    refine r_goto (tgt := 21) hC dX5_rings_17 rfl ?_
    refine y_iret hK rfl dX5_rings_21 ?_
    have hR : riR σ v = (σ 12 v 4) := by
      unfold riR
      first | exact if_neg (by omega) | exact if_pos (by omega)
    rw [hR] at k
    exact k
  · refine r_if_eq (tgt := 20) hC dX5_rings_5 rfl (fun h4 => ?_) (fun h4 => by omega)
    refine r_iconst hC dX5_rings_20 rfl ?_
    refine y_iret hK rfl dX5_rings_21 ?_
    have hR : riR σ v = (-1) := by
      unfold riR
      first | exact if_neg (by omega) | exact if_pos (by omega)
    rw [hR] at k
    exact k
theorem x_rang {ec : Bool} {d : Nat} {P : Option Vl → Mm → Prop} {σ : Mm} {v : Int}   (k : P (some (vI (raR σ v))) σ) : WT (true, false, ec) (d + 3) 100 [vR 2 0, vI v] σ P := by
  refine WT_in fun K hK => ?_
  have hK : StpY (true, false, ec) cX5_rang RX5 (some .int) (WT (true, false, ec) (d + 2)) P K := hK
  have hM := hK.1
  have hC := hK.1.1
  show K 0 [some (vR 2 0), some (vI v)] [] σ
  refine r_rngz hC (fun g0 => ?_)
  have r_v : -2147483648 ≤ v ∧ v ≤ 2147483647 := inR_le (g0 (vI v) (by simp))
  refine r_aload_n hC dX5_rang_0 rfl ?_
  refine r_iload_n hC dX5_rang_1 rfl ?_
  refine z_inv1 hM dX5_rang_2 vl_RX5_312 rfl rfl rfl (Nat.le_of_ble_eq_true rfl) (Nat.le_of_ble_eq_true rfl) ?_
  refine x_isTold (fun h1 => ?_) (fun h1 => ?_)
  · refine r_if_eq (tgt := 20) hC dX5_rang_5 rfl (fun h2 => by omega) (fun h2 => ?_)
    refine r_aload_n hC dX5_rang_8 rfl ?_
    refine z_getR hM dX5_rang_9 fl_RX5_32 rfl rfl (vld_of (n := 1) rfl (by omega) (by omega)) ?_
    refine r_iload_n hC dX5_rang_12 rfl ?_
    refine z_aald hM dX5_rang_13 rfl (by decide) (by omega) (by omega) (vld_of (n := 8) rfl (by omega) (by omega)) ?_
    refine z_getI (jz := 5) hM dX5_rang_14 fl_RX5_318 rfl rfl rfl (fun v3 h_v3 o_v3 t_v3 => ?_)
    have w_v3 := ((t_v3 (Or.inl (by simp [Tb]))).trans (rfl)).symm
    subst w_v3
    refine r_goto (tgt := 21) hC dX5_rang_17 rfl ?_
    refine y_iret hK rfl dX5_rang_21 ?_
    have hR : raR σ v = (σ 12 v 5) := by
      unfold raR
      first | exact if_neg (by omega) | exact if_pos (by omega)
    rw [hR] at k
    exact k
  · refine r_if_eq (tgt := 20) hC dX5_rang_5 rfl (fun h4 => ?_) (fun h4 => by omega)
    refine r_iconst hC dX5_rang_20 rfl ?_
    refine y_iret hK rfl dX5_rang_21 ?_
    have hR : raR σ v = (-1) := by
      unfold raR
      first | exact if_neg (by omega) | exact if_pos (by omega)
    rw [hR] at k
    exact k
