-- B: the class: what is asked of a LANE
theorem x_event {ec : Bool} {d : Nat} {P : Option Vl → Mm → Prop} {σ : Mm} {l x w : Int}  (hh : ∀ l : Int, 0 ≤ l → l ≤ 3 → 0 ≤ σ 7 l 6 ∧ σ 7 l 6 ≤ 120)  (k : P (some (vI (evR σ l x w))) σ) : WT (true, false, ec) (d + 5) 72 [vR 2 0, vI l, vI x, vI w] σ P := by
  refine WT_in fun K hK => ?_
  have hK : StpY (true, false, ec) cX5_event RX5 (some .int) (WT (true, false, ec) (d + 4)) P K := hK
  have hM := hK.1
  have hC := hK.1.1
  show K 0 [some (vR 2 0), some (vI l), some (vI x), some (vI w), none] [] σ
  refine r_rngz hC (fun g0 => ?_)
  have r_l : -2147483648 ≤ l ∧ l ≤ 2147483647 := inR_le (g0 (vI l) (by simp))
  have r_x : -2147483648 ≤ x ∧ x ≤ 2147483647 := inR_le (g0 (vI x) (by simp))
  have r_w : -2147483648 ≤ w ∧ w ≤ 2147483647 := inR_le (g0 (vI w) (by simp))
  have h6L := hh l
  refine r_aload_n hC dX5_event_0 rfl ?_
  refine r_iload_n hC dX5_event_1 rfl ?_
  refine r_iload_n hC dX5_event_2 rfl ?_
  refine z_inv2 hM dX5_event_3 vl_RX5_171 rfl rfl rfl (Nat.le_of_ble_eq_true rfl) (Nat.le_of_ble_eq_true rfl) ?_
  refine x_laneHolding (fun h1 => ?_) (fun h1 => ?_)
  · refine r_astore hC dX5_event_6 rfl ?_
    refine r_aload hC dX5_event_8 rfl ?_
    refine r_ifnonnullR (tgt := 16) hC dX5_event_10 rfl ?_
    refine r_iload_n hC dX5_event_16 rfl ?_
    rcases (by omega : (w < 0 ∨ 2 < w) ∨ w = 0 ∨ w = 1 ∨ w = 2) with h2 | h2 | h2 | h2
    · refine r_tableOut (tgt := 68) hC dX5_event_17 h2 rfl ?_
      refine r_ldc hC dX5_event_68 co_RX5_175 rfl ?_
      refine y_iret hK rfl dX5_event_70 ?_
      have hR : evR σ l x w = (-2147483648) := by
        unfold evR
        (repeat' split) <;> first | rfl | omega
      rw [hR] at k
      exact k
    · refine r_tableIn (tgt := 44) (off := 27) hC dX5_event_17 (by omega) (by omega) (by rw [h2]; rfl) rfl ?_
      refine r_aload hC dX5_event_44 rfl ?_
      refine z_getR hM dX5_event_46 fl_RX5_198 rfl rfl (vld_of (n := 7) rfl (by omega) (by omega)) ?_
      refine r_iload_n hC dX5_event_49 rfl ?_
      refine z_iald hM dX5_event_50 rfl (by omega) (by omega) (fun v3 h_v3 o_v3 t_v3 => ?_)
      have w_v3 := ((t_v3 (Or.inl (by first | exact trivial | exact tb7_ (by decide) | simp [Tb]))).trans (rfl)).symm
      clear t_v3
      subst w_v3
      refine y_iret hK rfl dX5_event_51 ?_
      have hR : evR σ l x w = (σ 8 l x) := by
        unfold evR
        (repeat' split) <;> first | rfl | omega
      rw [hR] at k
      exact k
    · refine r_tableIn (tgt := 52) (off := 35) hC dX5_event_17 (by omega) (by omega) (by rw [h2]; rfl) rfl ?_
      refine r_aload hC dX5_event_52 rfl ?_
      refine z_getR hM dX5_event_54 fl_RX5_176 rfl rfl (vld_of (n := 7) rfl (by omega) (by omega)) ?_
      refine r_iload_n hC dX5_event_57 rfl ?_
      refine z_iald hM dX5_event_58 rfl (by omega) (by omega) (fun v4 h_v4 o_v4 t_v4 => ?_)
      have w_v4 := ((t_v4 (Or.inl (by first | exact trivial | exact tb7_ (by decide) | simp [Tb]))).trans (rfl)).symm
      clear t_v4
      subst w_v4
      have q_v4 : -1000 ≤ (σ 9 l x) ∧ (σ 9 l x) ≤ 1000 := o_v4
      refine y_iret hK rfl dX5_event_59 ?_
      have hR : evR σ l x w = (σ 9 l x) := by
        unfold evR
        (repeat' split) <;> first | rfl | omega
      rw [hR] at k
      exact k
    · refine r_tableIn (tgt := 60) (off := 43) hC dX5_event_17 (by omega) (by omega) (by rw [h2]; rfl) rfl ?_
      refine r_aload hC dX5_event_60 rfl ?_
      refine z_getR hM dX5_event_62 fl_RX5_245 rfl rfl (vld_of (n := 7) rfl (by omega) (by omega)) ?_
      refine r_iload_n hC dX5_event_65 rfl ?_
      refine z_iald hM dX5_event_66 rfl (by omega) (by omega) (fun v5 h_v5 o_v5 t_v5 => ?_)
      have w_v5 := ((t_v5 (Or.inl (by first | exact trivial | exact tb7_ (by decide) | simp [Tb]))).trans (rfl)).symm
      clear t_v5
      subst w_v5
      refine y_iret hK rfl dX5_event_67 ?_
      have hR : evR σ l x w = (σ 10 l x) := by
        unfold evR
        (repeat' split) <;> first | rfl | omega
      rw [hR] at k
      exact k
  · refine r_astoreN hC dX5_event_6 rfl ?_
    refine r_aloadN hC dX5_event_8 rfl ?_
    refine r_ifnonnullN hC dX5_event_10 ?_
    refine r_ldc hC dX5_event_13 co_RX5_175 rfl ?_
    refine y_iret hK rfl dX5_event_15 ?_
    have hR : evR σ l x w = (-2147483648) := by
      unfold evR
      (repeat' split) <;> first | rfl | omega
    rw [hR] at k
    exact k
theorem x_total {ec : Bool} {d : Nat} {P : Option Vl → Mm → Prop} {σ : Mm} {l w : Int}  (hh : ∀ l : Int, 0 ≤ l → l ≤ 3 → 0 ≤ σ 7 l 6 ∧ σ 7 l 6 ≤ 120)  (k : P (some (vI (ttR σ l w))) σ) : WT (true, false, ec) (d + 6) 73 [vR 2 0, vI l, vI w] σ P := by
  refine WT_in fun K hK => ?_
  have hK : StpY (true, false, ec) cX5_total RX5 (some .int) (WT (true, false, ec) (d + 5)) P K := hK
  have hM := hK.1
  have hC := hK.1.1
  show K 0 [some (vR 2 0), some (vI l), some (vI w), none] [] σ
  refine r_rngz hC (fun g0 => ?_)
  have r_l : -2147483648 ≤ l ∧ l ≤ 2147483647 := inR_le (g0 (vI l) (by simp))
  have r_w : -2147483648 ≤ w ∧ w ≤ 2147483647 := inR_le (g0 (vI w) (by simp))
  have h6L := hh l
  refine r_aload_n hC dX5_total_0 rfl ?_
  refine r_iload_n hC dX5_total_1 rfl ?_
  refine r_iload_n hC dX5_total_2 rfl ?_
  refine z_inv2 hM dX5_total_3 vl_RX5_248 rfl rfl rfl (Nat.le_of_ble_eq_true rfl) (Nat.le_of_ble_eq_true rfl) ?_
  refine x_laneWith (fun h1 => ?_) (fun h1 => ?_)
  · refine r_astore_n hC dX5_total_6 rfl ?_
    refine r_aload_n hC dX5_total_7 rfl ?_
    refine r_ifnonnullR (tgt := 16) hC dX5_total_8 rfl ?_
    refine r_aload_n hC dX5_total_16 rfl ?_
    refine r_aload_n hC dX5_total_17 rfl ?_
    refine r_iconst hC dX5_total_18 rfl ?_
    refine r_aload_n hC dX5_total_19 rfl ?_
    refine z_getI (jz := 6) hM dX5_total_20 fl_RX5_154 rfl rfl rfl (fun v2 h_v2 o_v2 t_v2 => ?_)
    have w_v2 := ((t_v2 (Or.inl (by first | exact trivial | exact tb7_ (by decide) | simp [Tb]))).trans (rfl)).symm
    clear t_v2
    subst w_v2
    have q_v2 : 0 ≤ (σ 7 l 6) ∧ (σ 7 l 6) ≤ 121 := o_v2.1 rfl
    refine r_iload_n hC dX5_total_23 rfl ?_
    refine z_inv4 hM dX5_total_24 vl_RX5_227 rfl rfl rfl (Nat.le_of_ble_eq_true rfl) (Nat.le_of_ble_eq_true rfl) ?_
    refine x_comesTo (by omega) (by omega) (by omega) ?_
    refine y_iret hK rfl dX5_total_27 ?_
    have hR : ttR σ l w = (cm (σ 16 0) (σ 15 0) (σ 7 l 2) (fun j => σ 9 l (0 + j)) ((σ 7 l 6) - 0).toNat w) := by
      unfold ttR
      first | exact if_neg (by omega) | exact if_pos (by omega)
    rw [hR] at k
    exact k
  · refine r_astoreN_n hC dX5_total_6 rfl ?_
    refine r_aloadN_n hC dX5_total_7 rfl ?_
    refine r_ifnonnullN hC dX5_total_8 ?_
    refine r_ldc hC dX5_total_11 co_RX5_175 rfl ?_
    refine r_goto (tgt := 27) hC dX5_total_13 rfl ?_
    refine y_iret hK rfl dX5_total_27 ?_
    have hR : ttR σ l w = (-2147483648) := by
      unfold ttR
      first | exact if_neg (by omega) | exact if_pos (by omega)
    rw [hR] at k
    exact k
theorem x_law {ec : Bool} {d : Nat} {P : Option Vl → Mm → Prop} {σ : Mm} {l h w : Int}  (hh : ∀ l : Int, 0 ≤ l → l ≤ 3 → 0 ≤ σ 7 l 6 ∧ σ 7 l 6 ≤ 120)  (k : P (some (vI (laR σ l h w))) σ) : WT (true, false, ec) (d + 7) 85 [vR 2 0, vI l, vI h, vI w] σ P := by
  refine WT_in fun K hK => ?_
  have hK : StpY (true, false, ec) cX5_law RX5 (some .int) (WT (true, false, ec) (d + 6)) P K := hK
  have hM := hK.1
  have hC := hK.1.1
  show K 0 [some (vR 2 0), some (vI l), some (vI h), some (vI w)] [] σ
  refine r_rngz hC (fun g0 => ?_)
  have r_l : -2147483648 ≤ l ∧ l ≤ 2147483647 := inR_le (g0 (vI l) (by simp))
  have r_h : -2147483648 ≤ h ∧ h ≤ 2147483647 := inR_le (g0 (vI h) (by simp))
  have r_w : -2147483648 ≤ w ∧ w ≤ 2147483647 := inR_le (g0 (vI w) (by simp))
  refine r_iload_n hC dX5_law_0 rfl ?_
  refine r_iconst hC dX5_law_1 rfl ?_
  refine r_iconst hC dX5_law_2 rfl ?_
  refine z_ins3 hM dX5_law_3 tl_RX5_59 rfl (Nat.le_of_ble_eq_true rfl) (Nat.le_of_ble_eq_true rfl) ?_
  refine s_within (fun h2 => ?_) (fun h2 => ?_)
  · refine r_if_eq (tgt := 18) hC dX5_law_6 rfl (fun h3 => by omega) (fun h3 => ?_)
    refine r_aload_n hC dX5_law_9 rfl ?_
    refine r_iload_n hC dX5_law_10 rfl ?_
    refine r_iload_n hC dX5_law_11 rfl ?_
    refine z_inv2 hM dX5_law_12 vl_RX5_281 rfl rfl rfl (Nat.le_of_ble_eq_true rfl) (Nat.le_of_ble_eq_true rfl) ?_
    refine x_total hh ?_
    refine r_goto (tgt := 20) hC dX5_law_15 rfl ?_
    refine y_iret hK rfl dX5_law_20 ?_
    have hR : laR σ l h w = (ttR σ l w) := by
      unfold laR
      first | exact if_neg (by omega) | exact if_pos (by omega)
    rw [hR] at k
    exact k
  · refine r_if_eq (tgt := 18) hC dX5_law_6 rfl (fun h4 => ?_) (fun h4 => by omega)
    refine r_ldc hC dX5_law_18 co_RX5_175 rfl ?_
    refine y_iret hK rfl dX5_law_20 ?_
    have hR : laR σ l h w = (-2147483648) := by
      unfold laR
      first | exact if_neg (by omega) | exact if_pos (by omega)
    rw [hR] at k
    exact k
theorem x_part {ec : Bool} {d : Nat} {P : Option Vl → Mm → Prop} {σ : Mm} {l f z w : Int}  (hh : ∀ l : Int, 0 ≤ l → l ≤ 3 → 0 ≤ σ 7 l 6 ∧ σ 7 l 6 ≤ 120)  (k : P (some (vI (ptR σ l f z w))) σ) : WT (true, false, ec) (d + 6) 74 [vR 2 0, vI l, vI f, vI z, vI w] σ P := by
  refine WT_in fun K hK => ?_
  have hK : StpY (true, false, ec) cX5_part RX5 (some .int) (WT (true, false, ec) (d + 5)) P K := hK
  have hM := hK.1
  have hC := hK.1.1
  show K 0 [some (vR 2 0), some (vI l), some (vI f), some (vI z), some (vI w), none] [] σ
  refine r_rngz hC (fun g0 => ?_)
  have r_l : -2147483648 ≤ l ∧ l ≤ 2147483647 := inR_le (g0 (vI l) (by simp))
  have r_f : -2147483648 ≤ f ∧ f ≤ 2147483647 := inR_le (g0 (vI f) (by simp))
  have r_z : -2147483648 ≤ z ∧ z ≤ 2147483647 := inR_le (g0 (vI z) (by simp))
  have r_w : -2147483648 ≤ w ∧ w ≤ 2147483647 := inR_le (g0 (vI w) (by simp))
  have h6L := hh l
  refine r_aload_n hC dX5_part_0 rfl ?_
  refine r_iload_n hC dX5_part_1 rfl ?_
  refine r_iload hC dX5_part_2 rfl ?_
  refine z_inv2 hM dX5_part_4 vl_RX5_248 rfl rfl rfl (Nat.le_of_ble_eq_true rfl) (Nat.le_of_ble_eq_true rfl) ?_
  refine x_laneWith (fun h1 => ?_) (fun h1 => ?_)
  · refine r_astore hC dX5_part_7 rfl ?_
    refine r_aload hC dX5_part_9 rfl ?_
    refine r_ifnullR hC dX5_part_11 ?_
    refine r_iload_n hC dX5_part_14 rfl ?_
    refine r_if_lt (tgt := 32) hC dX5_part_15 rfl (fun h2 => ?_) (fun h2 => ?_)
    · refine r_ldc hC dX5_part_32 co_RX5_175 rfl ?_
      refine y_iret hK rfl dX5_part_34 ?_
      have hR : ptR σ l f z w = (-2147483648) := by
        unfold ptR
        first | exact if_neg (by omega) | exact if_pos (by omega)
      rw [hR] at k
      exact k
    · refine r_iload_n hC dX5_part_18 rfl ?_
      refine r_iload_n hC dX5_part_19 rfl ?_
      refine r_icmp_lt (tgt := 32) hC dX5_part_20 rfl (fun h3 => ?_) (fun h3 => ?_)
      · refine r_ldc hC dX5_part_32 co_RX5_175 rfl ?_
        refine y_iret hK rfl dX5_part_34 ?_
        have hR : ptR σ l f z w = (-2147483648) := by
          unfold ptR
          first | exact if_neg (by omega) | exact if_pos (by omega)
        rw [hR] at k
        exact k
      · refine r_iload_n hC dX5_part_23 rfl ?_
        refine r_aload hC dX5_part_24 rfl ?_
        refine z_getI (jz := 6) hM dX5_part_26 fl_RX5_154 rfl rfl rfl (fun v4 h_v4 o_v4 t_v4 => ?_)
        have w_v4 := ((t_v4 (Or.inl (by first | exact trivial | exact tb7_ (by decide) | simp [Tb]))).trans (rfl)).symm
        clear t_v4
        subst w_v4
        have q_v4 : 0 ≤ (σ 7 l 6) ∧ (σ 7 l 6) ≤ 121 := o_v4.1 rfl
        refine r_icmp_lt (tgt := 35) hC dX5_part_29 rfl (fun h5 => ?_) (fun h5 => ?_)
        · refine r_aload_n hC dX5_part_35 rfl ?_
          refine r_aload hC dX5_part_36 rfl ?_
          refine r_iload_n hC dX5_part_38 rfl ?_
          refine r_iload_n hC dX5_part_39 rfl ?_
          refine r_iconst hC dX5_part_40 rfl ?_
          refine r_iaddE hC ((z + 1)) dX5_part_41 (by omega) (by unfold inR; omega) ?_
          refine r_iload hC dX5_part_42 rfl ?_
          refine z_inv4 hM dX5_part_44 vl_RX5_227 rfl rfl rfl (Nat.le_of_ble_eq_true rfl) (Nat.le_of_ble_eq_true rfl) ?_
          refine x_comesTo (by omega) (by omega) (by omega) ?_
          refine y_iret hK rfl dX5_part_47 ?_
          have hR : ptR σ l f z w = (cm (σ 16 0) (σ 15 0) (σ 7 l 2) (fun j => σ 9 l (f + j)) ((z + 1) - f).toNat w) := by
            unfold ptR
            first | exact if_neg (by omega) | exact if_pos (by omega)
          rw [hR] at k
          exact k
        · refine r_ldc hC dX5_part_32 co_RX5_175 rfl ?_
          refine y_iret hK rfl dX5_part_34 ?_
          have hR : ptR σ l f z w = (-2147483648) := by
            unfold ptR
            first | exact if_neg (by omega) | exact if_pos (by omega)
          rw [hR] at k
          exact k
  · refine r_astoreN hC dX5_part_7 rfl ?_
    refine r_aloadN hC dX5_part_9 rfl ?_
    refine r_ifnullN (tgt := 32) hC dX5_part_11 rfl ?_
    refine r_ldc hC dX5_part_32 co_RX5_175 rfl ?_
    refine y_iret hK rfl dX5_part_34 ?_
    have hR : ptR σ l f z w = (-2147483648) := by
      unfold ptR
      first | exact if_neg (by omega) | exact if_pos (by omega)
    rw [hR] at k
    exact k
theorem wl_id {a : Int} (h : -9223372036854775808 ≤ a ∧ a ≤ 9223372036854775807) : wl a = a := by
  unfold wl
  exact Int64.toInt_ofInt_of_le h.1 (by have := h.2; omega)
theorem x_during {ec : Bool} {d : Nat} {P : Option Vl → Mm → Prop} {σ : Mm} {l f z w : Int}  (hh : ∀ l : Int, 0 ≤ l → l ≤ 3 → 0 ≤ σ 7 l 6 ∧ σ 7 l 6 ≤ 120)  (k : P (some (vI (duR σ l f z w))) σ) : WT (true, false, ec) (d + 6) 75 [vR 2 0, vI l, vI f, vI z, vI w] σ P := by
  refine WT_in fun K hK => ?_
  have hK : StpY (true, false, ec) cX5_during RX5 (some .int) (WT (true, false, ec) (d + 5)) P K := hK
  have hM := hK.1
  have hC := hK.1.1
  show K 0 [some (vR 2 0), some (vI l), some (vI f), some (vI z), some (vI w), none] [] σ
  refine r_rngz hC (fun g0 => ?_)
  have r_l : -2147483648 ≤ l ∧ l ≤ 2147483647 := inR_le (g0 (vI l) (by simp))
  have r_f : -2147483648 ≤ f ∧ f ≤ 2147483647 := inR_le (g0 (vI f) (by simp))
  have r_z : -2147483648 ≤ z ∧ z ≤ 2147483647 := inR_le (g0 (vI z) (by simp))
  have r_w : -2147483648 ≤ w ∧ w ≤ 2147483647 := inR_le (g0 (vI w) (by simp))
  have ewl : wl (f - 1) = f - 1 := wl_id (by omega)
  have h6L := hh l
  refine r_aload_n hC dX5_during_0 rfl ?_
  refine r_iload_n hC dX5_during_1 rfl ?_
  refine r_iload hC dX5_during_2 rfl ?_
  refine z_inv2 hM dX5_during_4 vl_RX5_248 rfl rfl rfl (Nat.le_of_ble_eq_true rfl) (Nat.le_of_ble_eq_true rfl) ?_
  refine x_laneWith (fun h1 => ?_) (fun h1 => ?_)
  · refine r_astore hC dX5_during_7 rfl ?_
    refine r_aload hC dX5_during_9 rfl ?_
    refine r_ifnonnullR (tgt := 19) hC dX5_during_11 rfl ?_
    refine r_aload_n hC dX5_during_19 rfl ?_
    refine r_aload hC dX5_during_20 rfl ?_
    refine r_aload hC dX5_during_22 rfl ?_
    refine r_iload_n hC dX5_during_24 rfl ?_
    refine r_i2l hC dX5_during_25 ?_
    refine r_lconst hC dX5_during_26 (a := 1) rfl ?_
    refine r_lsub hC dX5_during_27 ?_
    refine z_inv1 hM dX5_during_28 vl_RX5_167 rfl rfl rfl (Nat.le_of_ble_eq_true rfl) (Nat.le_of_ble_eq_true rfl) ?_
    refine x_heldUntil (by omega) (fun h2 => ?_)
    rw [ewl] at h2 ⊢
    refine r_aload hC dX5_during_31 rfl ?_
    refine r_iload_n hC dX5_during_33 rfl ?_
    refine r_i2l hC dX5_during_34 ?_
    refine z_inv1 hM dX5_during_35 vl_RX5_167 rfl rfl rfl (Nat.le_of_ble_eq_true rfl) (Nat.le_of_ble_eq_true rfl) ?_
    refine x_heldUntil (by omega) (fun h3 => ?_)
    refine r_iload hC dX5_during_38 rfl ?_
    refine z_inv4 hM dX5_during_40 vl_RX5_227 rfl rfl rfl (Nat.le_of_ble_eq_true rfl) (Nat.le_of_ble_eq_true rfl) ?_
    refine x_comesTo (by omega) (by omega) (by omega) ?_
    refine y_iret hK rfl dX5_during_43 ?_
    have hR : duR σ l f z w = (cm (σ 16 0) (σ 15 0) (σ 7 l 2) (fun j => σ 9 l ((hU σ l (f - 1)) + j)) ((hU σ l z) - (hU σ l (f - 1))).toNat w) := by
      unfold duR
      first | exact if_neg (by omega) | exact if_pos (by omega)
    rw [hR] at k
    exact k
  · refine r_astoreN hC dX5_during_7 rfl ?_
    refine r_aloadN hC dX5_during_9 rfl ?_
    refine r_ifnonnullN hC dX5_during_11 ?_
    refine r_ldc hC dX5_during_14 co_RX5_175 rfl ?_
    refine r_goto (tgt := 43) hC dX5_during_16 rfl ?_
    refine y_iret hK rfl dX5_during_43 ?_
    have hR : duR σ l f z w = (-2147483648) := by
      unfold duR
      first | exact if_neg (by omega) | exact if_pos (by omega)
    rw [hR] at k
    exact k
theorem x_many {ec : Bool} {d : Nat} {P : Option Vl → Mm → Prop} {σ : Mm} {l f z : Int}  (hh : ∀ l : Int, 0 ≤ l → l ≤ 3 → 0 ≤ σ 7 l 6 ∧ σ 7 l 6 ≤ 120)  (k : P (some (vI (mnR σ l f z))) σ) : WT (true, false, ec) (d + 4) 76 [vR 2 0, vI l, vI f, vI z] σ P := by
  refine WT_in fun K hK => ?_
  have hK : StpY (true, false, ec) cX5_many RX5 (some .int) (WT (true, false, ec) (d + 3)) P K := hK
  have hM := hK.1
  have hC := hK.1.1
  show K 0 [some (vR 2 0), some (vI l), some (vI f), some (vI z), none] [] σ
  refine r_rngz hC (fun g0 => ?_)
  have r_l : -2147483648 ≤ l ∧ l ≤ 2147483647 := inR_le (g0 (vI l) (by simp))
  have r_f : -2147483648 ≤ f ∧ f ≤ 2147483647 := inR_le (g0 (vI f) (by simp))
  have r_z : -2147483648 ≤ z ∧ z ≤ 2147483647 := inR_le (g0 (vI z) (by simp))
  have ewl : wl (f - 1) = f - 1 := wl_id (by omega)
  have h6L := hh l
  refine r_aload_n hC dX5_many_0 rfl ?_
  refine r_iload_n hC dX5_many_1 rfl ?_
  refine z_inv1 hM dX5_many_2 vl_RX5_123 rfl rfl rfl (Nat.le_of_ble_eq_true rfl) (Nat.le_of_ble_eq_true rfl) ?_
  refine x_openLane (fun h1 => ?_) (fun h1 => ?_)
  · -- h1
    refine r_astore hC dX5_many_5 rfl ?_
    refine r_aload hC dX5_many_7 rfl ?_
    refine r_ifnonnullR (tgt := 16) hC dX5_many_9 rfl ?_
    refine r_iconst hC dX5_many_16 rfl ?_
    refine r_aload hC dX5_many_17 rfl ?_
    refine r_iload_n hC dX5_many_19 rfl ?_
    refine r_i2l hC dX5_many_20 ?_
    refine z_inv1 hM dX5_many_21 vl_RX5_167 rfl rfl rfl (Nat.le_of_ble_eq_true rfl) (Nat.le_of_ble_eq_true rfl) ?_
    refine x_heldUntil (by omega) (fun h2 => ?_)
    refine r_aload hC dX5_many_24 rfl ?_
    refine r_iload_n hC dX5_many_26 rfl ?_
    refine r_i2l hC dX5_many_27 ?_
    refine r_lconst hC dX5_many_28 (a := 1) rfl ?_
    refine r_lsub hC dX5_many_29 ?_
    refine z_inv1 hM dX5_many_30 vl_RX5_167 rfl rfl rfl (Nat.le_of_ble_eq_true rfl) (Nat.le_of_ble_eq_true rfl) ?_
    refine x_heldUntil (by omega) (fun h3 => ?_)
    rw [ewl] at h3 ⊢
    refine r_isubE hC (((hU σ l z) - (hU σ l (f - 1)))) dX5_many_33 (by omega) (by unfold inR; omega) ?_
    refine z_ins2 hM dX5_many_34 tl_RX5_239 rfl (Nat.le_of_ble_eq_true rfl) (Nat.le_of_ble_eq_true rfl) ?_
    refine x_maxE ?_
    refine y_iret hK rfl dX5_many_37 ?_
    have hR : mnR σ l f z = (max 0 ((hU σ l z) - (hU σ l (f - 1)))) := by
      unfold mnR
      first | exact if_neg (by omega) | exact if_pos (by omega)
    rw [hR] at k
    exact k
  · -- h1
    refine r_astoreN hC dX5_many_5 rfl ?_
    refine r_aloadN hC dX5_many_7 rfl ?_
    refine r_ifnonnullN hC dX5_many_9 ?_
    refine r_iconst hC dX5_many_12 rfl ?_
    refine r_goto (tgt := 37) hC dX5_many_13 rfl ?_
    refine y_iret hK rfl dX5_many_37 ?_
    have hR : mnR σ l f z = (-1) := by
      unfold mnR
      first | exact if_neg (by omega) | exact if_pos (by omega)
    rw [hR] at k
    exact k
def x_FtoldF (V : Mm) (i w : Int) : Int := if w = 0 then V 11 i 0 else if w = 1 then V 11 i 1 else if w = 2 then V 11 i 2 else if w = 3 then V 11 i 3 else if w = 4 then V 11 i 4 else if w = 5 then V 11 i 5 else if w = 6 then V 11 i 6 else -1
theorem x_Ftold {e : Ev} {d : Nat} {P : Option Vl → Mm → Prop} {σ : Mm} {i w : Int} (b_i : 0 ≤ i ∧ i ≤ 7)  (k : P (some (vI (x_FtoldF σ i w))) σ) : WT e (d + 1) 7 [vR 11 i, vI w] σ P := by
  refine WT_in fun K hK => ?_
  have hK : StpY e cX0_told RX0 (some .int) (WT e (d + 0)) P K := hK
  have hM := hK.1
  have hC := hK.1.1
  show K 0 [some (vR 11 i), some (vI w)] [] σ
  refine r_rngz hC (fun g0 => ?_)
  have r_w : -2147483648 ≤ w ∧ w ≤ 2147483647 := inR_le (g0 (vI w) (by simp))
  refine r_iload_n hC dX0_told_0 rfl ?_
  rcases (by omega : (w < 0 ∨ 6 < w) ∨ w = 0 ∨ w = 1 ∨ w = 2 ∨ w = 3 ∨ w = 4 ∨ w = 5 ∨ w = 6) with h1 | h1 | h1 | h1 | h1 | h1 | h1 | h1
  · refine r_tableOut (tgt := 79) hC dX0_told_1 h1 rfl ?_
    refine r_iconst hC dX0_told_79 rfl ?_
    refine y_iret hK rfl dX0_told_80 ?_
    have hR : x_FtoldF σ i w = (-1) := by
      unfold x_FtoldF
      (repeat' split) <;> first | rfl | omega
    rw [hR] at k
    exact k
  · refine r_tableIn (tgt := 44) (off := 43) hC dX0_told_1 (by omega) (by omega) (by rw [h1]; rfl) rfl ?_
    refine r_aload_n hC dX0_told_44 rfl ?_
    refine z_getI (jz := 0) hM dX0_told_45 fl_RX0_9 rfl rfl rfl (fun v2 h_v2 o_v2 t_v2 => ?_)
    have w_v2 := ((t_v2 (Or.inl (by first | exact trivial | exact tb7_ (by decide) | simp [Tb]))).trans (rfl)).symm
    clear t_v2
    subst w_v2
    refine y_iret hK rfl dX0_told_48 ?_
    have hR : x_FtoldF σ i w = (σ 11 i 0) := by
      unfold x_FtoldF
      (repeat' split) <;> first | rfl | omega
    rw [hR] at k
    exact k
  · refine r_tableIn (tgt := 49) (off := 48) hC dX0_told_1 (by omega) (by omega) (by rw [h1]; rfl) rfl ?_
    refine r_aload_n hC dX0_told_49 rfl ?_
    refine z_getI (jz := 1) hM dX0_told_50 fl_RX0_15 rfl rfl rfl (fun v3 h_v3 o_v3 t_v3 => ?_)
    have w_v3 := ((t_v3 (Or.inl (by first | exact trivial | exact tb7_ (by decide) | simp [Tb]))).trans (rfl)).symm
    clear t_v3
    subst w_v3
    refine y_iret hK rfl dX0_told_53 ?_
    have hR : x_FtoldF σ i w = (σ 11 i 1) := by
      unfold x_FtoldF
      (repeat' split) <;> first | rfl | omega
    rw [hR] at k
    exact k
  · refine r_tableIn (tgt := 54) (off := 53) hC dX0_told_1 (by omega) (by omega) (by rw [h1]; rfl) rfl ?_
    refine r_aload_n hC dX0_told_54 rfl ?_
    refine z_getI (jz := 2) hM dX0_told_55 fl_RX0_18 rfl rfl rfl (fun v4 h_v4 o_v4 t_v4 => ?_)
    have w_v4 := ((t_v4 (Or.inl (by first | exact trivial | exact tb7_ (by decide) | simp [Tb]))).trans (rfl)).symm
    clear t_v4
    subst w_v4
    refine y_iret hK rfl dX0_told_58 ?_
    have hR : x_FtoldF σ i w = (σ 11 i 2) := by
      unfold x_FtoldF
      (repeat' split) <;> first | rfl | omega
    rw [hR] at k
    exact k
  · refine r_tableIn (tgt := 59) (off := 58) hC dX0_told_1 (by omega) (by omega) (by rw [h1]; rfl) rfl ?_
    refine r_aload_n hC dX0_told_59 rfl ?_
    refine z_getI (jz := 3) hM dX0_told_60 fl_RX0_21 rfl rfl rfl (fun v5 h_v5 o_v5 t_v5 => ?_)
    have w_v5 := ((t_v5 (Or.inl (by first | exact trivial | exact tb7_ (by decide) | simp [Tb]))).trans (rfl)).symm
    clear t_v5
    subst w_v5
    refine y_iret hK rfl dX0_told_63 ?_
    have hR : x_FtoldF σ i w = (σ 11 i 3) := by
      unfold x_FtoldF
      (repeat' split) <;> first | rfl | omega
    rw [hR] at k
    exact k
  · refine r_tableIn (tgt := 64) (off := 63) hC dX0_told_1 (by omega) (by omega) (by rw [h1]; rfl) rfl ?_
    refine r_aload_n hC dX0_told_64 rfl ?_
    refine z_getI (jz := 4) hM dX0_told_65 fl_RX0_24 rfl rfl rfl (fun v6 h_v6 o_v6 t_v6 => ?_)
    have w_v6 := ((t_v6 (Or.inl (by first | exact trivial | exact tb7_ (by decide) | simp [Tb]))).trans (rfl)).symm
    clear t_v6
    subst w_v6
    refine y_iret hK rfl dX0_told_68 ?_
    have hR : x_FtoldF σ i w = (σ 11 i 4) := by
      unfold x_FtoldF
      (repeat' split) <;> first | rfl | omega
    rw [hR] at k
    exact k
  · refine r_tableIn (tgt := 69) (off := 68) hC dX0_told_1 (by omega) (by omega) (by rw [h1]; rfl) rfl ?_
    refine r_aload_n hC dX0_told_69 rfl ?_
    refine z_getI (jz := 5) hM dX0_told_70 fl_RX0_27 rfl rfl rfl (fun v7 h_v7 o_v7 t_v7 => ?_)
    have w_v7 := ((t_v7 (Or.inl (by first | exact trivial | exact tb7_ (by decide) | simp [Tb]))).trans (rfl)).symm
    clear t_v7
    subst w_v7
    refine y_iret hK rfl dX0_told_73 ?_
    have hR : x_FtoldF σ i w = (σ 11 i 5) := by
      unfold x_FtoldF
      (repeat' split) <;> first | rfl | omega
    rw [hR] at k
    exact k
  · refine r_tableIn (tgt := 74) (off := 73) hC dX0_told_1 (by omega) (by omega) (by rw [h1]; rfl) rfl ?_
    refine r_aload_n hC dX0_told_74 rfl ?_
    refine z_getI (jz := 6) hM dX0_told_75 fl_RX0_30 rfl rfl rfl (fun v8 h_v8 o_v8 t_v8 => ?_)
    have w_v8 := ((t_v8 (Or.inl (by first | exact trivial | exact tb7_ (by decide) | simp [Tb]))).trans (rfl)).symm
    clear t_v8
    subst w_v8
    refine y_iret hK rfl dX0_told_78 ?_
    have hR : x_FtoldF σ i w = (σ 11 i 6) := by
      unfold x_FtoldF
      (repeat' split) <;> first | rfl | omega
    rw [hR] at k
    exact k
def x_KtoldF (V : Mm) (i w : Int) : Int := if w = 0 then V 13 i 0 else if w = 1 then V 13 i 1 else if w = 2 then V 13 i 2 else if w = 3 then V 13 i 3 else -1
theorem x_Ktold {e : Ev} {d : Nat} {P : Option Vl → Mm → Prop} {σ : Mm} {i w : Int} (b_i : 0 ≤ i ∧ i ≤ 3)  (k : P (some (vI (x_KtoldF σ i w))) σ) : WT e (d + 1) 41 [vR 13 i, vI w] σ P := by
  refine WT_in fun K hK => ?_
  have hK : StpY e cX3_told RX3 (some .int) (WT e (d + 0)) P K := hK
  have hM := hK.1
  have hC := hK.1.1
  show K 0 [some (vR 13 i), some (vI w)] [] σ
  refine r_rngz hC (fun g0 => ?_)
  have r_w : -2147483648 ≤ w ∧ w ≤ 2147483647 := inR_le (g0 (vI w) (by simp))
  refine r_iload_n hC dX3_told_0 rfl ?_
  rcases (by omega : (w < 0 ∨ 3 < w) ∨ w = 0 ∨ w = 1 ∨ w = 2 ∨ w = 3) with h1 | h1 | h1 | h1 | h1
  · refine r_tableOut (tgt := 52) hC dX3_told_1 h1 rfl ?_
    refine r_iconst hC dX3_told_52 rfl ?_
    refine y_iret hK rfl dX3_told_53 ?_
    have hR : x_KtoldF σ i w = (-1) := by
      unfold x_KtoldF
      (repeat' split) <;> first | rfl | omega
    rw [hR] at k
    exact k
  · refine r_tableIn (tgt := 32) (off := 31) hC dX3_told_1 (by omega) (by omega) (by rw [h1]; rfl) rfl ?_
    refine r_aload_n hC dX3_told_32 rfl ?_
    refine z_getI (jz := 0) hM dX3_told_33 fl_RX3_9 rfl rfl rfl (fun v2 h_v2 o_v2 t_v2 => ?_)
    have w_v2 := ((t_v2 (Or.inl (by first | exact trivial | exact tb7_ (by decide) | simp [Tb]))).trans (rfl)).symm
    clear t_v2
    subst w_v2
    refine y_iret hK rfl dX3_told_36 ?_
    have hR : x_KtoldF σ i w = (σ 13 i 0) := by
      unfold x_KtoldF
      (repeat' split) <;> first | rfl | omega
    rw [hR] at k
    exact k
  · refine r_tableIn (tgt := 37) (off := 36) hC dX3_told_1 (by omega) (by omega) (by rw [h1]; rfl) rfl ?_
    refine r_aload_n hC dX3_told_37 rfl ?_
    refine z_getI (jz := 1) hM dX3_told_38 fl_RX3_15 rfl rfl rfl (fun v3 h_v3 o_v3 t_v3 => ?_)
    have w_v3 := ((t_v3 (Or.inl (by first | exact trivial | exact tb7_ (by decide) | simp [Tb]))).trans (rfl)).symm
    clear t_v3
    subst w_v3
    refine y_iret hK rfl dX3_told_41 ?_
    have hR : x_KtoldF σ i w = (σ 13 i 1) := by
      unfold x_KtoldF
      (repeat' split) <;> first | rfl | omega
    rw [hR] at k
    exact k
  · refine r_tableIn (tgt := 42) (off := 41) hC dX3_told_1 (by omega) (by omega) (by rw [h1]; rfl) rfl ?_
    refine r_aload_n hC dX3_told_42 rfl ?_
    refine z_getI (jz := 2) hM dX3_told_43 fl_RX3_18 rfl rfl rfl (fun v4 h_v4 o_v4 t_v4 => ?_)
    have w_v4 := ((t_v4 (Or.inl (by first | exact trivial | exact tb7_ (by decide) | simp [Tb]))).trans (rfl)).symm
    clear t_v4
    subst w_v4
    refine y_iret hK rfl dX3_told_46 ?_
    have hR : x_KtoldF σ i w = (σ 13 i 2) := by
      unfold x_KtoldF
      (repeat' split) <;> first | rfl | omega
    rw [hR] at k
    exact k
  · refine r_tableIn (tgt := 47) (off := 46) hC dX3_told_1 (by omega) (by omega) (by rw [h1]; rfl) rfl ?_
    refine r_aload_n hC dX3_told_47 rfl ?_
    refine z_getI (jz := 3) hM dX3_told_48 fl_RX3_21 rfl rfl rfl (fun v5 h_v5 o_v5 t_v5 => ?_)
    have w_v5 := ((t_v5 (Or.inl (by first | exact trivial | exact tb7_ (by decide) | simp [Tb]))).trans (rfl)).symm
    clear t_v5
    subst w_v5
    refine y_iret hK rfl dX3_told_51 ?_
    have hR : x_KtoldF σ i w = (σ 13 i 3) := by
      unfold x_KtoldF
      (repeat' split) <;> first | rfl | omega
    rw [hR] at k
    exact k
theorem x_state {ec : Bool} {d : Nat} {P : Option Vl → Mm → Prop} {σ : Mm} {l w : Int}   (k : P (some (vI (stR σ l w))) σ) : WT (true, false, ec) (d + 4) 94 [vR 2 0, vI l, vI w] σ P := by
  refine WT_in fun K hK => ?_
  have hK : StpY (true, false, ec) cX5_state RX5 (some .int) (WT (true, false, ec) (d + 3)) P K := hK
  have hM := hK.1
  have hC := hK.1.1
  show K 0 [some (vR 2 0), some (vI l), some (vI w), none] [] σ
  refine r_rngz hC (fun g0 => ?_)
  have r_l : -2147483648 ≤ l ∧ l ≤ 2147483647 := inR_le (g0 (vI l) (by simp))
  have r_w : -2147483648 ≤ w ∧ w ≤ 2147483647 := inR_le (g0 (vI w) (by simp))
  refine r_aload_n hC dX5_state_0 rfl ?_
  refine r_iload_n hC dX5_state_1 rfl ?_
  refine z_inv1 hM dX5_state_2 vl_RX5_123 rfl rfl rfl (Nat.le_of_ble_eq_true rfl) (Nat.le_of_ble_eq_true rfl) ?_
  refine x_openLane (fun h1 => ?_) (fun h1 => ?_)
  · -- h1
    refine r_astore_n hC dX5_state_5 rfl ?_
    refine r_aload_n hC dX5_state_6 rfl ?_
    refine r_ifnonnullR (tgt := 14) hC dX5_state_7 rfl ?_
    refine r_aload_n hC dX5_state_14 rfl ?_
    refine z_getR hM dX5_state_15 fl_RX5_189 rfl rfl (vld_of (n := 8) rfl (by omega) (by omega)) ?_
    refine r_iload_n hC dX5_state_18 rfl ?_
    refine z_inv1 hM dX5_state_19 vl_RX5_288 rfl rfl rfl (Nat.le_of_ble_eq_true rfl) (Nat.le_of_ble_eq_true rfl) ?_
    refine x_Ftold (by omega) ?_
    refine y_iret hK rfl dX5_state_22 ?_
    have hR : stR σ l w = (x_FtoldF σ l w) := by
      unfold stR
      first | exact if_neg (by omega) | exact if_pos (by omega)
    rw [hR] at k
    exact k
  · -- h1
    refine r_astoreN_n hC dX5_state_5 rfl ?_
    refine r_aloadN_n hC dX5_state_6 rfl ?_
    refine r_ifnonnullN hC dX5_state_7 ?_
    refine r_iconst hC dX5_state_10 rfl ?_
    refine r_goto (tgt := 22) hC dX5_state_11 rfl ?_
    refine y_iret hK rfl dX5_state_22 ?_
    have hR : stR σ l w = (-1) := by
      unfold stR
      first | exact if_neg (by omega) | exact if_pos (by omega)
    rw [hR] at k
    exact k
theorem x_soon {ec : Bool} {d : Nat} {P : Option Vl → Mm → Prop} {σ : Mm} {l w : Int}  (hF : ∀ l : Int, 0 ≤ l → l ≤ 3 → (0 ≤ σ 11 l 0 ∧ σ 11 l 0 ≤ 121) ∧ (0 ≤ σ 11 l 1 ∧ σ 11 l 1 ≤ 121) ∧ (0 ≤ σ 11 l 2 ∧ σ 11 l 2 ≤ 121) ∧ 0 ≤ σ 11 l 3 ∧ σ 11 l 3 ≤ 242)  (k : P (some (vI (soR σ l w))) σ) : WT (true, false, ec) (d + 4) 95 [vR 2 0, vI l, vI w] σ P := by
  refine WT_in fun K hK => ?_
  have hK : StpY (true, false, ec) cX5_soon RX5 (some .int) (WT (true, false, ec) (d + 3)) P K := hK
  have hM := hK.1
  have hC := hK.1.1
  show K 0 [some (vR 2 0), some (vI l), some (vI w), none, none] [] σ
  refine r_rngz hC (fun g0 => ?_)
  have r_l : -2147483648 ≤ l ∧ l ≤ 2147483647 := inR_le (g0 (vI l) (by simp))
  have r_w : -2147483648 ≤ w ∧ w ≤ 2147483647 := inR_le (g0 (vI w) (by simp))
  have hFl := hF l
  refine r_aload_n hC dX5_soon_0 rfl ?_
  refine r_iload_n hC dX5_soon_1 rfl ?_
  refine z_inv1 hM dX5_soon_2 vl_RX5_123 rfl rfl rfl (Nat.le_of_ble_eq_true rfl) (Nat.le_of_ble_eq_true rfl) ?_
  refine x_openLane (fun h1 => ?_) (fun h1 => ?_)
  · -- h1
    refine r_astore_n hC dX5_soon_5 rfl ?_
    refine r_aload_n hC dX5_soon_6 rfl ?_
    refine r_ifnullR hC dX5_soon_7 ?_
    refine r_iload_n hC dX5_soon_10 rfl ?_
    refine r_iconst hC dX5_soon_11 rfl ?_
    refine r_iconst hC dX5_soon_12 rfl ?_
    refine z_ins3 hM dX5_soon_13 tl_RX5_59 rfl (Nat.le_of_ble_eq_true rfl) (Nat.le_of_ble_eq_true rfl) ?_
    refine s_within (fun h3 => ?_) (fun h3 => ?_)
    · refine r_if_ne (tgt := 21) hC dX5_soon_16 rfl (fun h4 => ?_) (fun h4 => by omega)
      refine r_aload_n hC dX5_soon_21 rfl ?_
      refine z_getR hM dX5_soon_22 fl_RX5_189 rfl rfl (vld_of (n := 8) rfl (by omega) (by omega)) ?_
      refine r_astore hC dX5_soon_25 rfl ?_
      refine r_iload_n hC dX5_soon_27 rfl ?_
      refine r_if_ne (tgt := 57) hC dX5_soon_28 rfl (fun h5 => ?_) (fun h5 => ?_)
      · refine r_aload hC dX5_soon_57 rfl ?_
        refine z_getI (jz := 3) hM dX5_soon_59 fl_RX5_291 rfl rfl rfl (fun v6 h_v6 o_v6 t_v6 => ?_)
        have w_v6 := ((t_v6 (Or.inl (by first | exact trivial | exact tb7_ (by decide) | simp [Tb]))).trans (rfl)).symm
        clear t_v6
        subst w_v6
        refine r_if_le (tgt := 79) hC dX5_soon_62 rfl (fun h7 => ?_) (fun h7 => ?_)
        · refine r_iconst hC dX5_soon_79 rfl ?_
          refine y_iret hK rfl dX5_soon_80 ?_
          have hR : soR σ l w = (-1) := by
            unfold soR
            (repeat' split) <;> first | rfl | omega
          rw [hR] at k
          exact k
        · refine r_aload hC dX5_soon_65 rfl ?_
          refine z_getI (jz := 3) hM dX5_soon_67 fl_RX5_291 rfl rfl rfl (fun v8 h_v8 o_v8 t_v8 => ?_)
          have w_v8 := ((t_v8 (Or.inl (by first | exact trivial | exact tb7_ (by decide) | simp [Tb]))).trans (rfl)).symm
          clear t_v8
          subst w_v8
          refine r_iconst hC dX5_soon_70 rfl ?_
          refine r_iaddE hC (((σ 11 l 3) + 3)) dX5_soon_71 (by omega) (by unfold inR; omega) ?_
          refine r_iconst hC dX5_soon_72 rfl ?_
          refine r_isubE hC (((σ 11 l 3) + 2)) dX5_soon_73 (by omega) (by unfold inR; omega) ?_
          refine r_iconst hC dX5_soon_74 rfl ?_
          refine r_idivN hC dX5_soon_75 (by omega) (by omega) ?_
          refine r_goto (tgt := 80) hC dX5_soon_76 rfl ?_
          refine y_iret hK rfl dX5_soon_80 ?_
          have hR : soR σ l w = (((σ 11 l 3) + 2) / 3) := by
            unfold soR
            (repeat' split) <;> first | rfl | omega
          rw [hR] at k
          exact k
      · refine r_aload hC dX5_soon_31 rfl ?_
        refine z_getI (jz := 3) hM dX5_soon_33 fl_RX5_291 rfl rfl rfl (fun v9 h_v9 o_v9 t_v9 => ?_)
        have w_v9 := ((t_v9 (Or.inl (by first | exact trivial | exact tb7_ (by decide) | simp [Tb]))).trans (rfl)).symm
        clear t_v9
        subst w_v9
        refine r_if_le (tgt := 43) hC dX5_soon_36 rfl (fun h10 => ?_) (fun h10 => ?_)
        · refine r_aload hC dX5_soon_43 rfl ?_
          refine z_getI (jz := 0) hM dX5_soon_45 fl_RX5_294 rfl rfl rfl (fun v11 h_v11 o_v11 t_v11 => ?_)
          have w_v11 := ((t_v11 (Or.inl (by first | exact trivial | exact tb7_ (by decide) | simp [Tb]))).trans (rfl)).symm
          clear t_v11
          subst w_v11
          refine r_iconst hC dX5_soon_48 rfl ?_
          refine r_iaddE hC (((σ 11 l 0) + 1)) dX5_soon_49 (by omega) (by unfold inR; omega) ?_
          refine r_aload hC dX5_soon_50 rfl ?_
          refine z_getI (jz := 2) hM dX5_soon_52 fl_RX5_297 rfl rfl rfl (fun v12 h_v12 o_v12 t_v12 => ?_)
          have w_v12 := ((t_v12 (Or.inl (by first | exact trivial | exact tb7_ (by decide) | simp [Tb]))).trans (rfl)).symm
          clear t_v12
          subst w_v12
          refine r_isubE hC ((((σ 11 l 0) + 1) - (σ 11 l 2))) dX5_soon_55 (by omega) (by unfold inR; omega) ?_
          refine y_iret hK rfl dX5_soon_56 ?_
          have hR : soR σ l w = (((σ 11 l 0) + 1) - (σ 11 l 2)) := by
            unfold soR
            (repeat' split) <;> first | rfl | omega
          rw [hR] at k
          exact k
        · refine r_iconst hC dX5_soon_39 rfl ?_
          refine r_goto (tgt := 56) hC dX5_soon_40 rfl ?_
          refine y_iret hK rfl dX5_soon_56 ?_
          have hR : soR σ l w = (-1) := by
            unfold soR
            (repeat' split) <;> first | rfl | omega
          rw [hR] at k
          exact k
    · refine r_if_ne (tgt := 21) hC dX5_soon_16 rfl (fun h13 => by omega) (fun h13 => ?_)
      refine r_iconst hC dX5_soon_19 rfl ?_
      refine y_iret hK rfl dX5_soon_20 ?_
      have hR : soR σ l w = (-1) := by
        unfold soR
        (repeat' split) <;> first | rfl | omega
      rw [hR] at k
      exact k
  · -- h1
    refine r_astoreN_n hC dX5_soon_5 rfl ?_
    refine r_aloadN_n hC dX5_soon_6 rfl ?_
    refine r_ifnullN (tgt := 19) hC dX5_soon_7 rfl ?_
    refine r_iconst hC dX5_soon_19 rfl ?_
    refine y_iret hK rfl dX5_soon_20 ?_
    have hR : soR σ l w = (-1) := by
      unfold soR
      (repeat' split) <;> first | rfl | omega
    rw [hR] at k
    exact k
theorem x_linked {ec : Bool} {d : Nat} {P : Option Vl → Mm → Prop} {σ : Mm} {l w : Int}   (k : P (some (vI (lkR σ l w))) σ) : WT (true, false, ec) (d + 3) 106 [vR 2 0, vI l, vI w] σ P := by
  refine WT_in fun K hK => ?_
  have hK : StpY (true, false, ec) cX5_linked RX5 (some .int) (WT (true, false, ec) (d + 2)) P K := hK
  have hM := hK.1
  have hC := hK.1.1
  show K 0 [some (vR 2 0), some (vI l), some (vI w)] [] σ
  refine r_rngz hC (fun g0 => ?_)
  have r_l : -2147483648 ≤ l ∧ l ≤ 2147483647 := inR_le (g0 (vI l) (by simp))
  have r_w : -2147483648 ≤ w ∧ w ≤ 2147483647 := inR_le (g0 (vI w) (by simp))
  refine r_iload_n hC dX5_linked_0 rfl ?_
  refine z_ins1 hM dX5_linked_1 tl_RX5_102 rfl (Nat.le_of_ble_eq_true rfl) (Nat.le_of_ble_eq_true rfl) ?_
  refine s_isLane (fun h2 => ?_) (fun h2 => ?_)
  · refine r_if_eq (tgt := 33) hC dX5_linked_4 rfl (fun h3 => by omega) (fun h3 => ?_)
    refine r_aload_n hC dX5_linked_7 rfl ?_
    refine z_getR hM dX5_linked_8 fl_RX5_19 rfl rfl (vld_of (n := 1) rfl (by omega) (by omega)) ?_
    refine r_iload_n hC dX5_linked_11 rfl ?_
    refine z_aald hM dX5_linked_12 rfl (by decide) (by omega) (by omega) (vld_of (n := 4) rfl (by omega) (by omega)) ?_
    refine z_getI (jz := 0) hM dX5_linked_13 fl_RX5_215 rfl rfl rfl (fun v4 h_v4 o_v4 t_v4 => ?_)
    have w_v4 := ((t_v4 (Or.inl (by first | exact trivial | exact tb7_ (by decide) | simp [Tb]))).trans (rfl)).symm
    clear t_v4
    subst w_v4
    refine r_iconst hC dX5_linked_16 rfl ?_
    refine r_icmp_eq (tgt := 33) hC dX5_linked_17 rfl (fun h5 => ?_) (fun h5 => ?_)
    · refine r_iconst hC dX5_linked_33 rfl ?_
      refine y_iret hK rfl dX5_linked_34 ?_
      have hR : lkR σ l w = (-1) := by
        unfold lkR
        first | exact if_neg (by omega) | exact if_pos (by omega)
      rw [hR] at k
      exact k
    · refine r_aload_n hC dX5_linked_20 rfl ?_
      refine z_getR hM dX5_linked_21 fl_RX5_19 rfl rfl (vld_of (n := 1) rfl (by omega) (by omega)) ?_
      refine r_iload_n hC dX5_linked_24 rfl ?_
      refine z_aald hM dX5_linked_25 rfl (by decide) (by omega) (by omega) (vld_of (n := 4) rfl (by omega) (by omega)) ?_
      refine r_iload_n hC dX5_linked_26 rfl ?_
      refine z_inv1 hM dX5_linked_27 vl_RX5_343 rfl rfl rfl (Nat.le_of_ble_eq_true rfl) (Nat.le_of_ble_eq_true rfl) ?_
      refine x_Ktold (by omega) ?_
      refine r_goto (tgt := 34) hC dX5_linked_30 rfl ?_
      refine y_iret hK rfl dX5_linked_34 ?_
      have hR : lkR σ l w = (x_KtoldF σ l w) := by
        unfold lkR
        first | exact if_neg (by omega) | exact if_pos (by omega)
      rw [hR] at k
      exact k
  · refine r_if_eq (tgt := 33) hC dX5_linked_4 rfl (fun h6 => ?_) (fun h6 => by omega)
    refine r_iconst hC dX5_linked_33 rfl ?_
    refine y_iret hK rfl dX5_linked_34 ?_
    have hR : lkR σ l w = (-1) := by
      unfold lkR
      first | exact if_neg (by omega) | exact if_pos (by omega)
    rw [hR] at k
    exact k
theorem x_isTold {e : Ev} {d : Nat} {P : Option Vl → Mm → Prop} {σ : Mm} {v : Int}   (k1 : (wtd σ v) → P (some (vI 1)) σ) (k0 : ¬ (wtd σ v) → P (some (vI 0)) σ) : WT e (d + 2) 101 [vR 2 0, vI v] σ P := by
  refine WT_in fun K hK => ?_
  have hK : StpY e cX5_isTold RX5 (some .boolean) (WT e (d + 1)) P K := hK
  have hM := hK.1
  have hC := hK.1.1
  show K 0 [some (vR 2 0), some (vI v)] [] σ
  refine r_rngz hC (fun g0 => ?_)
  have r_v : -2147483648 ≤ v ∧ v ≤ 2147483647 := inR_le (g0 (vI v) (by simp))
  refine r_iload_n hC dX5_isTold_0 rfl ?_
  refine r_iconst hC dX5_isTold_1 rfl ?_
  refine r_bipush hC dX5_isTold_2 rfl ?_
  refine z_ins3 hM dX5_isTold_4 tl_RX5_59 rfl (Nat.le_of_ble_eq_true rfl) (Nat.le_of_ble_eq_true rfl) ?_
  refine s_within (fun h2 => ?_) (fun h2 => ?_)
  · refine r_if_eq (tgt := 27) hC dX5_isTold_7 rfl (fun h3 => by omega) (fun h3 => ?_)
    refine r_aload_n hC dX5_isTold_10 rfl ?_
    refine z_getR hM dX5_isTold_11 fl_RX5_32 rfl rfl (vld_of (n := 1) rfl (by omega) (by omega)) ?_
    refine r_iload_n hC dX5_isTold_14 rfl ?_
    refine z_aald hM dX5_isTold_15 rfl (by decide) (by omega) (by omega) (vld_of (n := 8) rfl (by omega) (by omega)) ?_
    refine z_getI (jz := 0) hM dX5_isTold_16 fl_RX5_321 rfl rfl rfl (fun v4 h_v4 o_v4 t_v4 => ?_)
    have w_v4 := ((t_v4 (Or.inl (by first | exact trivial | exact tb7_ (by decide) | simp [Tb]))).trans (rfl)).symm
    clear t_v4
    subst w_v4
    refine r_iconst hC dX5_isTold_19 rfl ?_
    refine r_icmp_eq (tgt := 27) hC dX5_isTold_20 rfl (fun h5 => ?_) (fun h5 => ?_)
    · refine r_iconst hC dX5_isTold_27 rfl ?_
      refine y_zret hK rfl dX5_isTold_28 (by omega) ?_
      exact k0 (by omega)
    · refine r_iconst hC dX5_isTold_23 rfl ?_
      refine r_goto (tgt := 28) hC dX5_isTold_24 rfl ?_
      refine y_zret hK rfl dX5_isTold_28 (by omega) ?_
      exact k1 (by omega)
  · refine r_if_eq (tgt := 27) hC dX5_isTold_7 rfl (fun h6 => ?_) (fun h6 => by omega)
    refine r_iconst hC dX5_isTold_27 rfl ?_
    refine y_zret hK rfl dX5_isTold_28 (by omega) ?_
    exact k0 (by omega)
theorem x_rings {ec : Bool} {d : Nat} {P : Option Vl → Mm → Prop} {σ : Mm} {v : Int}   (k : P (some (vI (riR σ v))) σ) : WT (true, false, ec) (d + 3) 99 [vR 2 0, vI v] σ P := by
  refine WT_in fun K hK => ?_
  have hK : StpY (true, false, ec) cX5_rings RX5 (some .int) (WT (true, false, ec) (d + 2)) P K := hK
  have hM := hK.1
  have hC := hK.1.1
  show K 0 [some (vR 2 0), some (vI v)] [] σ
  refine r_rngz hC (fun g0 => ?_)
  have r_v : -2147483648 ≤ v ∧ v ≤ 2147483647 := inR_le (g0 (vI v) (by simp))
  refine r_aload_n hC dX5_rings_0 rfl ?_
  refine r_iload_n hC dX5_rings_1 rfl ?_
  refine z_inv1 hM dX5_rings_2 vl_RX5_312 rfl rfl rfl (Nat.le_of_ble_eq_true rfl) (Nat.le_of_ble_eq_true rfl) ?_
  refine x_isTold (fun h1 => ?_) (fun h1 => ?_)
  · refine r_if_eq (tgt := 20) hC dX5_rings_5 rfl (fun h2 => by omega) (fun h2 => ?_)
    refine r_aload_n hC dX5_rings_8 rfl ?_
    refine z_getR hM dX5_rings_9 fl_RX5_32 rfl rfl (vld_of (n := 1) rfl (by omega) (by omega)) ?_
    refine r_iload_n hC dX5_rings_12 rfl ?_
    refine z_aald hM dX5_rings_13 rfl (by decide) (by omega) (by omega) (vld_of (n := 8) rfl (by omega) (by omega)) ?_
    refine z_getI (jz := 4) hM dX5_rings_14 fl_RX5_315 rfl rfl rfl (fun v3 h_v3 o_v3 t_v3 => ?_)
    have w_v3 := ((t_v3 (Or.inl (by first | exact trivial | exact tb7_ (by decide) | simp [Tb]))).trans (rfl)).symm
    clear t_v3
    subst w_v3
    refine r_goto (tgt := 21) hC dX5_rings_17 rfl ?_
    refine y_iret hK rfl dX5_rings_21 ?_
    have hR : riR σ v = (σ 12 v 4) := by
      unfold riR
      first | exact if_neg (by omega) | exact if_pos (by omega)
    rw [hR] at k
    exact k
  · refine r_if_eq (tgt := 20) hC dX5_rings_5 rfl (fun h4 => ?_) (fun h4 => by omega)
    refine r_iconst hC dX5_rings_20 rfl ?_
    refine y_iret hK rfl dX5_rings_21 ?_
    have hR : riR σ v = (-1) := by
      unfold riR
      first | exact if_neg (by omega) | exact if_pos (by omega)
    rw [hR] at k
    exact k
theorem x_rang {ec : Bool} {d : Nat} {P : Option Vl → Mm → Prop} {σ : Mm} {v : Int}   (k : P (some (vI (raR σ v))) σ) : WT (true, false, ec) (d + 3) 100 [vR 2 0, vI v] σ P := by
  refine WT_in fun K hK => ?_
  have hK : StpY (true, false, ec) cX5_rang RX5 (some .int) (WT (true, false, ec) (d + 2)) P K := hK
  have hM := hK.1
  have hC := hK.1.1
  show K 0 [some (vR 2 0), some (vI v)] [] σ
  refine r_rngz hC (fun g0 => ?_)
  have r_v : -2147483648 ≤ v ∧ v ≤ 2147483647 := inR_le (g0 (vI v) (by simp))
  refine r_aload_n hC dX5_rang_0 rfl ?_
  refine r_iload_n hC dX5_rang_1 rfl ?_
  refine z_inv1 hM dX5_rang_2 vl_RX5_312 rfl rfl rfl (Nat.le_of_ble_eq_true rfl) (Nat.le_of_ble_eq_true rfl) ?_
  refine x_isTold (fun h1 => ?_) (fun h1 => ?_)
  · refine r_if_eq (tgt := 20) hC dX5_rang_5 rfl (fun h2 => by omega) (fun h2 => ?_)
    refine r_aload_n hC dX5_rang_8 rfl ?_
    refine z_getR hM dX5_rang_9 fl_RX5_32 rfl rfl (vld_of (n := 1) rfl (by omega) (by omega)) ?_
    refine r_iload_n hC dX5_rang_12 rfl ?_
    refine z_aald hM dX5_rang_13 rfl (by decide) (by omega) (by omega) (vld_of (n := 8) rfl (by omega) (by omega)) ?_
    refine z_getI (jz := 5) hM dX5_rang_14 fl_RX5_318 rfl rfl rfl (fun v3 h_v3 o_v3 t_v3 => ?_)
    have w_v3 := ((t_v3 (Or.inl (by first | exact trivial | exact tb7_ (by decide) | simp [Tb]))).trans (rfl)).symm
    clear t_v3
    subst w_v3
    refine r_goto (tgt := 21) hC dX5_rang_17 rfl ?_
    refine y_iret hK rfl dX5_rang_21 ?_
    have hR : raR σ v = (σ 12 v 5) := by
      unfold raR
      first | exact if_neg (by omega) | exact if_pos (by omega)
    rw [hR] at k
    exact k
  · refine r_if_eq (tgt := 20) hC dX5_rang_5 rfl (fun h4 => ?_) (fun h4 => by omega)
    refine r_iconst hC dX5_rang_20 rfl ?_
    refine y_iret hK rfl dX5_rang_21 ?_
    have hR : raR σ v = (-1) := by
      unfold raR
      first | exact if_neg (by omega) | exact if_pos (by omega)
    rw [hR] at k
    exact k
-- B: the reference: what is asked of a LANE
theorem y_event {eb : Bool} {t : Int} {V : Mm} {d : Nat} {P : Option Vl → Mm → Prop} {σ : Mm} {l x w : Int}  {σ0 : Mm} (ht : 6 ≤ t ∧ t ≤ 7) (hR : RS t σ0 V σ) (hG : GI V)  (k : ∀ ρ : Mm, RS t σ0 V ρ → P (some (vI (evR V l x w))) ρ) : WT (true, eb, true) (d + 4) 212 [vR 30 0, vI l, vI x, vI w] σ P := by
  refine WT_in fun K hK => ?_
  have hK : StpY (true, eb, true) cX6_event RX6 (some .int) (WT (true, eb, true) (d + 3)) P K := hK
  have hM := hK.1
  have hC := hK.1.1
  show K 0 [some (vR 30 0), some (vI l), some (vI x), some (vI w)] [] σ
  refine r_rngz hC (fun g0 => ?_)
  have r_l : -2147483648 ≤ l ∧ l ≤ 2147483647 := inR_le (g0 (vI l) (by simp))
  have r_x : -2147483648 ≤ x ∧ x ≤ 2147483647 := inR_le (g0 (vI x) (by simp))
  have r_w : -2147483648 ≤ w ∧ w ≤ 2147483647 := inR_le (g0 (vI w) (by simp))
  refine r_aload_n hC dX6_event_0 rfl ?_
  refine r_iload_n hC dX6_event_1 rfl ?_
  refine r_iload_n hC dX6_event_2 rfl ?_
  refine z_inv2 hM dX6_event_3 vl_RX6_262 rfl rfl rfl (Nat.le_of_ble_eq_true rfl) (Nat.le_of_ble_eq_true rfl) ?_
  refine y_isEvent (V := V) ht ⟨hR.1, hR.2.1, hR.2.2⟩ (fun h1 => ?_) (fun h1 => ?_)
  · have h6 := hG.1.h7 (l := l) (by first | assumption | decide | exact xs_ (by decide) | exact xc_ (by decide) | exact x31_ (by decide) | omega) (by first | assumption | decide | exact xs_ (by decide) | exact xc_ (by decide) | exact x31_ (by decide) | omega)
    refine r_if_ne (tgt := 12) hC dX6_event_6 rfl (fun h2 => ?_) (fun h2 => by omega)
    refine r_iload_n hC dX6_event_12 rfl ?_
    rcases (by omega : (w < 0 ∨ 2 < w) ∨ w = 0 ∨ w = 1 ∨ w = 2) with h3 | h3 | h3 | h3
    · refine r_tableOut (tgt := 76) hC dX6_event_13 h3 rfl ?_
      refine r_ldc hC dX6_event_76 co_RX6_160 rfl ?_
      refine y_iret hK rfl dX6_event_78 ?_
      have hRr : evR V l x w = (-2147483648) := by
        unfold evR
        (repeat' split) <;> first | rfl | omega
      rw [hRr] at k
      exact k _ ⟨hR.1, hR.2.1, hR.2.2⟩
    · refine r_tableIn (tgt := 40) (off := 27) hC dX6_event_13 (by first | assumption | decide | exact xs_ (by decide) | exact xc_ (by decide) | exact x31_ (by decide) | omega) (by first | assumption | decide | exact xs_ (by decide) | exact xc_ (by decide) | exact x31_ (by decide) | omega) (by rw [h3]; rfl) rfl ?_
      refine r_aload_n hC dX6_event_40 rfl ?_
      refine z_getR hM dX6_event_41 fl_RX6_13 rfl rfl (vld_of (n := 1) rfl (by first | assumption | decide | exact xs_ (by decide) | exact xc_ (by decide) | exact x31_ (by decide) | omega) (by first | assumption | decide | exact xs_ (by decide) | exact xc_ (by decide) | exact x31_ (by decide) | omega)) ?_
      refine r_bipush hC dX6_event_44 rfl ?_
      refine r_iload_n hC dX6_event_46 rfl ?_
      refine r_imulE hC ((121 * l)) dX6_event_47 (by first | assumption | decide | exact xs_ (by decide) | exact xc_ (by decide) | exact x31_ (by decide) | omega) (by unfold inR; omega) ?_
      refine r_iload_n hC dX6_event_48 rfl ?_
      refine r_iaddE hC (((121 * l) + x)) dX6_event_49 (by first | assumption | decide | exact xs_ (by decide) | exact xc_ (by decide) | exact x31_ (by decide) | omega) (by unfold inR; omega) ?_
      refine z_iald hM dX6_event_50 rfl (by first | assumption | decide | exact xs_ (by decide) | exact xc_ (by decide) | exact x31_ (by decide) | omega) (by first | assumption | decide | exact xs_ (by decide) | exact xc_ (by decide) | exact x31_ (by decide) | omega) (fun v4 h_v4 o_v4 t_v4 => ?_)
      have w_v4 := ((t_v4 (Or.inl trivial)).trans ((show σ 32 0 ((121 * l) + x) = V 8 l x from by rw [show ((121 * l) + x) = 121 * l + x from by omega]; exact hR.1.a8 (y := x) (by first | assumption | decide | exact xs_ (by decide) | exact xc_ (by decide) | exact x31_ (by decide) | omega) (by first | assumption | decide | exact xs_ (by decide) | exact xc_ (by decide) | exact x31_ (by decide) | omega) (by first | assumption | decide | exact xs_ (by decide) | exact xc_ (by decide) | exact x31_ (by decide) | omega) (by first | assumption | decide | exact xs_ (by decide) | exact xc_ (by decide) | exact x31_ (by decide) | omega)).trans (rfl))).symm
      clear t_v4
      subst w_v4
      refine y_iret hK rfl dX6_event_51 ?_
      have hRr : evR V l x w = (V 8 l x) := by
        unfold evR
        (repeat' split) <;> first | rfl | omega
      rw [hRr] at k
      exact k _ ⟨hR.1, hR.2.1, hR.2.2⟩
    · refine r_tableIn (tgt := 52) (off := 39) hC dX6_event_13 (by first | assumption | decide | exact xs_ (by decide) | exact xc_ (by decide) | exact x31_ (by decide) | omega) (by first | assumption | decide | exact xs_ (by decide) | exact xc_ (by decide) | exact x31_ (by decide) | omega) (by rw [h3]; rfl) rfl ?_
      refine r_aload_n hC dX6_event_52 rfl ?_
      refine z_getR hM dX6_event_53 fl_RX6_16 rfl rfl (vld_of (n := 1) rfl (by first | assumption | decide | exact xs_ (by decide) | exact xc_ (by decide) | exact x31_ (by decide) | omega) (by first | assumption | decide | exact xs_ (by decide) | exact xc_ (by decide) | exact x31_ (by decide) | omega)) ?_
      refine r_bipush hC dX6_event_56 rfl ?_
      refine r_iload_n hC dX6_event_58 rfl ?_
      refine r_imulE hC ((121 * l)) dX6_event_59 (by first | assumption | decide | exact xs_ (by decide) | exact xc_ (by decide) | exact x31_ (by decide) | omega) (by unfold inR; omega) ?_
      refine r_iload_n hC dX6_event_60 rfl ?_
      refine r_iaddE hC (((121 * l) + x)) dX6_event_61 (by first | assumption | decide | exact xs_ (by decide) | exact xc_ (by decide) | exact x31_ (by decide) | omega) (by unfold inR; omega) ?_
      refine z_iald hM dX6_event_62 rfl (by first | assumption | decide | exact xs_ (by decide) | exact xc_ (by decide) | exact x31_ (by decide) | omega) (by first | assumption | decide | exact xs_ (by decide) | exact xc_ (by decide) | exact x31_ (by decide) | omega) (fun v5 h_v5 o_v5 t_v5 => ?_)
      have w_v5 := ((t_v5 (Or.inl trivial)).trans ((show σ 33 0 ((121 * l) + x) = V 9 l x from by rw [show ((121 * l) + x) = 121 * l + x from by omega]; exact hR.1.a9 (y := x) (by first | assumption | decide | exact xs_ (by decide) | exact xc_ (by decide) | exact x31_ (by decide) | omega) (by first | assumption | decide | exact xs_ (by decide) | exact xc_ (by decide) | exact x31_ (by decide) | omega) (by first | assumption | decide | exact xs_ (by decide) | exact xc_ (by decide) | exact x31_ (by decide) | omega) (by first | assumption | decide | exact xs_ (by decide) | exact xc_ (by decide) | exact x31_ (by decide) | omega)).trans (rfl))).symm
      clear t_v5
      subst w_v5
      refine y_iret hK rfl dX6_event_63 ?_
      have hRr : evR V l x w = (V 9 l x) := by
        unfold evR
        (repeat' split) <;> first | rfl | omega
      rw [hRr] at k
      exact k _ ⟨hR.1, hR.2.1, hR.2.2⟩
    · refine r_tableIn (tgt := 64) (off := 51) hC dX6_event_13 (by first | assumption | decide | exact xs_ (by decide) | exact xc_ (by decide) | exact x31_ (by decide) | omega) (by first | assumption | decide | exact xs_ (by decide) | exact xc_ (by decide) | exact x31_ (by decide) | omega) (by rw [h3]; rfl) rfl ?_
      refine r_aload_n hC dX6_event_64 rfl ?_
      refine z_getR hM dX6_event_65 fl_RX6_19 rfl rfl (vld_of (n := 1) rfl (by first | assumption | decide | exact xs_ (by decide) | exact xc_ (by decide) | exact x31_ (by decide) | omega) (by first | assumption | decide | exact xs_ (by decide) | exact xc_ (by decide) | exact x31_ (by decide) | omega)) ?_
      refine r_bipush hC dX6_event_68 rfl ?_
      refine r_iload_n hC dX6_event_70 rfl ?_
      refine r_imulE hC ((121 * l)) dX6_event_71 (by first | assumption | decide | exact xs_ (by decide) | exact xc_ (by decide) | exact x31_ (by decide) | omega) (by unfold inR; omega) ?_
      refine r_iload_n hC dX6_event_72 rfl ?_
      refine r_iaddE hC (((121 * l) + x)) dX6_event_73 (by first | assumption | decide | exact xs_ (by decide) | exact xc_ (by decide) | exact x31_ (by decide) | omega) (by unfold inR; omega) ?_
      refine z_iald hM dX6_event_74 rfl (by first | assumption | decide | exact xs_ (by decide) | exact xc_ (by decide) | exact x31_ (by decide) | omega) (by first | assumption | decide | exact xs_ (by decide) | exact xc_ (by decide) | exact x31_ (by decide) | omega) (fun v6 h_v6 o_v6 t_v6 => ?_)
      have w_v6 := ((t_v6 (Or.inl trivial)).trans ((show σ 34 0 ((121 * l) + x) = V 10 l x from by rw [show ((121 * l) + x) = 121 * l + x from by omega]; exact hR.1.a10 (y := x) (by first | assumption | decide | exact xs_ (by decide) | exact xc_ (by decide) | exact x31_ (by decide) | omega) (by first | assumption | decide | exact xs_ (by decide) | exact xc_ (by decide) | exact x31_ (by decide) | omega) (by first | assumption | decide | exact xs_ (by decide) | exact xc_ (by decide) | exact x31_ (by decide) | omega) (by first | assumption | decide | exact xs_ (by decide) | exact xc_ (by decide) | exact x31_ (by decide) | omega)).trans (rfl))).symm
      clear t_v6
      subst w_v6
      refine y_iret hK rfl dX6_event_75 ?_
      have hRr : evR V l x w = (V 10 l x) := by
        unfold evR
        (repeat' split) <;> first | rfl | omega
      rw [hRr] at k
      exact k _ ⟨hR.1, hR.2.1, hR.2.2⟩
  · refine r_if_ne (tgt := 12) hC dX6_event_6 rfl (fun h7 => by omega) (fun h7 => ?_)
    refine r_ldc hC dX6_event_9 co_RX6_160 rfl ?_
    refine y_iret hK rfl dX6_event_11 ?_
    have hRr : evR V l x w = (-2147483648) := by
      unfold evR
      (repeat' split) <;> first | rfl | omega
    rw [hRr] at k
    exact k _ ⟨hR.1, hR.2.1, hR.2.2⟩
theorem y_total {eb : Bool} {t : Int} {V : Mm} {d : Nat} {P : Option Vl → Mm → Prop} {σ : Mm} {l w : Int}  {σ0 : Mm} (ht : 6 ≤ t ∧ t ≤ 7) (hR : RS t σ0 V σ) (hG : GI V)  (k : ∀ ρ : Mm, RS t σ0 V ρ → P (some (vI (ttR V l w))) ρ) : WT (true, eb, true) (d + 6) 214 [vR 30 0, vI l, vI w] σ P := by
  refine WT_in fun K hK => ?_
  have hK : StpY (true, eb, true) cX6_total RX6 (some .int) (WT (true, eb, true) (d + 5)) P K := hK
  have hM := hK.1
  have hC := hK.1.1
  show K 0 [some (vR 30 0), some (vI l), some (vI w)] [] σ
  refine r_rngz hC (fun g0 => ?_)
  have r_l : -2147483648 ≤ l ∧ l ≤ 2147483647 := inR_le (g0 (vI l) (by simp))
  have r_w : -2147483648 ≤ w ∧ w ≤ 2147483647 := inR_le (g0 (vI w) (by simp))
  refine r_aload_n hC dX6_total_0 rfl ?_
  refine r_iload_n hC dX6_total_1 rfl ?_
  refine r_iload_n hC dX6_total_2 rfl ?_
  refine z_inv2 hM dX6_total_3 vl_RX6_207 rfl rfl rfl (Nat.le_of_ble_eq_true rfl) (Nat.le_of_ble_eq_true rfl) ?_
  refine y_isNumber (V := V) ht ⟨hR.1, hR.2.1, hR.2.2⟩ (fun l a b => (hG.2.1.2.2.2.1 l a b).2) (fun h1 => ?_) (fun h1 => ?_)
  · unfold lwC opV at h1
    have n_h1 := numF_rng (V 7 l 2)
    have h6 := hG.1.h7 (l := l) (by first | assumption | decide | exact xs_ (by decide) | exact xc_ (by decide) | exact x31_ (by decide) | omega) (by first | assumption | decide | exact xs_ (by decide) | exact xc_ (by decide) | exact x31_ (by decide) | omega)
    refine r_if_eq (tgt := 26) hC dX6_total_6 rfl (fun h2 => by omega) (fun h2 => ?_)
    refine r_aload_n hC dX6_total_9 rfl ?_
    refine r_iload_n hC dX6_total_10 rfl ?_
    refine r_iconst hC dX6_total_11 rfl ?_
    refine r_aload_n hC dX6_total_12 rfl ?_
    refine r_iload_n hC dX6_total_13 rfl ?_
    refine z_inv1 hM dX6_total_14 vl_RX6_116 rfl rfl rfl (Nat.le_of_ble_eq_true rfl) (Nat.le_of_ble_eq_true rfl) ?_
    refine y_heldOf (by first | assumption | decide | exact xs_ (by decide) | exact xc_ (by decide) | exact x31_ (by decide) | omega) (fun o3 => ?_)
    have e4 : σ 31 0 (22 * l + 5) = (V 7 l 6) := (hR.1.a7 (s := 6) (f := 5) (by first | assumption | decide | exact xs_ (by decide) | exact xc_ (by decide) | exact x31_ (by decide) | omega) (by first | assumption | decide | exact xs_ (by decide) | exact xc_ (by decide) | exact x31_ (by decide) | omega) (by first | assumption | decide | exact xs_ (by decide) | exact xc_ (by decide) | exact x31_ (by decide) | omega)).trans (rfl)
    rw [e4] at o3 ⊢
    have qo3 : 0 ≤ (V 7 l 6) ∧ (V 7 l 6) ≤ 121 := o3.1 (by first | assumption | decide | exact xs_ (by decide) | exact xc_ (by decide) | exact x31_ (by decide) | omega)
    refine r_iconst hC dX6_total_17 rfl ?_
    refine r_isubE hC (((V 7 l 6) - 1)) dX6_total_18 (by first | assumption | decide | exact xs_ (by decide) | exact xc_ (by decide) | exact x31_ (by decide) | omega) (by unfold inR; omega) ?_
    refine r_iload_n hC dX6_total_19 rfl ?_
    refine z_inv4 hM dX6_total_20 vl_RX6_243 rfl rfl rfl (Nat.le_of_ble_eq_true rfl) (Nat.le_of_ble_eq_true rfl) ?_
    refine y_comesFrom (V := V) (by first | assumption | decide | exact xs_ (by decide) | exact xc_ (by decide) | exact x31_ (by decide) | omega) (by first | assumption | decide | exact xs_ (by decide) | exact xc_ (by decide) | exact x31_ (by decide) | omega) (by first | assumption | decide | exact xs_ (by decide) | exact xc_ (by decide) | exact x31_ (by decide) | omega) (by first | assumption | decide | exact xs_ (by decide) | exact xc_ (by decide) | exact x31_ (by decide) | omega) ht ⟨hR.1, hR.2.1, hR.2.2⟩ (by first | assumption | decide | exact xs_ (by decide) | exact xc_ (by decide) | exact x31_ (by decide) | omega) (hG.2.1.lk hG.1 (l := l) (by first | assumption | decide | exact xs_ (by decide) | exact xc_ (by decide) | exact x31_ (by decide) | omega) (by first | assumption | decide | exact xs_ (by decide) | exact xc_ (by decide) | exact x31_ (by decide) | omega)) (by first | assumption | decide | exact xs_ (by decide) | exact xc_ (by decide) | exact x31_ (by decide) | omega) (fun ρ5 Rρ5 => ?_)
    refine r_goto (tgt := 28) hC dX6_total_23 rfl ?_
    refine y_iret hK rfl dX6_total_28 ?_
    have hRr : ttR V l w = (cm (V 16 0) (V 15 0) (V 7 l 2) (fun j => V 9 l (0 + j)) (((V 7 l 6) - 1) + 1 - 0).toNat w) := by
      unfold ttR ptV
      first | exact if_pos (by first | assumption | decide | exact xs_ (by decide) | exact xc_ (by decide) | exact x31_ (by decide) | omega) | (rw [if_pos (by first | assumption | decide | exact xs_ (by decide) | exact xc_ (by decide) | exact x31_ (by decide) | omega)]; first | rfl | (rw [show (((V 7 l 6) - 1) + 1 : Int) = V 7 l 6 from by omega]; done) | (rw [show (((V 7 l 6) - 1) + 1 : Int) = hU V l z from by omega]; done))
    rw [hRr] at k
    exact k _ ⟨Rρ5.1, Rρ5.2.1, Rρ5.2.2⟩
  · unfold lwC opV at h1
    refine r_if_eq (tgt := 26) hC dX6_total_6 rfl (fun h6 => ?_) (fun h6 => by omega)
    refine r_ldc hC dX6_total_26 co_RX6_160 rfl ?_
    refine y_iret hK rfl dX6_total_28 ?_
    have hRr : ttR V l w = (-2147483648) := by
      unfold ttR
      exact if_neg (by first | assumption | decide | exact xs_ (by decide) | exact xc_ (by decide) | exact x31_ (by decide) | omega)
    rw [hRr] at k
    exact k _ ⟨hR.1, hR.2.1, hR.2.2⟩
theorem y_law {eb : Bool} {t : Int} {V : Mm} {d : Nat} {P : Option Vl → Mm → Prop} {σ : Mm} {l h w : Int}  {σ0 : Mm} (ht : 6 ≤ t ∧ t ≤ 7) (hR : RS t σ0 V σ) (hG : GI V)  (k : ∀ ρ : Mm, RS t σ0 V ρ → P (some (vI (laR V l h w))) ρ) : WT (true, eb, true) (d + 7) 235 [vR 30 0, vI l, vI h, vI w] σ P := by
  refine WT_in fun K hK => ?_
  have hK : StpY (true, eb, true) cX6_law RX6 (some .int) (WT (true, eb, true) (d + 6)) P K := hK
  have hM := hK.1
  have hC := hK.1.1
  show K 0 [some (vR 30 0), some (vI l), some (vI h), some (vI w)] [] σ
  refine r_rngz hC (fun g0 => ?_)
  have r_l : -2147483648 ≤ l ∧ l ≤ 2147483647 := inR_le (g0 (vI l) (by simp))
  have r_h : -2147483648 ≤ h ∧ h ≤ 2147483647 := inR_le (g0 (vI h) (by simp))
  have r_w : -2147483648 ≤ w ∧ w ≤ 2147483647 := inR_le (g0 (vI w) (by simp))
  refine r_iload_n hC dX6_law_0 rfl ?_
  refine r_iconst hC dX6_law_1 rfl ?_
  refine r_iconst hC dX6_law_2 rfl ?_
  refine z_ins3 hM dX6_law_3 tl_RX6_76 rfl (Nat.le_of_ble_eq_true rfl) (Nat.le_of_ble_eq_true rfl) ?_
  refine m_isIn (fun h2 => ?_) (fun h2 => ?_)
  · refine r_if_eq (tgt := 18) hC dX6_law_6 rfl (fun h3 => by omega) (fun h3 => ?_)
    refine r_aload_n hC dX6_law_9 rfl ?_
    refine r_iload_n hC dX6_law_10 rfl ?_
    refine r_iload_n hC dX6_law_11 rfl ?_
    refine z_inv2 hM dX6_law_12 vl_RX6_283 rfl rfl rfl (Nat.le_of_ble_eq_true rfl) (Nat.le_of_ble_eq_true rfl) ?_
    refine y_total (V := V) ht ⟨hR.1, hR.2.1, hR.2.2⟩ hG (fun ρ4 Rρ4 => ?_)
    refine r_goto (tgt := 20) hC dX6_law_15 rfl ?_
    refine y_iret hK rfl dX6_law_20 ?_
    have hRr : laR V l h w = (ttR V l w) := by
      unfold laR
      first | exact if_neg (by first | assumption | decide | exact xs_ (by decide) | exact xc_ (by decide) | exact x31_ (by decide) | omega) | exact if_pos (by first | assumption | decide | exact xs_ (by decide) | exact xc_ (by decide) | exact x31_ (by decide) | omega)
    rw [hRr] at k
    exact k _ ⟨Rρ4.1, Rρ4.2.1, Rρ4.2.2⟩
  · refine r_if_eq (tgt := 18) hC dX6_law_6 rfl (fun h5 => ?_) (fun h5 => by omega)
    refine r_ldc hC dX6_law_18 co_RX6_160 rfl ?_
    refine y_iret hK rfl dX6_law_20 ?_
    have hRr : laR V l h w = (-2147483648) := by
      unfold laR
      first | exact if_neg (by first | assumption | decide | exact xs_ (by decide) | exact xc_ (by decide) | exact x31_ (by decide) | omega) | exact if_pos (by first | assumption | decide | exact xs_ (by decide) | exact xc_ (by decide) | exact x31_ (by decide) | omega)
    rw [hRr] at k
    exact k _ ⟨hR.1, hR.2.1, hR.2.2⟩
theorem y_part {eb : Bool} {t : Int} {V : Mm} {d : Nat} {P : Option Vl → Mm → Prop} {σ : Mm} {l f z w : Int}  {σ0 : Mm} (ht : 6 ≤ t ∧ t ≤ 7) (hR : RS t σ0 V σ) (hG : GI V)  (k : ∀ ρ : Mm, RS t σ0 V ρ → P (some (vI (ptR V l f z w))) ρ) : WT (true, eb, true) (d + 6) 215 [vR 30 0, vI l, vI f, vI z, vI w] σ P := by
  refine WT_in fun K hK => ?_
  have hK : StpY (true, eb, true) cX6_part RX6 (some .int) (WT (true, eb, true) (d + 5)) P K := hK
  have hM := hK.1
  have hC := hK.1.1
  show K 0 [some (vR 30 0), some (vI l), some (vI f), some (vI z), some (vI w)] [] σ
  refine r_rngz hC (fun g0 => ?_)
  have r_l : -2147483648 ≤ l ∧ l ≤ 2147483647 := inR_le (g0 (vI l) (by simp))
  have r_f : -2147483648 ≤ f ∧ f ≤ 2147483647 := inR_le (g0 (vI f) (by simp))
  have r_z : -2147483648 ≤ z ∧ z ≤ 2147483647 := inR_le (g0 (vI z) (by simp))
  have r_w : -2147483648 ≤ w ∧ w ≤ 2147483647 := inR_le (g0 (vI w) (by simp))
  refine r_aload_n hC dX6_part_0 rfl ?_
  refine r_iload_n hC dX6_part_1 rfl ?_
  refine r_iload hC dX6_part_2 rfl ?_
  refine z_inv2 hM dX6_part_4 vl_RX6_207 rfl rfl rfl (Nat.le_of_ble_eq_true rfl) (Nat.le_of_ble_eq_true rfl) ?_
  refine y_isNumber (V := V) ht ⟨hR.1, hR.2.1, hR.2.2⟩ (fun l a b => (hG.2.1.2.2.2.1 l a b).2) (fun h1 => ?_) (fun h1 => ?_)
  · unfold lwC opV at h1
    have n_h1 := numF_rng (V 7 l 2)
    have h6 := hG.1.h7 (l := l) (by first | assumption | decide | exact xs_ (by decide) | exact xc_ (by decide) | exact x31_ (by decide) | omega) (by first | assumption | decide | exact xs_ (by decide) | exact xc_ (by decide) | exact x31_ (by decide) | omega)
    refine r_if_eq (tgt := 33) hC dX6_part_7 rfl (fun h2 => by omega) (fun h2 => ?_)
    refine r_aload_n hC dX6_part_10 rfl ?_
    refine r_iload_n hC dX6_part_11 rfl ?_
    refine r_iload_n hC dX6_part_12 rfl ?_
    refine z_inv2 hM dX6_part_13 vl_RX6_262 rfl rfl rfl (Nat.le_of_ble_eq_true rfl) (Nat.le_of_ble_eq_true rfl) ?_
    refine y_isEvent (V := V) ht ⟨hR.1, hR.2.1, hR.2.2⟩ (fun h3 => ?_) (fun h3 => ?_)
    · have h6 := hG.1.h7 (l := l) (by first | assumption | decide | exact xs_ (by decide) | exact xc_ (by decide) | exact x31_ (by decide) | omega) (by first | assumption | decide | exact xs_ (by decide) | exact xc_ (by decide) | exact x31_ (by decide) | omega)
      refine r_if_eq (tgt := 33) hC dX6_part_16 rfl (fun h4 => by omega) (fun h4 => ?_)
      refine r_aload_n hC dX6_part_19 rfl ?_
      refine r_iload_n hC dX6_part_20 rfl ?_
      refine r_iload_n hC dX6_part_21 rfl ?_
      refine z_inv2 hM dX6_part_22 vl_RX6_262 rfl rfl rfl (Nat.le_of_ble_eq_true rfl) (Nat.le_of_ble_eq_true rfl) ?_
      refine y_isEvent (V := V) ht ⟨hR.1, hR.2.1, hR.2.2⟩ (fun h5 => ?_) (fun h5 => ?_)
      · have h6 := hG.1.h7 (l := l) (by first | assumption | decide | exact xs_ (by decide) | exact xc_ (by decide) | exact x31_ (by decide) | omega) (by first | assumption | decide | exact xs_ (by decide) | exact xc_ (by decide) | exact x31_ (by decide) | omega)
        refine r_if_eq (tgt := 33) hC dX6_part_25 rfl (fun h6 => by omega) (fun h6 => ?_)
        refine r_iload_n hC dX6_part_28 rfl ?_
        refine r_iload_n hC dX6_part_29 rfl ?_
        refine r_icmp_le (tgt := 36) hC dX6_part_30 rfl (fun h7 => ?_) (fun h7 => ?_)
        · refine r_aload_n hC dX6_part_36 rfl ?_
          refine r_iload_n hC dX6_part_37 rfl ?_
          refine r_iload_n hC dX6_part_38 rfl ?_
          refine r_iload_n hC dX6_part_39 rfl ?_
          refine r_iload hC dX6_part_40 rfl ?_
          refine z_inv4 hM dX6_part_42 vl_RX6_243 rfl rfl rfl (Nat.le_of_ble_eq_true rfl) (Nat.le_of_ble_eq_true rfl) ?_
          refine y_comesFrom (V := V) (by first | assumption | decide | exact xs_ (by decide) | exact xc_ (by decide) | exact x31_ (by decide) | omega) (by first | assumption | decide | exact xs_ (by decide) | exact xc_ (by decide) | exact x31_ (by decide) | omega) (by first | assumption | decide | exact xs_ (by decide) | exact xc_ (by decide) | exact x31_ (by decide) | omega) (by first | assumption | decide | exact xs_ (by decide) | exact xc_ (by decide) | exact x31_ (by decide) | omega) ht ⟨hR.1, hR.2.1, hR.2.2⟩ (by first | assumption | decide | exact xs_ (by decide) | exact xc_ (by decide) | exact x31_ (by decide) | omega) (hG.2.1.lk hG.1 (l := l) (by first | assumption | decide | exact xs_ (by decide) | exact xc_ (by decide) | exact x31_ (by decide) | omega) (by first | assumption | decide | exact xs_ (by decide) | exact xc_ (by decide) | exact x31_ (by decide) | omega)) (by first | assumption | decide | exact xs_ (by decide) | exact xc_ (by decide) | exact x31_ (by decide) | omega) (fun ρ8 Rρ8 => ?_)
          refine y_iret hK rfl dX6_part_45 ?_
          have hRr : ptR V l f z w = (cm (V 16 0) (V 15 0) (V 7 l 2) (fun j => V 9 l (f + j)) (z + 1 - f).toNat w) := by
            unfold ptR ptV
            first | exact if_pos (by first | assumption | decide | exact xs_ (by decide) | exact xc_ (by decide) | exact x31_ (by decide) | omega) | (rw [if_pos (by first | assumption | decide | exact xs_ (by decide) | exact xc_ (by decide) | exact x31_ (by decide) | omega)]; first | rfl | (rw [show (z + 1 : Int) = V 7 l 6 from by omega]; done) | (rw [show (z + 1 : Int) = hU V l z from by omega]; done))
          rw [hRr] at k
          exact k _ ⟨Rρ8.1, Rρ8.2.1, Rρ8.2.2⟩
        · refine r_ldc hC dX6_part_33 co_RX6_160 rfl ?_
          refine y_iret hK rfl dX6_part_35 ?_
          have hRr : ptR V l f z w = (-2147483648) := by
            unfold ptR
            exact if_neg (by first | assumption | decide | exact xs_ (by decide) | exact xc_ (by decide) | exact x31_ (by decide) | omega)
          rw [hRr] at k
          exact k _ ⟨hR.1, hR.2.1, hR.2.2⟩
      · refine r_if_eq (tgt := 33) hC dX6_part_25 rfl (fun h9 => ?_) (fun h9 => by omega)
        refine r_ldc hC dX6_part_33 co_RX6_160 rfl ?_
        refine y_iret hK rfl dX6_part_35 ?_
        have hRr : ptR V l f z w = (-2147483648) := by
          unfold ptR
          exact if_neg (by first | assumption | decide | exact xs_ (by decide) | exact xc_ (by decide) | exact x31_ (by decide) | omega)
        rw [hRr] at k
        exact k _ ⟨hR.1, hR.2.1, hR.2.2⟩
    · refine r_if_eq (tgt := 33) hC dX6_part_16 rfl (fun h10 => ?_) (fun h10 => by omega)
      refine r_ldc hC dX6_part_33 co_RX6_160 rfl ?_
      refine y_iret hK rfl dX6_part_35 ?_
      have hRr : ptR V l f z w = (-2147483648) := by
        unfold ptR
        exact if_neg (by first | assumption | decide | exact xs_ (by decide) | exact xc_ (by decide) | exact x31_ (by decide) | omega)
      rw [hRr] at k
      exact k _ ⟨hR.1, hR.2.1, hR.2.2⟩
  · unfold lwC opV at h1
    refine r_if_eq (tgt := 33) hC dX6_part_7 rfl (fun h11 => ?_) (fun h11 => by omega)
    refine r_ldc hC dX6_part_33 co_RX6_160 rfl ?_
    refine y_iret hK rfl dX6_part_35 ?_
    have hRr : ptR V l f z w = (-2147483648) := by
      unfold ptR
      exact if_neg (by first | assumption | decide | exact xs_ (by decide) | exact xc_ (by decide) | exact x31_ (by decide) | omega)
    rw [hRr] at k
    exact k _ ⟨hR.1, hR.2.1, hR.2.2⟩
theorem hU_min {V : Mm} {l t : Int} (hn : 0 ≤ V 7 l 6) (h : ∀ j : Int, 0 ≤ j → j < V 7 l 6 → t < V 8 l j) : hU V l t = 0 := by
  have hb := hU_b (V := V) (i := l) (t := t) hn
  rcases (hc_spec (V 8 l) t (V 7 l 6).toNat).2 with q | q
  · exact q
  · have q2 : V 8 l (hU V l t - 1) ≤ t := q
    by_cases e : hU V l t = 0
    · exact e
    · have := h (hU V l t - 1) (by first | assumption | decide | exact xs_ (by decide) | exact xc_ (by decide) | exact x31_ (by decide) | omega) (by first | assumption | decide | exact xs_ (by decide) | exact xc_ (by decide) | exact x31_ (by decide) | omega)
      omega
theorem y_aheadOf {eb : Bool} {t : Int} {V : Mm} {d : Nat} {P : Option Vl → Mm → Prop} {σ : Mm} {l f : Int} (b_l : 0 ≤ l ∧ l ≤ 3) {σ0 : Mm} (ht : 6 ≤ t ∧ t ≤ 7) (hR : RS t σ0 V σ) (hG : GI V)  (k : 0 ≤ hU V l (f - 1) ∧ hU V l (f - 1) ≤ V 7 l 6 → P (some (vI (hU V l (f - 1)))) σ) : WT (true, eb, true) (d + 4) 216 [vR 30 0, vI l, vI f] σ P := by
  refine WT_in fun K hK => ?_
  have hK : StpY (true, eb, true) cX6_aheadOf RX6 (some .int) (WT (true, eb, true) (d + 3)) P K := hK
  have hM := hK.1
  have hC := hK.1.1
  show K 0 [some (vR 30 0), some (vI l), some (vI f)] [] σ
  refine r_rngz hC (fun g0 => ?_)
  have r_f : -2147483648 ≤ f ∧ f ≤ 2147483647 := inR_le (g0 (vI f) (by simp))
  have h6 := hG.1.h7 (l := l) (by first | assumption | decide | exact xs_ (by decide) | exact xc_ (by decide) | exact x31_ (by decide) | omega) (by first | assumption | decide | exact xs_ (by decide) | exact xc_ (by decide) | exact x31_ (by decide) | omega)
  have hmin : f = -2147483648 → hU V l (f - 1) = 0 := fun q => hU_min (by first | assumption | decide | exact xs_ (by decide) | exact xc_ (by decide) | exact x31_ (by decide) | omega) (fun j a b => by have := (hG.2.1.2.2.1 l j (by first | assumption | decide | exact xs_ (by decide) | exact xc_ (by decide) | exact x31_ (by decide) | omega) (by first | assumption | decide | exact xs_ (by decide) | exact xc_ (by decide) | exact x31_ (by decide) | omega) a (by first | assumption | decide | exact xs_ (by decide) | exact xc_ (by decide) | exact x31_ (by decide) | omega)).1; omega)
  have hbf := hU_b (V := V) (i := l) (t := f - 1) (by first | assumption | decide | exact xs_ (by decide) | exact xc_ (by decide) | exact x31_ (by decide) | omega)
  refine r_iload_n hC dX6_aheadOf_0 rfl ?_
  refine r_ldc hC dX6_aheadOf_1 co_RX6_160 rfl ?_
  refine r_icmp_ne (tgt := 10) hC dX6_aheadOf_3 rfl (fun h1 => ?_) (fun h1 => ?_)
  · refine r_aload_n hC dX6_aheadOf_10 rfl ?_
    refine r_iload_n hC dX6_aheadOf_11 rfl ?_
    refine r_iload_n hC dX6_aheadOf_12 rfl ?_
    refine r_iconst hC dX6_aheadOf_13 rfl ?_
    refine r_isubE hC ((f - 1)) dX6_aheadOf_14 (by first | assumption | decide | exact xs_ (by decide) | exact xc_ (by decide) | exact x31_ (by decide) | omega) (by unfold inR; omega) ?_
    refine z_inv2 hM dX6_aheadOf_15 vl_RX6_224 rfl rfl rfl (Nat.le_of_ble_eq_true rfl) (Nat.le_of_ble_eq_true rfl) ?_
    refine y_placeOf (by first | assumption | decide | exact xs_ (by decide) | exact xc_ (by decide) | exact x31_ (by decide) | omega) ht ⟨hR.1, hR.2.1, hR.2.2⟩ (by first | assumption | decide | exact xs_ (by decide) | exact xc_ (by decide) | exact x31_ (by decide) | omega) (hG.2.1.1 l (by first | assumption | decide | exact xs_ (by decide) | exact xc_ (by decide) | exact x31_ (by decide) | omega) (by first | assumption | decide | exact xs_ (by decide) | exact xc_ (by decide) | exact x31_ (by decide) | omega)) (by first | assumption | decide | exact xs_ (by decide) | exact xc_ (by decide) | exact x31_ (by decide) | omega) (fun h2 => ?_)
    refine y_iret hK rfl dX6_aheadOf_18 ?_
    have hv : hU V l (f - 1) = (hU V l (f - 1)) := by first | omega | rfl
    rw [hv] at k
    rw [hv] at hbf
    exact k hbf
  · refine r_iconst hC dX6_aheadOf_6 rfl ?_
    refine r_goto (tgt := 18) hC dX6_aheadOf_7 rfl ?_
    refine y_iret hK rfl dX6_aheadOf_18 ?_
    have hv : hU V l (f - 1) = 0 := by first | omega | rfl
    rw [hv] at k
    rw [hv] at hbf
    exact k hbf
theorem y_during {eb : Bool} {t : Int} {V : Mm} {d : Nat} {P : Option Vl → Mm → Prop} {σ : Mm} {l f z w : Int}  {σ0 : Mm} (ht : 6 ≤ t ∧ t ≤ 7) (hR : RS t σ0 V σ) (hG : GI V)  (k : ∀ ρ : Mm, RS t σ0 V ρ → P (some (vI (duR V l f z w))) ρ) : WT (true, eb, true) (d + 6) 217 [vR 30 0, vI l, vI f, vI z, vI w] σ P := by
  refine WT_in fun K hK => ?_
  have hK : StpY (true, eb, true) cX6_during RX6 (some .int) (WT (true, eb, true) (d + 5)) P K := hK
  have hM := hK.1
  have hC := hK.1.1
  show K 0 [some (vR 30 0), some (vI l), some (vI f), some (vI z), some (vI w), none, none] [] σ
  refine r_rngz hC (fun g0 => ?_)
  have r_l : -2147483648 ≤ l ∧ l ≤ 2147483647 := inR_le (g0 (vI l) (by simp))
  have r_f : -2147483648 ≤ f ∧ f ≤ 2147483647 := inR_le (g0 (vI f) (by simp))
  have r_z : -2147483648 ≤ z ∧ z ≤ 2147483647 := inR_le (g0 (vI z) (by simp))
  have r_w : -2147483648 ≤ w ∧ w ≤ 2147483647 := inR_le (g0 (vI w) (by simp))
  refine r_aload_n hC dX6_during_0 rfl ?_
  refine r_iload_n hC dX6_during_1 rfl ?_
  refine r_iload hC dX6_during_2 rfl ?_
  refine z_inv2 hM dX6_during_4 vl_RX6_207 rfl rfl rfl (Nat.le_of_ble_eq_true rfl) (Nat.le_of_ble_eq_true rfl) ?_
  refine y_isNumber (V := V) ht ⟨hR.1, hR.2.1, hR.2.2⟩ (fun l a b => (hG.2.1.2.2.2.1 l a b).2) (fun h1 => ?_) (fun h1 => ?_)
  · unfold lwC opV at h1
    have n_h1 := numF_rng (V 7 l 2)
    have h6 := hG.1.h7 (l := l) (by first | assumption | decide | exact xs_ (by decide) | exact xc_ (by decide) | exact x31_ (by decide) | omega) (by first | assumption | decide | exact xs_ (by decide) | exact xc_ (by decide) | exact x31_ (by decide) | omega)
    refine r_if_ne (tgt := 13) hC dX6_during_7 rfl (fun h2 => ?_) (fun h2 => by omega)
    refine r_aload_n hC dX6_during_13 rfl ?_
    refine r_iload_n hC dX6_during_14 rfl ?_
    refine r_iload_n hC dX6_during_15 rfl ?_
    refine z_inv2 hM dX6_during_16 vl_RX6_265 rfl rfl rfl (Nat.le_of_ble_eq_true rfl) (Nat.le_of_ble_eq_true rfl) ?_
    refine y_aheadOf (V := V) (by first | assumption | decide | exact xs_ (by decide) | exact xc_ (by decide) | exact x31_ (by decide) | omega) ht ⟨hR.1, hR.2.1, hR.2.2⟩ hG (fun h3 => ?_)
    refine r_istore hC dX6_during_19 rfl ?_
    refine r_aload_n hC dX6_during_21 rfl ?_
    refine r_iload_n hC dX6_during_22 rfl ?_
    refine r_iload_n hC dX6_during_23 rfl ?_
    refine z_inv2 hM dX6_during_24 vl_RX6_224 rfl rfl rfl (Nat.le_of_ble_eq_true rfl) (Nat.le_of_ble_eq_true rfl) ?_
    refine y_placeOf (by first | assumption | decide | exact xs_ (by decide) | exact xc_ (by decide) | exact x31_ (by decide) | omega) ht ⟨hR.1, hR.2.1, hR.2.2⟩ (by first | assumption | decide | exact xs_ (by decide) | exact xc_ (by decide) | exact x31_ (by decide) | omega) (hG.2.1.1 l (by first | assumption | decide | exact xs_ (by decide) | exact xc_ (by decide) | exact x31_ (by decide) | omega) (by first | assumption | decide | exact xs_ (by decide) | exact xc_ (by decide) | exact x31_ (by decide) | omega)) (by first | assumption | decide | exact xs_ (by decide) | exact xc_ (by decide) | exact x31_ (by decide) | omega) (fun h4 => ?_)
    refine r_iconst hC dX6_during_27 rfl ?_
    refine r_isubE hC (((hU V l z) - 1)) dX6_during_28 (by first | assumption | decide | exact xs_ (by decide) | exact xc_ (by decide) | exact x31_ (by decide) | omega) (by unfold inR; omega) ?_
    refine r_istore hC dX6_during_29 rfl ?_
    refine r_aload_n hC dX6_during_31 rfl ?_
    refine r_iload_n hC dX6_during_32 rfl ?_
    refine r_iload hC dX6_during_33 rfl ?_
    refine r_iload hC dX6_during_35 rfl ?_
    refine r_iload hC dX6_during_37 rfl ?_
    refine z_inv4 hM dX6_during_39 vl_RX6_243 rfl rfl rfl (Nat.le_of_ble_eq_true rfl) (Nat.le_of_ble_eq_true rfl) ?_
    refine y_comesFrom (V := V) (by first | assumption | decide | exact xs_ (by decide) | exact xc_ (by decide) | exact x31_ (by decide) | omega) (by first | assumption | decide | exact xs_ (by decide) | exact xc_ (by decide) | exact x31_ (by decide) | omega) (by first | assumption | decide | exact xs_ (by decide) | exact xc_ (by decide) | exact x31_ (by decide) | omega) (by first | assumption | decide | exact xs_ (by decide) | exact xc_ (by decide) | exact x31_ (by decide) | omega) ht ⟨hR.1, hR.2.1, hR.2.2⟩ (by first | assumption | decide | exact xs_ (by decide) | exact xc_ (by decide) | exact x31_ (by decide) | omega) (hG.2.1.lk hG.1 (l := l) (by first | assumption | decide | exact xs_ (by decide) | exact xc_ (by decide) | exact x31_ (by decide) | omega) (by first | assumption | decide | exact xs_ (by decide) | exact xc_ (by decide) | exact x31_ (by decide) | omega)) (by first | assumption | decide | exact xs_ (by decide) | exact xc_ (by decide) | exact x31_ (by decide) | omega) (fun ρ5 Rρ5 => ?_)
    refine y_iret hK rfl dX6_during_42 ?_
    have hRr : duR V l f z w = (cm (V 16 0) (V 15 0) (V 7 l 2) (fun j => V 9 l ((hU V l (f - 1)) + j)) (((hU V l z) - 1) + 1 - (hU V l (f - 1))).toNat w) := by
      unfold duR ptV
      first | exact if_pos (by first | assumption | decide | exact xs_ (by decide) | exact xc_ (by decide) | exact x31_ (by decide) | omega) | (rw [if_pos (by first | assumption | decide | exact xs_ (by decide) | exact xc_ (by decide) | exact x31_ (by decide) | omega)]; first | rfl | (rw [show (((hU V l z) - 1) + 1 : Int) = V 7 l 6 from by omega]; done) | (rw [show (((hU V l z) - 1) + 1 : Int) = hU V l z from by omega]; done))
    rw [hRr] at k
    exact k _ ⟨Rρ5.1, Rρ5.2.1, Rρ5.2.2⟩
  · unfold lwC opV at h1
    refine r_if_ne (tgt := 13) hC dX6_during_7 rfl (fun h6 => by omega) (fun h6 => ?_)
    refine r_ldc hC dX6_during_10 co_RX6_160 rfl ?_
    refine y_iret hK rfl dX6_during_12 ?_
    have hRr : duR V l f z w = (-2147483648) := by
      unfold duR
      exact if_neg (by first | assumption | decide | exact xs_ (by decide) | exact xc_ (by decide) | exact x31_ (by decide) | omega)
    rw [hRr] at k
    exact k _ ⟨hR.1, hR.2.1, hR.2.2⟩
theorem y_many {eb : Bool} {t : Int} {V : Mm} {d : Nat} {P : Option Vl → Mm → Prop} {σ : Mm} {l f z : Int}  {σ0 : Mm} (ht : 6 ≤ t ∧ t ≤ 7) (hR : RS t σ0 V σ) (hG : GI V)  (k : ∀ ρ : Mm, RS t σ0 V ρ → P (some (vI (mnR V l f z))) ρ) : WT (true, eb, true) (d + 5) 218 [vR 30 0, vI l, vI f, vI z] σ P := by
  refine WT_in fun K hK => ?_
  have hK : StpY (true, eb, true) cX6_many RX6 (some .int) (WT (true, eb, true) (d + 4)) P K := hK
  have hM := hK.1
  have hC := hK.1.1
  show K 0 [some (vR 30 0), some (vI l), some (vI f), some (vI z), none] [] σ
  refine r_rngz hC (fun g0 => ?_)
  have r_l : -2147483648 ≤ l ∧ l ≤ 2147483647 := inR_le (g0 (vI l) (by simp))
  have r_f : -2147483648 ≤ f ∧ f ≤ 2147483647 := inR_le (g0 (vI f) (by simp))
  have r_z : -2147483648 ≤ z ∧ z ≤ 2147483647 := inR_le (g0 (vI z) (by simp))
  refine r_aload_n hC dX6_many_0 rfl ?_
  refine r_iload_n hC dX6_many_1 rfl ?_
  refine z_inv1 hM dX6_many_2 vl_RX6_124 rfl rfl rfl (Nat.le_of_ble_eq_true rfl) (Nat.le_of_ble_eq_true rfl) ?_
  refine y_isLane (V := V) ht ⟨hR.1, hR.2.1, hR.2.2⟩ (fun h1 => ?_) (fun h1 => ?_)
  · unfold opV at h1
    refine r_if_ne (tgt := 10) hC dX6_many_5 rfl (fun h2 => ?_) (fun h2 => by omega)
    have h6 := hG.1.h7 (l := l) (by first | assumption | decide | exact xs_ (by decide) | exact xc_ (by decide) | exact x31_ (by decide) | omega) (by first | assumption | decide | exact xs_ (by decide) | exact xc_ (by decide) | exact x31_ (by decide) | omega)
    have h10 := hG.2.1.2.1 l (by first | assumption | decide | exact xs_ (by decide) | exact xc_ (by decide) | exact x31_ (by decide) | omega) (by first | assumption | decide | exact xs_ (by decide) | exact xc_ (by decide) | exact x31_ (by decide) | omega)
    have hlk := hG.2.1.2.2.2.2.2.1 l (by first | assumption | decide | exact xs_ (by decide) | exact xc_ (by decide) | exact x31_ (by decide) | omega) (by first | assumption | decide | exact xs_ (by decide) | exact xc_ (by decide) | exact x31_ (by decide) | omega)
    unfold opV at hlk
    have hk13 : -1 ≤ V 13 l 0 ∧ V 13 l 0 ≤ 3 := by omega
    have hkn := hG.1.2.2.2 l (by first | assumption | decide | exact xs_ (by decide) | exact xc_ (by decide) | exact x31_ (by decide) | omega) (by first | assumption | decide | exact xs_ (by decide) | exact xc_ (by decide) | exact x31_ (by decide) | omega)
    refine r_aload_n hC dX6_many_10 rfl ?_
    refine r_iload_n hC dX6_many_11 rfl ?_
    refine r_iload_n hC dX6_many_12 rfl ?_
    refine z_inv2 hM dX6_many_13 vl_RX6_224 rfl rfl rfl (Nat.le_of_ble_eq_true rfl) (Nat.le_of_ble_eq_true rfl) ?_
    refine y_placeOf (by first | assumption | decide | exact xs_ (by decide) | exact xc_ (by decide) | exact x31_ (by decide) | omega) ht ⟨hR.1, hR.2.1, hR.2.2⟩ (by first | assumption | decide | exact xs_ (by decide) | exact xc_ (by decide) | exact x31_ (by decide) | omega) (hG.2.1.1 l (by first | assumption | decide | exact xs_ (by decide) | exact xc_ (by decide) | exact x31_ (by decide) | omega) (by first | assumption | decide | exact xs_ (by decide) | exact xc_ (by decide) | exact x31_ (by decide) | omega)) (by first | assumption | decide | exact xs_ (by decide) | exact xc_ (by decide) | exact x31_ (by decide) | omega) (fun h3 => ?_)
    refine r_aload_n hC dX6_many_16 rfl ?_
    refine r_iload_n hC dX6_many_17 rfl ?_
    refine r_iload_n hC dX6_many_18 rfl ?_
    refine z_inv2 hM dX6_many_19 vl_RX6_265 rfl rfl rfl (Nat.le_of_ble_eq_true rfl) (Nat.le_of_ble_eq_true rfl) ?_
    refine y_aheadOf (V := V) (by first | assumption | decide | exact xs_ (by decide) | exact xc_ (by decide) | exact x31_ (by decide) | omega) ht ⟨hR.1, hR.2.1, hR.2.2⟩ hG (fun h4 => ?_)
    refine r_isubE hC (((hU V l z) - (hU V l (f - 1)))) dX6_many_22 (by first | assumption | decide | exact xs_ (by decide) | exact xc_ (by decide) | exact x31_ (by decide) | omega) (by unfold inR; omega) ?_
    refine r_istore hC dX6_many_23 rfl ?_
    refine r_iload hC dX6_many_25 rfl ?_
    refine r_if_ge (tgt := 34) hC dX6_many_27 rfl (fun h5 => ?_) (fun h5 => ?_)
    · refine r_iload hC dX6_many_34 rfl ?_
      refine y_iret hK rfl dX6_many_36 ?_
      have hRr : mnR V l f z = ((hU V l z) - (hU V l (f - 1))) := by
        unfold mnR
        first | exact if_neg (by first | assumption | decide | exact xs_ (by decide) | exact xc_ (by decide) | exact x31_ (by decide) | omega) | (rw [if_pos (by first | assumption | decide | exact xs_ (by decide) | exact xc_ (by decide) | exact x31_ (by decide) | omega)]; omega)
      rw [hRr] at k
      exact k _ ⟨hR.1, hR.2.1, hR.2.2⟩
    · refine r_iconst hC dX6_many_30 rfl ?_
      refine r_goto (tgt := 36) hC dX6_many_31 rfl ?_
      refine y_iret hK rfl dX6_many_36 ?_
      have hRr : mnR V l f z = 0 := by
        unfold mnR
        first | exact if_neg (by first | assumption | decide | exact xs_ (by decide) | exact xc_ (by decide) | exact x31_ (by decide) | omega) | (rw [if_pos (by first | assumption | decide | exact xs_ (by decide) | exact xc_ (by decide) | exact x31_ (by decide) | omega)]; omega)
      rw [hRr] at k
      exact k _ ⟨hR.1, hR.2.1, hR.2.2⟩
  · unfold opV at h1
    refine r_if_ne (tgt := 10) hC dX6_many_5 rfl (fun h6 => by omega) (fun h6 => ?_)
    refine r_iconst hC dX6_many_8 rfl ?_
    refine y_iret hK rfl dX6_many_9 ?_
    have hRr : mnR V l f z = (-1) := by
      unfold mnR
      first | exact if_neg (by first | assumption | decide | exact xs_ (by decide) | exact xc_ (by decide) | exact x31_ (by decide) | omega) | (rw [if_pos (by first | assumption | decide | exact xs_ (by decide) | exact xc_ (by decide) | exact x31_ (by decide) | omega)]; omega)
    rw [hRr] at k
    exact k _ ⟨hR.1, hR.2.1, hR.2.2⟩
theorem y_state {eb : Bool} {t : Int} {V : Mm} {d : Nat} {P : Option Vl → Mm → Prop} {σ : Mm} {l w : Int}  {σ0 : Mm} (ht : 6 ≤ t ∧ t ≤ 7) (hR : RS t σ0 V σ) (hG : GI V)  (k : ∀ ρ : Mm, RS t σ0 V ρ → P (some (vI (stR V l w))) ρ) : WT (true, eb, true) (d + 3) 180 [vR 30 0, vI l, vI w] σ P := by
  refine WT_in fun K hK => ?_
  have hK : StpY (true, eb, true) cX6_state RX6 (some .int) (WT (true, eb, true) (d + 2)) P K := hK
  have hM := hK.1
  have hC := hK.1.1
  show K 0 [some (vR 30 0), some (vI l), some (vI w)] [] σ
  refine r_rngz hC (fun g0 => ?_)
  have r_l : -2147483648 ≤ l ∧ l ≤ 2147483647 := inR_le (g0 (vI l) (by simp))
  have r_w : -2147483648 ≤ w ∧ w ≤ 2147483647 := inR_le (g0 (vI w) (by simp))
  refine r_aload_n hC dX6_state_0 rfl ?_
  refine r_iload_n hC dX6_state_1 rfl ?_
  refine z_inv1 hM dX6_state_2 vl_RX6_124 rfl rfl rfl (Nat.le_of_ble_eq_true rfl) (Nat.le_of_ble_eq_true rfl) ?_
  refine y_isLane (V := V) ht ⟨hR.1, hR.2.1, hR.2.2⟩ (fun h1 => ?_) (fun h1 => ?_)
  · unfold opV at h1
    refine r_if_ne (tgt := 10) hC dX6_state_5 rfl (fun h2 => ?_) (fun h2 => by omega)
    refine r_iload_n hC dX6_state_10 rfl ?_
    rcases (by omega : (w < 0 ∨ 6 < w) ∨ w = 0 ∨ w = 1 ∨ w = 2 ∨ w = 3 ∨ w = 4 ∨ w = 5 ∨ w = 6) with h3 | h3 | h3 | h3 | h3 | h3 | h3 | h3
    · refine r_tableOut (tgt := 108) hC dX6_state_11 h3 rfl ?_
      refine r_iconst hC dX6_state_108 rfl ?_
      refine y_iret hK rfl dX6_state_109 ?_
      have hRr : stR V l w = (-1) := by
        unfold stR
        (repeat' split) <;> first | rfl | omega
      rw [hRr] at k
      exact k _ ⟨hR.1, hR.2.1, hR.2.2⟩
    · refine r_tableIn (tgt := 52) (off := 41) hC dX6_state_11 (by first | assumption | decide | exact xs_ (by decide) | exact xc_ (by decide) | exact x31_ (by decide) | omega) (by first | assumption | decide | exact xs_ (by decide) | exact xc_ (by decide) | exact x31_ (by decide) | omega) (by rw [h3]; rfl) rfl ?_
      refine r_aload_n hC dX6_state_52 rfl ?_
      refine r_iload_n hC dX6_state_53 rfl ?_
      refine r_bipush hC dX6_state_54 rfl ?_
      refine z_inv2 hM dX6_state_56 vl_RX6_80 rfl rfl rfl (Nat.le_of_ble_eq_true rfl) (Nat.le_of_ble_eq_true rfl) ?_
      refine y_of (by first | assumption | decide | exact xs_ (by decide) | exact xc_ (by decide) | exact x31_ (by decide) | omega) (by first | assumption | decide | exact xs_ (by decide) | exact xc_ (by decide) | exact x31_ (by decide) | omega) (by first | assumption | decide | exact xs_ (by decide) | exact xc_ (by decide) | exact x31_ (by decide) | omega) (fun o4 => ?_)
      have e5 : σ 31 0 (22 * l + 12) = (V 11 l 0) := (hR.1.a11 (s := 0) (f := 12) (by first | assumption | decide | exact xs_ (by decide) | exact xc_ (by decide) | exact x31_ (by decide) | omega) (by first | assumption | decide | exact xs_ (by decide) | exact xc_ (by decide) | exact x31_ (by decide) | omega) (by first | assumption | decide | exact xs_ (by decide) | exact xc_ (by decide) | exact x31_ (by decide) | omega)).trans (rfl)
      rw [e5] at o4 ⊢
      refine y_iret hK rfl dX6_state_59 ?_
      have hRr : stR V l w = (V 11 l 0) := by
        unfold stR
        (repeat' split) <;> first | rfl | omega
      rw [hRr] at k
      exact k _ ⟨hR.1, hR.2.1, hR.2.2⟩
    · refine r_tableIn (tgt := 60) (off := 49) hC dX6_state_11 (by first | assumption | decide | exact xs_ (by decide) | exact xc_ (by decide) | exact x31_ (by decide) | omega) (by first | assumption | decide | exact xs_ (by decide) | exact xc_ (by decide) | exact x31_ (by decide) | omega) (by rw [h3]; rfl) rfl ?_
      refine r_aload_n hC dX6_state_60 rfl ?_
      refine r_iload_n hC dX6_state_61 rfl ?_
      refine r_bipush hC dX6_state_62 rfl ?_
      refine z_inv2 hM dX6_state_64 vl_RX6_80 rfl rfl rfl (Nat.le_of_ble_eq_true rfl) (Nat.le_of_ble_eq_true rfl) ?_
      refine y_of (by first | assumption | decide | exact xs_ (by decide) | exact xc_ (by decide) | exact x31_ (by decide) | omega) (by first | assumption | decide | exact xs_ (by decide) | exact xc_ (by decide) | exact x31_ (by decide) | omega) (by first | assumption | decide | exact xs_ (by decide) | exact xc_ (by decide) | exact x31_ (by decide) | omega) (fun o6 => ?_)
      have e7 : σ 31 0 (22 * l + 13) = (V 11 l 1) := (hR.1.a11 (s := 1) (f := 13) (by first | assumption | decide | exact xs_ (by decide) | exact xc_ (by decide) | exact x31_ (by decide) | omega) (by first | assumption | decide | exact xs_ (by decide) | exact xc_ (by decide) | exact x31_ (by decide) | omega) (by first | assumption | decide | exact xs_ (by decide) | exact xc_ (by decide) | exact x31_ (by decide) | omega)).trans (rfl)
      rw [e7] at o6 ⊢
      refine y_iret hK rfl dX6_state_67 ?_
      have hRr : stR V l w = (V 11 l 1) := by
        unfold stR
        (repeat' split) <;> first | rfl | omega
      rw [hRr] at k
      exact k _ ⟨hR.1, hR.2.1, hR.2.2⟩
    · refine r_tableIn (tgt := 68) (off := 57) hC dX6_state_11 (by first | assumption | decide | exact xs_ (by decide) | exact xc_ (by decide) | exact x31_ (by decide) | omega) (by first | assumption | decide | exact xs_ (by decide) | exact xc_ (by decide) | exact x31_ (by decide) | omega) (by rw [h3]; rfl) rfl ?_
      refine r_aload_n hC dX6_state_68 rfl ?_
      refine r_iload_n hC dX6_state_69 rfl ?_
      refine r_bipush hC dX6_state_70 rfl ?_
      refine z_inv2 hM dX6_state_72 vl_RX6_80 rfl rfl rfl (Nat.le_of_ble_eq_true rfl) (Nat.le_of_ble_eq_true rfl) ?_
      refine y_of (by first | assumption | decide | exact xs_ (by decide) | exact xc_ (by decide) | exact x31_ (by decide) | omega) (by first | assumption | decide | exact xs_ (by decide) | exact xc_ (by decide) | exact x31_ (by decide) | omega) (by first | assumption | decide | exact xs_ (by decide) | exact xc_ (by decide) | exact x31_ (by decide) | omega) (fun o8 => ?_)
      have e9 : σ 31 0 (22 * l + 14) = (V 11 l 2) := (hR.1.a11 (s := 2) (f := 14) (by first | assumption | decide | exact xs_ (by decide) | exact xc_ (by decide) | exact x31_ (by decide) | omega) (by first | assumption | decide | exact xs_ (by decide) | exact xc_ (by decide) | exact x31_ (by decide) | omega) (by first | assumption | decide | exact xs_ (by decide) | exact xc_ (by decide) | exact x31_ (by decide) | omega)).trans (rfl)
      rw [e9] at o8 ⊢
      refine y_iret hK rfl dX6_state_75 ?_
      have hRr : stR V l w = (V 11 l 2) := by
        unfold stR
        (repeat' split) <;> first | rfl | omega
      rw [hRr] at k
      exact k _ ⟨hR.1, hR.2.1, hR.2.2⟩
    · refine r_tableIn (tgt := 76) (off := 65) hC dX6_state_11 (by first | assumption | decide | exact xs_ (by decide) | exact xc_ (by decide) | exact x31_ (by decide) | omega) (by first | assumption | decide | exact xs_ (by decide) | exact xc_ (by decide) | exact x31_ (by decide) | omega) (by rw [h3]; rfl) rfl ?_
      refine r_aload_n hC dX6_state_76 rfl ?_
      refine r_iload_n hC dX6_state_77 rfl ?_
      refine r_bipush hC dX6_state_78 rfl ?_
      refine z_inv2 hM dX6_state_80 vl_RX6_80 rfl rfl rfl (Nat.le_of_ble_eq_true rfl) (Nat.le_of_ble_eq_true rfl) ?_
      refine y_of (by first | assumption | decide | exact xs_ (by decide) | exact xc_ (by decide) | exact x31_ (by decide) | omega) (by first | assumption | decide | exact xs_ (by decide) | exact xc_ (by decide) | exact x31_ (by decide) | omega) (by first | assumption | decide | exact xs_ (by decide) | exact xc_ (by decide) | exact x31_ (by decide) | omega) (fun o10 => ?_)
      have e11 : σ 31 0 (22 * l + 15) = (V 11 l 3) := (hR.1.a11 (s := 3) (f := 15) (by first | assumption | decide | exact xs_ (by decide) | exact xc_ (by decide) | exact x31_ (by decide) | omega) (by first | assumption | decide | exact xs_ (by decide) | exact xc_ (by decide) | exact x31_ (by decide) | omega) (by first | assumption | decide | exact xs_ (by decide) | exact xc_ (by decide) | exact x31_ (by decide) | omega)).trans (rfl)
      rw [e11] at o10 ⊢
      refine y_iret hK rfl dX6_state_83 ?_
      have hRr : stR V l w = (V 11 l 3) := by
        unfold stR
        (repeat' split) <;> first | rfl | omega
      rw [hRr] at k
      exact k _ ⟨hR.1, hR.2.1, hR.2.2⟩
    · refine r_tableIn (tgt := 84) (off := 73) hC dX6_state_11 (by first | assumption | decide | exact xs_ (by decide) | exact xc_ (by decide) | exact x31_ (by decide) | omega) (by first | assumption | decide | exact xs_ (by decide) | exact xc_ (by decide) | exact x31_ (by decide) | omega) (by rw [h3]; rfl) rfl ?_
      refine r_aload_n hC dX6_state_84 rfl ?_
      refine r_iload_n hC dX6_state_85 rfl ?_
      refine r_bipush hC dX6_state_86 rfl ?_
      refine z_inv2 hM dX6_state_88 vl_RX6_80 rfl rfl rfl (Nat.le_of_ble_eq_true rfl) (Nat.le_of_ble_eq_true rfl) ?_
      refine y_of (by first | assumption | decide | exact xs_ (by decide) | exact xc_ (by decide) | exact x31_ (by decide) | omega) (by first | assumption | decide | exact xs_ (by decide) | exact xc_ (by decide) | exact x31_ (by decide) | omega) (by first | assumption | decide | exact xs_ (by decide) | exact xc_ (by decide) | exact x31_ (by decide) | omega) (fun o12 => ?_)
      have e13 : σ 31 0 (22 * l + 18) = (V 11 l 4) := (hR.1.a11 (s := 4) (f := 18) (by first | assumption | decide | exact xs_ (by decide) | exact xc_ (by decide) | exact x31_ (by decide) | omega) (by first | assumption | decide | exact xs_ (by decide) | exact xc_ (by decide) | exact x31_ (by decide) | omega) (by first | assumption | decide | exact xs_ (by decide) | exact xc_ (by decide) | exact x31_ (by decide) | omega)).trans (rfl)
      rw [e13] at o12 ⊢
      refine y_iret hK rfl dX6_state_91 ?_
      have hRr : stR V l w = (V 11 l 4) := by
        unfold stR
        (repeat' split) <;> first | rfl | omega
      rw [hRr] at k
      exact k _ ⟨hR.1, hR.2.1, hR.2.2⟩
    · refine r_tableIn (tgt := 92) (off := 81) hC dX6_state_11 (by first | assumption | decide | exact xs_ (by decide) | exact xc_ (by decide) | exact x31_ (by decide) | omega) (by first | assumption | decide | exact xs_ (by decide) | exact xc_ (by decide) | exact x31_ (by decide) | omega) (by rw [h3]; rfl) rfl ?_
      refine r_aload_n hC dX6_state_92 rfl ?_
      refine r_iload_n hC dX6_state_93 rfl ?_
      refine r_bipush hC dX6_state_94 rfl ?_
      refine z_inv2 hM dX6_state_96 vl_RX6_80 rfl rfl rfl (Nat.le_of_ble_eq_true rfl) (Nat.le_of_ble_eq_true rfl) ?_
      refine y_of (by first | assumption | decide | exact xs_ (by decide) | exact xc_ (by decide) | exact x31_ (by decide) | omega) (by first | assumption | decide | exact xs_ (by decide) | exact xc_ (by decide) | exact x31_ (by decide) | omega) (by first | assumption | decide | exact xs_ (by decide) | exact xc_ (by decide) | exact x31_ (by decide) | omega) (fun o14 => ?_)
      have e15 : σ 31 0 (22 * l + 19) = (V 11 l 5) := (hR.1.a11 (s := 5) (f := 19) (by first | assumption | decide | exact xs_ (by decide) | exact xc_ (by decide) | exact x31_ (by decide) | omega) (by first | assumption | decide | exact xs_ (by decide) | exact xc_ (by decide) | exact x31_ (by decide) | omega) (by first | assumption | decide | exact xs_ (by decide) | exact xc_ (by decide) | exact x31_ (by decide) | omega)).trans (rfl)
      rw [e15] at o14 ⊢
      refine y_iret hK rfl dX6_state_99 ?_
      have hRr : stR V l w = (V 11 l 5) := by
        unfold stR
        (repeat' split) <;> first | rfl | omega
      rw [hRr] at k
      exact k _ ⟨hR.1, hR.2.1, hR.2.2⟩
    · refine r_tableIn (tgt := 100) (off := 89) hC dX6_state_11 (by first | assumption | decide | exact xs_ (by decide) | exact xc_ (by decide) | exact x31_ (by decide) | omega) (by first | assumption | decide | exact xs_ (by decide) | exact xc_ (by decide) | exact x31_ (by decide) | omega) (by rw [h3]; rfl) rfl ?_
      refine r_aload_n hC dX6_state_100 rfl ?_
      refine r_iload_n hC dX6_state_101 rfl ?_
      refine r_bipush hC dX6_state_102 rfl ?_
      refine z_inv2 hM dX6_state_104 vl_RX6_80 rfl rfl rfl (Nat.le_of_ble_eq_true rfl) (Nat.le_of_ble_eq_true rfl) ?_
      refine y_of (by first | assumption | decide | exact xs_ (by decide) | exact xc_ (by decide) | exact x31_ (by decide) | omega) (by first | assumption | decide | exact xs_ (by decide) | exact xc_ (by decide) | exact x31_ (by decide) | omega) (by first | assumption | decide | exact xs_ (by decide) | exact xc_ (by decide) | exact x31_ (by decide) | omega) (fun o16 => ?_)
      have e17 : σ 31 0 (22 * l + 20) = (V 11 l 6) := (hR.1.a11 (s := 6) (f := 20) (by first | assumption | decide | exact xs_ (by decide) | exact xc_ (by decide) | exact x31_ (by decide) | omega) (by first | assumption | decide | exact xs_ (by decide) | exact xc_ (by decide) | exact x31_ (by decide) | omega) (by first | assumption | decide | exact xs_ (by decide) | exact xc_ (by decide) | exact x31_ (by decide) | omega)).trans (rfl)
      rw [e17] at o16 ⊢
      refine y_iret hK rfl dX6_state_107 ?_
      have hRr : stR V l w = (V 11 l 6) := by
        unfold stR
        (repeat' split) <;> first | rfl | omega
      rw [hRr] at k
      exact k _ ⟨hR.1, hR.2.1, hR.2.2⟩
  · unfold opV at h1
    refine r_if_ne (tgt := 10) hC dX6_state_5 rfl (fun h18 => by omega) (fun h18 => ?_)
    refine r_iconst hC dX6_state_8 rfl ?_
    refine y_iret hK rfl dX6_state_9 ?_
    have hRr : stR V l w = (-1) := by
      unfold stR
      (repeat' split) <;> first | rfl | omega
    rw [hRr] at k
    exact k _ ⟨hR.1, hR.2.1, hR.2.2⟩
theorem y_soon {eb : Bool} {t : Int} {V : Mm} {d : Nat} {P : Option Vl → Mm → Prop} {σ : Mm} {l w : Int}  {σ0 : Mm} (ht : 6 ≤ t ∧ t ≤ 7) (hR : RS t σ0 V σ) (hG : GI V)  (k : ∀ ρ : Mm, RS t σ0 V ρ → P (some (vI (soR V l w))) ρ) : WT (true, eb, true) (d + 3) 181 [vR 30 0, vI l, vI w] σ P := by
  refine WT_in fun K hK => ?_
  have hK : StpY (true, eb, true) cX6_soon RX6 (some .int) (WT (true, eb, true) (d + 2)) P K := hK
  have hM := hK.1
  have hC := hK.1.1
  show K 0 [some (vR 30 0), some (vI l), some (vI w)] [] σ
  refine r_rngz hC (fun g0 => ?_)
  have r_l : -2147483648 ≤ l ∧ l ≤ 2147483647 := inR_le (g0 (vI l) (by simp))
  have r_w : -2147483648 ≤ w ∧ w ≤ 2147483647 := inR_le (g0 (vI w) (by simp))
  refine r_aload_n hC dX6_soon_0 rfl ?_
  refine r_iload_n hC dX6_soon_1 rfl ?_
  refine z_inv1 hM dX6_soon_2 vl_RX6_124 rfl rfl rfl (Nat.le_of_ble_eq_true rfl) (Nat.le_of_ble_eq_true rfl) ?_
  refine y_isLane (V := V) ht ⟨hR.1, hR.2.1, hR.2.2⟩ (fun h1 => ?_) (fun h1 => ?_)
  · unfold opV at h1
    refine r_if_eq (tgt := 28) hC dX6_soon_5 rfl (fun h2 => by omega) (fun h2 => ?_)
    refine r_iload_n hC dX6_soon_8 rfl ?_
    refine r_iconst hC dX6_soon_9 rfl ?_
    refine r_iconst hC dX6_soon_10 rfl ?_
    refine z_ins3 hM dX6_soon_11 tl_RX6_76 rfl (Nat.le_of_ble_eq_true rfl) (Nat.le_of_ble_eq_true rfl) ?_
    refine m_isIn (fun h4 => ?_) (fun h4 => ?_)
    · refine r_if_eq (tgt := 28) hC dX6_soon_14 rfl (fun h5 => by omega) (fun h5 => ?_)
      refine r_iload_n hC dX6_soon_17 rfl ?_
      refine r_aload_n hC dX6_soon_18 rfl ?_
      refine r_iload_n hC dX6_soon_19 rfl ?_
      refine r_bipush hC dX6_soon_20 rfl ?_
      refine z_inv2 hM dX6_soon_22 vl_RX6_80 rfl rfl rfl (Nat.le_of_ble_eq_true rfl) (Nat.le_of_ble_eq_true rfl) ?_
      refine y_of (by first | assumption | decide | exact xs_ (by decide) | exact xc_ (by decide) | exact x31_ (by decide) | omega) (by first | assumption | decide | exact xs_ (by decide) | exact xc_ (by decide) | exact x31_ (by decide) | omega) (by first | assumption | decide | exact xs_ (by decide) | exact xc_ (by decide) | exact x31_ (by decide) | omega) (fun o6 => ?_)
      rw [(hR.2.1 l (by first | assumption | decide | exact xs_ (by decide) | exact xc_ (by decide) | exact x31_ (by decide) | omega) (by first | assumption | decide | exact xs_ (by decide) | exact xc_ (by decide) | exact x31_ (by decide) | omega)).1]
      have hFl := FIK (hG.1.2.1 l (by first | assumption | decide | exact xs_ (by decide) | exact xc_ (by decide) | exact x31_ (by decide) | omega) (by first | assumption | decide | exact xs_ (by decide) | exact xc_ (by decide) | exact x31_ (by decide) | omega)) (by have := hG.1.h7 (l := l) (by first | assumption | decide | exact xs_ (by decide) | exact xc_ (by decide) | exact x31_ (by decide) | omega) (by first | assumption | decide | exact xs_ (by decide) | exact xc_ (by decide) | exact x31_ (by decide) | omega); omega)
      obtain ⟨fl, hfl⟩ : ∃ fl : Int, fl = (if V 11 l 3 = 0 then 0 else 1) := ⟨_, rfl⟩
      rw [← hfl]
      have hfl2 : (fl = 0 ∧ V 11 l 3 = 0) ∨ (fl = 1 ∧ V 11 l 3 ≠ 0) := by rw [hfl]; split <;> omega
      refine r_icmp_eq (tgt := 30) hC dX6_soon_25 rfl (fun h7 => ?_) (fun h7 => ?_)
      · refine r_iload_n hC dX6_soon_30 rfl ?_
        refine r_if_ne (tgt := 54) hC dX6_soon_31 rfl (fun h8 => ?_) (fun h8 => ?_)
        · refine r_aload_n hC dX6_soon_54 rfl ?_
          refine r_iload_n hC dX6_soon_55 rfl ?_
          refine r_bipush hC dX6_soon_56 rfl ?_
          refine z_inv2 hM dX6_soon_58 vl_RX6_80 rfl rfl rfl (Nat.le_of_ble_eq_true rfl) (Nat.le_of_ble_eq_true rfl) ?_
          refine y_of (by first | assumption | decide | exact xs_ (by decide) | exact xc_ (by decide) | exact x31_ (by decide) | omega) (by first | assumption | decide | exact xs_ (by decide) | exact xc_ (by decide) | exact x31_ (by decide) | omega) (by first | assumption | decide | exact xs_ (by decide) | exact xc_ (by decide) | exact x31_ (by decide) | omega) (fun o9 => ?_)
          have e10 : σ 31 0 (22 * l + 15) = (V 11 l 3) := (hR.1.a11 (s := 3) (f := 15) (by first | assumption | decide | exact xs_ (by decide) | exact xc_ (by decide) | exact x31_ (by decide) | omega) (by first | assumption | decide | exact xs_ (by decide) | exact xc_ (by decide) | exact x31_ (by decide) | omega) (by first | assumption | decide | exact xs_ (by decide) | exact xc_ (by decide) | exact x31_ (by decide) | omega)).trans (rfl)
          rw [e10] at o9 ⊢
          refine r_iconst hC dX6_soon_61 rfl ?_
          refine r_iaddE hC (((V 11 l 3) + 3)) dX6_soon_62 (by first | assumption | decide | exact xs_ (by decide) | exact xc_ (by decide) | exact x31_ (by decide) | omega) (by unfold inR; omega) ?_
          refine r_iconst hC dX6_soon_63 rfl ?_
          refine r_isubE hC (((V 11 l 3) + 2)) dX6_soon_64 (by first | assumption | decide | exact xs_ (by decide) | exact xc_ (by decide) | exact x31_ (by decide) | omega) (by unfold inR; omega) ?_
          refine r_iconst hC dX6_soon_65 rfl ?_
          refine r_idivN hC dX6_soon_66 (by first | assumption | decide | exact xs_ (by decide) | exact xc_ (by decide) | exact x31_ (by decide) | omega) (by first | assumption | decide | exact xs_ (by decide) | exact xc_ (by decide) | exact x31_ (by decide) | omega) ?_
          refine y_iret hK rfl dX6_soon_67 ?_
          have hRr : soR V l w = (((V 11 l 3) + 2) / 3) := by
            unfold soR
            (repeat' split) <;> first | rfl | omega
          rw [hRr] at k
          exact k _ ⟨hR.1, hR.2.1, hR.2.2⟩
        · refine r_aload_n hC dX6_soon_34 rfl ?_
          refine r_iload_n hC dX6_soon_35 rfl ?_
          refine r_bipush hC dX6_soon_36 rfl ?_
          refine z_inv2 hM dX6_soon_38 vl_RX6_80 rfl rfl rfl (Nat.le_of_ble_eq_true rfl) (Nat.le_of_ble_eq_true rfl) ?_
          refine y_of (by first | assumption | decide | exact xs_ (by decide) | exact xc_ (by decide) | exact x31_ (by decide) | omega) (by first | assumption | decide | exact xs_ (by decide) | exact xc_ (by decide) | exact x31_ (by decide) | omega) (by first | assumption | decide | exact xs_ (by decide) | exact xc_ (by decide) | exact x31_ (by decide) | omega) (fun o11 => ?_)
          have e12 : σ 31 0 (22 * l + 12) = (V 11 l 0) := (hR.1.a11 (s := 0) (f := 12) (by first | assumption | decide | exact xs_ (by decide) | exact xc_ (by decide) | exact x31_ (by decide) | omega) (by first | assumption | decide | exact xs_ (by decide) | exact xc_ (by decide) | exact x31_ (by decide) | omega) (by first | assumption | decide | exact xs_ (by decide) | exact xc_ (by decide) | exact x31_ (by decide) | omega)).trans (rfl)
          rw [e12] at o11 ⊢
          refine r_aload_n hC dX6_soon_41 rfl ?_
          refine r_iload_n hC dX6_soon_42 rfl ?_
          refine r_bipush hC dX6_soon_43 rfl ?_
          refine z_inv2 hM dX6_soon_45 vl_RX6_80 rfl rfl rfl (Nat.le_of_ble_eq_true rfl) (Nat.le_of_ble_eq_true rfl) ?_
          refine y_of (by first | assumption | decide | exact xs_ (by decide) | exact xc_ (by decide) | exact x31_ (by decide) | omega) (by first | assumption | decide | exact xs_ (by decide) | exact xc_ (by decide) | exact x31_ (by decide) | omega) (by first | assumption | decide | exact xs_ (by decide) | exact xc_ (by decide) | exact x31_ (by decide) | omega) (fun o13 => ?_)
          have e14 : σ 31 0 (22 * l + 14) = (V 11 l 2) := (hR.1.a11 (s := 2) (f := 14) (by first | assumption | decide | exact xs_ (by decide) | exact xc_ (by decide) | exact x31_ (by decide) | omega) (by first | assumption | decide | exact xs_ (by decide) | exact xc_ (by decide) | exact x31_ (by decide) | omega) (by first | assumption | decide | exact xs_ (by decide) | exact xc_ (by decide) | exact x31_ (by decide) | omega)).trans (rfl)
          rw [e14] at o13 ⊢
          refine r_isubE hC (((V 11 l 0) - (V 11 l 2))) dX6_soon_48 (by first | assumption | decide | exact xs_ (by decide) | exact xc_ (by decide) | exact x31_ (by decide) | omega) (by unfold inR; omega) ?_
          refine r_iconst hC dX6_soon_49 rfl ?_
          refine r_iaddE hC ((((V 11 l 0) - (V 11 l 2)) + 1)) dX6_soon_50 (by first | assumption | decide | exact xs_ (by decide) | exact xc_ (by decide) | exact x31_ (by decide) | omega) (by unfold inR; omega) ?_
          refine r_goto (tgt := 67) hC dX6_soon_51 rfl ?_
          refine y_iret hK rfl dX6_soon_67 ?_
          have hRr : soR V l w = (((V 11 l 0) - (V 11 l 2)) + 1) := by
            unfold soR
            (repeat' split) <;> first | rfl | omega
          rw [hRr] at k
          exact k _ ⟨hR.1, hR.2.1, hR.2.2⟩
      · refine r_iconst hC dX6_soon_28 rfl ?_
        refine y_iret hK rfl dX6_soon_29 ?_
        have hRr : soR V l w = (-1) := by
          unfold soR
          (repeat' split) <;> first | rfl | omega
        rw [hRr] at k
        exact k _ ⟨hR.1, hR.2.1, hR.2.2⟩
    · refine r_if_eq (tgt := 28) hC dX6_soon_14 rfl (fun h15 => ?_) (fun h15 => by omega)
      refine r_iconst hC dX6_soon_28 rfl ?_
      refine y_iret hK rfl dX6_soon_29 ?_
      have hRr : soR V l w = (-1) := by
        unfold soR
        (repeat' split) <;> first | rfl | omega
      rw [hRr] at k
      exact k _ ⟨hR.1, hR.2.1, hR.2.2⟩
  · unfold opV at h1
    refine r_if_eq (tgt := 28) hC dX6_soon_5 rfl (fun h16 => ?_) (fun h16 => by omega)
    refine r_iconst hC dX6_soon_28 rfl ?_
    refine y_iret hK rfl dX6_soon_29 ?_
    have hRr : soR V l w = (-1) := by
      unfold soR
      (repeat' split) <;> first | rfl | omega
    rw [hRr] at k
    exact k _ ⟨hR.1, hR.2.1, hR.2.2⟩
theorem y_linked {eb : Bool} {t : Int} {V : Mm} {d : Nat} {P : Option Vl → Mm → Prop} {σ : Mm} {l w : Int}  {σ0 : Mm} (ht : 6 ≤ t ∧ t ≤ 7) (hR : RS t σ0 V σ) (hG : GI V)  (k : ∀ ρ : Mm, RS t σ0 V ρ → P (some (vI (lkR V l w))) ρ) : WT (true, eb, true) (d + 3) 201 [vR 30 0, vI l, vI w] σ P := by
  refine WT_in fun K hK => ?_
  have hK : StpY (true, eb, true) cX6_linked RX6 (some .int) (WT (true, eb, true) (d + 2)) P K := hK
  have hM := hK.1
  have hC := hK.1.1
  show K 0 [some (vR 30 0), some (vI l), some (vI w)] [] σ
  refine r_rngz hC (fun g0 => ?_)
  have r_l : -2147483648 ≤ l ∧ l ≤ 2147483647 := inR_le (g0 (vI l) (by simp))
  have r_w : -2147483648 ≤ w ∧ w ≤ 2147483647 := inR_le (g0 (vI w) (by simp))
  have hlkA : 0 ≤ l → l ≤ 3 → V 13 l 0 = -1 ∨ (V 7 l 1 = 1 ∧ 0 ≤ V 13 l 0) := fun a b => by
    rcases hG.2.1.2.2.2.2.2.1 l a b with q | q
    · exact Or.inl q
    · exact Or.inr ⟨q.1.2, q.2.1.1.1⟩
  refine r_aload_n hC dX6_linked_0 rfl ?_
  refine r_iload_n hC dX6_linked_1 rfl ?_
  refine z_inv1 hM dX6_linked_2 vl_RX6_124 rfl rfl rfl (Nat.le_of_ble_eq_true rfl) (Nat.le_of_ble_eq_true rfl) ?_
  refine y_isLane (V := V) ht ⟨hR.1, hR.2.1, hR.2.2⟩ (fun h1 => ?_) (fun h1 => ?_)
  · unfold opV at h1
    refine r_if_eq (tgt := 17) hC dX6_linked_5 rfl (fun h2 => by omega) (fun h2 => ?_)
    refine r_aload_n hC dX6_linked_8 rfl ?_
    refine z_getR hM dX6_linked_9 fl_RX6_52 rfl rfl (vld_of (n := 1) rfl (by first | assumption | decide | exact xs_ (by decide) | exact xc_ (by decide) | exact x31_ (by decide) | omega) (by first | assumption | decide | exact xs_ (by decide) | exact xc_ (by decide) | exact x31_ (by decide) | omega)) ?_
    refine r_iload_n hC dX6_linked_12 rfl ?_
    refine z_iald hM dX6_linked_13 rfl (by first | assumption | decide | exact xs_ (by decide) | exact xc_ (by decide) | exact x31_ (by decide) | omega) (by first | assumption | decide | exact xs_ (by decide) | exact xc_ (by decide) | exact x31_ (by decide) | omega) (fun v3 h_v3 o_v3 t_v3 => ?_)
    have w_v3 := ((t_v3 (Or.inl (by simp [Tb]))).trans ((hR.1.k0 (by first | assumption | decide | exact xs_ (by decide) | exact xc_ (by decide) | exact x31_ (by decide) | omega) (by first | assumption | decide | exact xs_ (by decide) | exact xc_ (by decide) | exact x31_ (by decide) | omega)).trans (rfl))).symm
    clear t_v3
    subst w_v3
    have q_v3 : -1 ≤ (V 13 l 0) ∧ (V 13 l 0) ≤ 3 := o_v3
    refine r_if_ge (tgt := 19) hC dX6_linked_14 rfl (fun h4 => ?_) (fun h4 => ?_)
    · refine r_iload_n hC dX6_linked_19 rfl ?_
      rcases (by omega : (w < 0 ∨ 3 < w) ∨ w = 0 ∨ w = 1 ∨ w = 2 ∨ w = 3) with h5 | h5 | h5 | h5 | h5
      · refine r_tableOut (tgt := 80) hC dX6_linked_20 h5 rfl ?_
        refine r_iconst hC dX6_linked_80 rfl ?_
        refine y_iret hK rfl dX6_linked_81 ?_
        have hRr : lkR V l w = (-1) := by
          unfold lkR
          (repeat' split) <;> first | rfl | omega
        rw [hRr] at k
        exact k _ ⟨hR.1, hR.2.1, hR.2.2⟩
      · refine r_tableIn (tgt := 52) (off := 32) hC dX6_linked_20 (by first | assumption | decide | exact xs_ (by decide) | exact xc_ (by decide) | exact x31_ (by decide) | omega) (by first | assumption | decide | exact xs_ (by decide) | exact xc_ (by decide) | exact x31_ (by decide) | omega) (by rw [h5]; rfl) rfl ?_
        refine r_aload_n hC dX6_linked_52 rfl ?_
        refine z_getR hM dX6_linked_53 fl_RX6_52 rfl rfl (vld_of (n := 1) rfl (by first | assumption | decide | exact xs_ (by decide) | exact xc_ (by decide) | exact x31_ (by decide) | omega) (by first | assumption | decide | exact xs_ (by decide) | exact xc_ (by decide) | exact x31_ (by decide) | omega)) ?_
        refine r_iload_n hC dX6_linked_56 rfl ?_
        refine z_iald hM dX6_linked_57 rfl (by first | assumption | decide | exact xs_ (by decide) | exact xc_ (by decide) | exact x31_ (by decide) | omega) (by first | assumption | decide | exact xs_ (by decide) | exact xc_ (by decide) | exact x31_ (by decide) | omega) (fun v6 h_v6 o_v6 t_v6 => ?_)
        have w_v6 := ((t_v6 (Or.inl (by simp [Tb]))).trans ((hR.1.k0 (by first | assumption | decide | exact xs_ (by decide) | exact xc_ (by decide) | exact x31_ (by decide) | omega) (by first | assumption | decide | exact xs_ (by decide) | exact xc_ (by decide) | exact x31_ (by decide) | omega)).trans (rfl))).symm
        clear t_v6
        subst w_v6
        have q_v6 : -1 ≤ (V 13 l 0) ∧ (V 13 l 0) ≤ 3 := o_v6
        refine y_iret hK rfl dX6_linked_58 ?_
        have hRr : lkR V l w = (V 13 l 0) := by
          unfold lkR
          (repeat' split) <;> first | rfl | omega
        rw [hRr] at k
        exact k _ ⟨hR.1, hR.2.1, hR.2.2⟩
      · refine r_tableIn (tgt := 59) (off := 39) hC dX6_linked_20 (by first | assumption | decide | exact xs_ (by decide) | exact xc_ (by decide) | exact x31_ (by decide) | omega) (by first | assumption | decide | exact xs_ (by decide) | exact xc_ (by decide) | exact x31_ (by decide) | omega) (by rw [h5]; rfl) rfl ?_
        refine r_aload_n hC dX6_linked_59 rfl ?_
        refine z_getR hM dX6_linked_60 fl_RX6_55 rfl rfl (vld_of (n := 1) rfl (by first | assumption | decide | exact xs_ (by decide) | exact xc_ (by decide) | exact x31_ (by decide) | omega) (by first | assumption | decide | exact xs_ (by decide) | exact xc_ (by decide) | exact x31_ (by decide) | omega)) ?_
        refine r_iload_n hC dX6_linked_63 rfl ?_
        refine z_iald hM dX6_linked_64 rfl (by first | assumption | decide | exact xs_ (by decide) | exact xc_ (by decide) | exact x31_ (by decide) | omega) (by first | assumption | decide | exact xs_ (by decide) | exact xc_ (by decide) | exact x31_ (by decide) | omega) (fun v7 h_v7 o_v7 t_v7 => ?_)
        have w_v7 := ((t_v7 (Or.inl (by simp [Tb]))).trans ((hR.1.k1 (by first | assumption | decide | exact xs_ (by decide) | exact xc_ (by decide) | exact x31_ (by decide) | omega) (by first | assumption | decide | exact xs_ (by decide) | exact xc_ (by decide) | exact x31_ (by decide) | omega)).trans (rfl))).symm
        clear t_v7
        subst w_v7
        refine y_iret hK rfl dX6_linked_65 ?_
        have hRr : lkR V l w = (V 13 l 1) := by
          unfold lkR
          (repeat' split) <;> first | rfl | omega
        rw [hRr] at k
        exact k _ ⟨hR.1, hR.2.1, hR.2.2⟩
      · refine r_tableIn (tgt := 66) (off := 46) hC dX6_linked_20 (by first | assumption | decide | exact xs_ (by decide) | exact xc_ (by decide) | exact x31_ (by decide) | omega) (by first | assumption | decide | exact xs_ (by decide) | exact xc_ (by decide) | exact x31_ (by decide) | omega) (by rw [h5]; rfl) rfl ?_
        refine r_aload_n hC dX6_linked_66 rfl ?_
        refine z_getR hM dX6_linked_67 fl_RX6_58 rfl rfl (vld_of (n := 1) rfl (by first | assumption | decide | exact xs_ (by decide) | exact xc_ (by decide) | exact x31_ (by decide) | omega) (by first | assumption | decide | exact xs_ (by decide) | exact xc_ (by decide) | exact x31_ (by decide) | omega)) ?_
        refine r_iload_n hC dX6_linked_70 rfl ?_
        refine z_iald hM dX6_linked_71 rfl (by first | assumption | decide | exact xs_ (by decide) | exact xc_ (by decide) | exact x31_ (by decide) | omega) (by first | assumption | decide | exact xs_ (by decide) | exact xc_ (by decide) | exact x31_ (by decide) | omega) (fun v8 h_v8 o_v8 t_v8 => ?_)
        have w_v8 := ((t_v8 (Or.inl (by simp [Tb]))).trans ((hR.1.k2 (by first | assumption | decide | exact xs_ (by decide) | exact xc_ (by decide) | exact x31_ (by decide) | omega) (by first | assumption | decide | exact xs_ (by decide) | exact xc_ (by decide) | exact x31_ (by decide) | omega)).trans (rfl))).symm
        clear t_v8
        subst w_v8
        have q_v8 : 0 ≤ (V 13 l 2) ∧ (V 13 l 2) ≤ 6 := o_v8
        refine y_iret hK rfl dX6_linked_72 ?_
        have hRr : lkR V l w = (V 13 l 2) := by
          unfold lkR
          (repeat' split) <;> first | rfl | omega
        rw [hRr] at k
        exact k _ ⟨hR.1, hR.2.1, hR.2.2⟩
      · refine r_tableIn (tgt := 73) (off := 53) hC dX6_linked_20 (by first | assumption | decide | exact xs_ (by decide) | exact xc_ (by decide) | exact x31_ (by decide) | omega) (by first | assumption | decide | exact xs_ (by decide) | exact xc_ (by decide) | exact x31_ (by decide) | omega) (by rw [h5]; rfl) rfl ?_
        refine r_aload_n hC dX6_linked_73 rfl ?_
        refine z_getR hM dX6_linked_74 fl_RX6_61 rfl rfl (vld_of (n := 1) rfl (by first | assumption | decide | exact xs_ (by decide) | exact xc_ (by decide) | exact x31_ (by decide) | omega) (by first | assumption | decide | exact xs_ (by decide) | exact xc_ (by decide) | exact x31_ (by decide) | omega)) ?_
        refine r_iload_n hC dX6_linked_77 rfl ?_
        refine z_iald hM dX6_linked_78 rfl (by first | assumption | decide | exact xs_ (by decide) | exact xc_ (by decide) | exact x31_ (by decide) | omega) (by first | assumption | decide | exact xs_ (by decide) | exact xc_ (by decide) | exact x31_ (by decide) | omega) (fun v9 h_v9 o_v9 t_v9 => ?_)
        have w_v9 := ((t_v9 (Or.inl (by simp [Tb]))).trans ((hR.1.k3 (by first | assumption | decide | exact xs_ (by decide) | exact xc_ (by decide) | exact x31_ (by decide) | omega) (by first | assumption | decide | exact xs_ (by decide) | exact xc_ (by decide) | exact x31_ (by decide) | omega)).trans (rfl))).symm
        clear t_v9
        subst w_v9
        refine y_iret hK rfl dX6_linked_79 ?_
        have hRr : lkR V l w = (V 13 l 3) := by
          unfold lkR
          (repeat' split) <;> first | rfl | omega
        rw [hRr] at k
        exact k _ ⟨hR.1, hR.2.1, hR.2.2⟩
    · refine r_iconst hC dX6_linked_17 rfl ?_
      refine y_iret hK rfl dX6_linked_18 ?_
      have hRr : lkR V l w = (-1) := by
        unfold lkR
        (repeat' split) <;> first | rfl | omega
      rw [hRr] at k
      exact k _ ⟨hR.1, hR.2.1, hR.2.2⟩
  · unfold opV at h1
    refine r_if_eq (tgt := 17) hC dX6_linked_5 rfl (fun h10 => ?_) (fun h10 => by omega)
    refine r_iconst hC dX6_linked_17 rfl ?_
    refine y_iret hK rfl dX6_linked_18 ?_
    have hRr : lkR V l w = (-1) := by
      unfold lkR
      (repeat' split) <;> first | rfl | omega
    rw [hRr] at k
    exact k _ ⟨hR.1, hR.2.1, hR.2.2⟩
theorem y_isTold {eb : Bool} {t : Int} {V : Mm} {d : Nat} {P : Option Vl → Mm → Prop} {σ : Mm} {v : Int}  {σ0 : Mm} (ht : 6 ≤ t ∧ t ≤ 7) (hR : RS t σ0 V σ) (hG : GI V)  (k1 : wtd V v → P (some (vI 1)) σ) (k0 : ¬ wtd V v → P (some (vI 0)) σ) : WT (true, eb, true) (d + 2) 183 [vR 30 0, vI v] σ P := by
  refine WT_in fun K hK => ?_
  have hK : StpY (true, eb, true) cX6_isTold RX6 (some .boolean) (WT (true, eb, true) (d + 1)) P K := hK
  have hM := hK.1
  have hC := hK.1.1
  show K 0 [some (vR 30 0), some (vI v)] [] σ
  refine r_rngz hC (fun g0 => ?_)
  have r_v : -2147483648 ≤ v ∧ v ≤ 2147483647 := inR_le (g0 (vI v) (by simp))
  have hwA : 0 ≤ v → v ≤ 7 → V 12 v 0 = -1 ∨ 0 ≤ V 12 v 0 := fun a b => by
    rcases (hG.2.1.2.2.2.2.2.2.1 v a b).1 with q | q
    · exact Or.inl q
    · exact Or.inr q.1.1.1
  refine r_iload_n hC dX6_isTold_0 rfl ?_
  refine r_iconst hC dX6_isTold_1 rfl ?_
  refine r_bipush hC dX6_isTold_2 rfl ?_
  refine z_ins3 hM dX6_isTold_4 tl_RX6_76 rfl (Nat.le_of_ble_eq_true rfl) (Nat.le_of_ble_eq_true rfl) ?_
  refine m_isIn (fun h2 => ?_) (fun h2 => ?_)
  · refine r_if_eq (tgt := 23) hC dX6_isTold_7 rfl (fun h3 => by omega) (fun h3 => ?_)
    refine r_aload_n hC dX6_isTold_10 rfl ?_
    refine z_getR hM dX6_isTold_11 fl_RX6_34 rfl rfl (vld_of (n := 1) rfl (by first | assumption | decide | exact xs_ (by decide) | exact xc_ (by decide) | exact x31_ (by decide) | omega) (by first | assumption | decide | exact xs_ (by decide) | exact xc_ (by decide) | exact x31_ (by decide) | omega)) ?_
    refine r_iload_n hC dX6_isTold_14 rfl ?_
    refine z_iald hM dX6_isTold_15 rfl (by first | assumption | decide | exact xs_ (by decide) | exact xc_ (by decide) | exact x31_ (by decide) | omega) (by first | assumption | decide | exact xs_ (by decide) | exact xc_ (by decide) | exact x31_ (by decide) | omega) (fun v4 h_v4 o_v4 t_v4 => ?_)
    have w_v4 := ((t_v4 (Or.inl (by simp [Tb]))).trans ((hR.1.w0 (by first | assumption | decide | exact xs_ (by decide) | exact xc_ (by decide) | exact x31_ (by decide) | omega) (by first | assumption | decide | exact xs_ (by decide) | exact xc_ (by decide) | exact x31_ (by decide) | omega)).trans (rfl))).symm
    clear t_v4
    subst w_v4
    refine r_if_lt (tgt := 23) hC dX6_isTold_16 rfl (fun h5 => ?_) (fun h5 => ?_)
    · refine r_iconst hC dX6_isTold_23 rfl ?_
      refine y_zret hK rfl dX6_isTold_24 (by first | assumption | decide | exact xs_ (by decide) | exact xc_ (by decide) | exact x31_ (by decide) | omega) ?_
      exact k0 (by first | assumption | decide | exact xs_ (by decide) | exact xc_ (by decide) | exact x31_ (by decide) | omega)
    · refine r_iconst hC dX6_isTold_19 rfl ?_
      refine r_goto (tgt := 24) hC dX6_isTold_20 rfl ?_
      refine y_zret hK rfl dX6_isTold_24 (by first | assumption | decide | exact xs_ (by decide) | exact xc_ (by decide) | exact x31_ (by decide) | omega) ?_
      exact k1 (by first | assumption | decide | exact xs_ (by decide) | exact xc_ (by decide) | exact x31_ (by decide) | omega)
  · refine r_if_eq (tgt := 23) hC dX6_isTold_7 rfl (fun h6 => ?_) (fun h6 => by omega)
    refine r_iconst hC dX6_isTold_23 rfl ?_
    refine y_zret hK rfl dX6_isTold_24 (by first | assumption | decide | exact xs_ (by decide) | exact xc_ (by decide) | exact x31_ (by decide) | omega) ?_
    exact k0 (by first | assumption | decide | exact xs_ (by decide) | exact xc_ (by decide) | exact x31_ (by decide) | omega)
theorem y_rings {eb : Bool} {t : Int} {V : Mm} {d : Nat} {P : Option Vl → Mm → Prop} {σ : Mm} {v : Int}  {σ0 : Mm} (ht : 6 ≤ t ∧ t ≤ 7) (hR : RS t σ0 V σ) (hG : GI V)  (k : ∀ ρ : Mm, RS t σ0 V ρ → P (some (vI (riR V v))) ρ) : WT (true, eb, true) (d + 3) 187 [vR 30 0, vI v] σ P := by
  refine WT_in fun K hK => ?_
  have hK : StpY (true, eb, true) cX6_rings RX6 (some .int) (WT (true, eb, true) (d + 2)) P K := hK
  have hM := hK.1
  have hC := hK.1.1
  show K 0 [some (vR 30 0), some (vI v)] [] σ
  refine r_rngz hC (fun g0 => ?_)
  have r_v : -2147483648 ≤ v ∧ v ≤ 2147483647 := inR_le (g0 (vI v) (by simp))
  refine r_aload_n hC dX6_rings_0 rfl ?_
  refine r_iload_n hC dX6_rings_1 rfl ?_
  refine z_inv1 hM dX6_rings_2 vl_RX6_210 rfl rfl rfl (Nat.le_of_ble_eq_true rfl) (Nat.le_of_ble_eq_true rfl) ?_
  refine y_isTold (V := V) ht ⟨hR.1, hR.2.1, hR.2.2⟩ hG (fun h1 => ?_) (fun h1 => ?_)
  · refine r_if_eq (tgt := 17) hC dX6_rings_5 rfl (fun h2 => by omega) (fun h2 => ?_)
    refine r_aload_n hC dX6_rings_8 rfl ?_
    refine z_getR hM dX6_rings_9 fl_RX6_46 rfl rfl (vld_of (n := 1) rfl (by first | assumption | decide | exact xs_ (by decide) | exact xc_ (by decide) | exact x31_ (by decide) | omega) (by first | assumption | decide | exact xs_ (by decide) | exact xc_ (by decide) | exact x31_ (by decide) | omega)) ?_
    refine r_iload_n hC dX6_rings_12 rfl ?_
    refine z_iald hM dX6_rings_13 rfl (by first | assumption | decide | exact xs_ (by decide) | exact xc_ (by decide) | exact x31_ (by decide) | omega) (by first | assumption | decide | exact xs_ (by decide) | exact xc_ (by decide) | exact x31_ (by decide) | omega) (fun v3 h_v3 o_v3 t_v3 => ?_)
    have w_v3 := ((t_v3 (Or.inl (by simp [Tb]))).trans ((hR.1.w4 (by first | assumption | decide | exact xs_ (by decide) | exact xc_ (by decide) | exact x31_ (by decide) | omega) (by first | assumption | decide | exact xs_ (by decide) | exact xc_ (by decide) | exact x31_ (by decide) | omega)).trans (rfl))).symm
    clear t_v3
    subst w_v3
    refine r_goto (tgt := 18) hC dX6_rings_14 rfl ?_
    refine y_iret hK rfl dX6_rings_18 ?_
    have hRr : riR V v = (V 12 v 4) := by
      unfold riR
      first | exact if_neg (by first | assumption | decide | exact xs_ (by decide) | exact xc_ (by decide) | exact x31_ (by decide) | omega) | exact if_pos (by first | assumption | decide | exact xs_ (by decide) | exact xc_ (by decide) | exact x31_ (by decide) | omega)
    rw [hRr] at k
    exact k _ ⟨hR.1, hR.2.1, hR.2.2⟩
  · refine r_if_eq (tgt := 17) hC dX6_rings_5 rfl (fun h4 => ?_) (fun h4 => by omega)
    refine r_iconst hC dX6_rings_17 rfl ?_
    refine y_iret hK rfl dX6_rings_18 ?_
    have hRr : riR V v = (-1) := by
      unfold riR
      first | exact if_neg (by first | assumption | decide | exact xs_ (by decide) | exact xc_ (by decide) | exact x31_ (by decide) | omega) | exact if_pos (by first | assumption | decide | exact xs_ (by decide) | exact xc_ (by decide) | exact x31_ (by decide) | omega)
    rw [hRr] at k
    exact k _ ⟨hR.1, hR.2.1, hR.2.2⟩
theorem y_rang {eb : Bool} {t : Int} {V : Mm} {d : Nat} {P : Option Vl → Mm → Prop} {σ : Mm} {v : Int}  {σ0 : Mm} (ht : 6 ≤ t ∧ t ≤ 7) (hR : RS t σ0 V σ) (hG : GI V)  (k : ∀ ρ : Mm, RS t σ0 V ρ → P (some (vI (raR V v))) ρ) : WT (true, eb, true) (d + 3) 188 [vR 30 0, vI v] σ P := by
  refine WT_in fun K hK => ?_
  have hK : StpY (true, eb, true) cX6_rang RX6 (some .int) (WT (true, eb, true) (d + 2)) P K := hK
  have hM := hK.1
  have hC := hK.1.1
  show K 0 [some (vR 30 0), some (vI v)] [] σ
  refine r_rngz hC (fun g0 => ?_)
  have r_v : -2147483648 ≤ v ∧ v ≤ 2147483647 := inR_le (g0 (vI v) (by simp))
  refine r_aload_n hC dX6_rang_0 rfl ?_
  refine r_iload_n hC dX6_rang_1 rfl ?_
  refine z_inv1 hM dX6_rang_2 vl_RX6_210 rfl rfl rfl (Nat.le_of_ble_eq_true rfl) (Nat.le_of_ble_eq_true rfl) ?_
  refine y_isTold (V := V) ht ⟨hR.1, hR.2.1, hR.2.2⟩ hG (fun h1 => ?_) (fun h1 => ?_)
  · refine r_if_eq (tgt := 17) hC dX6_rang_5 rfl (fun h2 => by omega) (fun h2 => ?_)
    refine r_aload_n hC dX6_rang_8 rfl ?_
    refine z_getR hM dX6_rang_9 fl_RX6_49 rfl rfl (vld_of (n := 1) rfl (by first | assumption | decide | exact xs_ (by decide) | exact xc_ (by decide) | exact x31_ (by decide) | omega) (by first | assumption | decide | exact xs_ (by decide) | exact xc_ (by decide) | exact x31_ (by decide) | omega)) ?_
    refine r_iload_n hC dX6_rang_12 rfl ?_
    refine z_iald hM dX6_rang_13 rfl (by first | assumption | decide | exact xs_ (by decide) | exact xc_ (by decide) | exact x31_ (by decide) | omega) (by first | assumption | decide | exact xs_ (by decide) | exact xc_ (by decide) | exact x31_ (by decide) | omega) (fun v3 h_v3 o_v3 t_v3 => ?_)
    have w_v3 := ((t_v3 (Or.inl (by simp [Tb]))).trans ((hR.1.w5 (by first | assumption | decide | exact xs_ (by decide) | exact xc_ (by decide) | exact x31_ (by decide) | omega) (by first | assumption | decide | exact xs_ (by decide) | exact xc_ (by decide) | exact x31_ (by decide) | omega)).trans (rfl))).symm
    clear t_v3
    subst w_v3
    refine r_goto (tgt := 18) hC dX6_rang_14 rfl ?_
    refine y_iret hK rfl dX6_rang_18 ?_
    have hRr : raR V v = (V 12 v 5) := by
      unfold raR
      first | exact if_neg (by first | assumption | decide | exact xs_ (by decide) | exact xc_ (by decide) | exact x31_ (by decide) | omega) | exact if_pos (by first | assumption | decide | exact xs_ (by decide) | exact xc_ (by decide) | exact x31_ (by decide) | omega)
    rw [hRr] at k
    exact k _ ⟨hR.1, hR.2.1, hR.2.2⟩
  · refine r_if_eq (tgt := 17) hC dX6_rang_5 rfl (fun h4 => ?_) (fun h4 => by omega)
    refine r_iconst hC dX6_rang_17 rfl ?_
    refine y_iret hK rfl dX6_rang_18 ?_
    have hRr : raR V v = (-1) := by
      unfold raR
      first | exact if_neg (by first | assumption | decide | exact xs_ (by decide) | exact xc_ (by decide) | exact x31_ (by decide) | omega) | exact if_pos (by first | assumption | decide | exact xs_ (by decide) | exact xc_ (by decide) | exact x31_ (by decide) | omega)
    rw [hRr] at k
    exact k _ ⟨hR.1, hR.2.1, hR.2.2⟩
