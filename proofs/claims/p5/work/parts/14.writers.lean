-- what is tracked is written: the calls
theorem s_openLanesX {e : Ev} {d : Nat} {P : Option Vl → Mm → Prop} {σ : Mm}   (k : P (some (vI (σ 7 0 1 + σ 7 1 1 + σ 7 2 1 + σ 7 3 1))) σ) : WT e (d + 1) 117 [vR 2 0] σ P := by
  refine WT_in fun K hK => ?_
  have hK : StpY e cX5_openLanes RX5 (some .int) (WT e (d + 0)) P K := hK
  have hM := hK.1
  have hC := hK.1.1
  show K 0 [some (vR 2 0), none, none] [] σ
  refine r_iconst hC dX5_openLanes_0 rfl ?_
  refine r_istore_n hC dX5_openLanes_1 rfl ?_
  refine r_iconst hC dX5_openLanes_2 rfl ?_
  refine r_istore_n hC dX5_openLanes_3 rfl ?_
  refine r_iload_n hC dX5_openLanes_4 rfl ?_
  refine r_iconst hC dX5_openLanes_5 rfl ?_
  refine r_icmp_ge (tgt := 35) hC dX5_openLanes_6 rfl (fun h1 => by omega) (fun h1 => ?_)
  refine r_iload_n hC dX5_openLanes_9 rfl ?_
  refine r_aload_n hC dX5_openLanes_10 rfl ?_
  refine z_getR hM dX5_openLanes_11 fl_RX5_13 rfl rfl (vld_of (n := 1) rfl (by omega) (by omega)) ?_
  refine r_iload_n hC dX5_openLanes_14 rfl ?_
  refine z_aald hM dX5_openLanes_15 rfl (by decide) (by omega) (by omega) (vld_of (n := 7) rfl (by omega) (by omega)) ?_
  refine z_getI (jz := 1) hM dX5_openLanes_16 fl_RX5_94 rfl rfl rfl (fun v2 h_v2 o_v2 t_v2 => ?_)
  have w_v2 := t_v2 (Or.inl (by simp [Tb]))
  subst w_v2
  have q_v2 : 0 ≤ (σ 7 0 1) ∧ (σ 7 0 1) ≤ 1 := by have := o_v2.2.1 rfl; omega
  refine r_if_eq (tgt := 26) hC dX5_openLanes_19 rfl (fun h3 => ?_) (fun h3 => ?_)
  · refine r_iconst hC dX5_openLanes_26 rfl ?_
    refine r_iaddE hC (0) dX5_openLanes_27 (by omega) (by unfold inR; omega) ?_
    refine r_istore_n hC dX5_openLanes_28 rfl ?_
    refine r_iincE hC (1) dX5_openLanes_29 rfl rfl (by omega) (by unfold inR; omega) ?_
    refine r_goto (tgt := 4) hC dX5_openLanes_32 rfl ?_
    refine r_iload_n hC dX5_openLanes_4 rfl ?_
    refine r_iconst hC dX5_openLanes_5 rfl ?_
    refine r_icmp_ge (tgt := 35) hC dX5_openLanes_6 rfl (fun h4 => by omega) (fun h4 => ?_)
    refine r_iload_n hC dX5_openLanes_9 rfl ?_
    refine r_aload_n hC dX5_openLanes_10 rfl ?_
    refine z_getR hM dX5_openLanes_11 fl_RX5_13 rfl rfl (vld_of (n := 1) rfl (by omega) (by omega)) ?_
    refine r_iload_n hC dX5_openLanes_14 rfl ?_
    refine z_aald hM dX5_openLanes_15 rfl (by decide) (by omega) (by omega) (vld_of (n := 7) rfl (by omega) (by omega)) ?_
    refine z_getI (jz := 1) hM dX5_openLanes_16 fl_RX5_94 rfl rfl rfl (fun v5 h_v5 o_v5 t_v5 => ?_)
    have w_v5 := t_v5 (Or.inl (by simp [Tb]))
    subst w_v5
    have q_v5 : 0 ≤ (σ 7 1 1) ∧ (σ 7 1 1) ≤ 1 := by have := o_v5.2.1 rfl; omega
    refine r_if_eq (tgt := 26) hC dX5_openLanes_19 rfl (fun h6 => ?_) (fun h6 => ?_)
    · refine r_iconst hC dX5_openLanes_26 rfl ?_
      refine r_iaddE hC (0) dX5_openLanes_27 (by omega) (by unfold inR; omega) ?_
      refine r_istore_n hC dX5_openLanes_28 rfl ?_
      refine r_iincE hC (2) dX5_openLanes_29 rfl rfl (by omega) (by unfold inR; omega) ?_
      refine r_goto (tgt := 4) hC dX5_openLanes_32 rfl ?_
      refine r_iload_n hC dX5_openLanes_4 rfl ?_
      refine r_iconst hC dX5_openLanes_5 rfl ?_
      refine r_icmp_ge (tgt := 35) hC dX5_openLanes_6 rfl (fun h7 => by omega) (fun h7 => ?_)
      refine r_iload_n hC dX5_openLanes_9 rfl ?_
      refine r_aload_n hC dX5_openLanes_10 rfl ?_
      refine z_getR hM dX5_openLanes_11 fl_RX5_13 rfl rfl (vld_of (n := 1) rfl (by omega) (by omega)) ?_
      refine r_iload_n hC dX5_openLanes_14 rfl ?_
      refine z_aald hM dX5_openLanes_15 rfl (by decide) (by omega) (by omega) (vld_of (n := 7) rfl (by omega) (by omega)) ?_
      refine z_getI (jz := 1) hM dX5_openLanes_16 fl_RX5_94 rfl rfl rfl (fun v8 h_v8 o_v8 t_v8 => ?_)
      have w_v8 := t_v8 (Or.inl (by simp [Tb]))
      subst w_v8
      have q_v8 : 0 ≤ (σ 7 2 1) ∧ (σ 7 2 1) ≤ 1 := by have := o_v8.2.1 rfl; omega
      refine r_if_eq (tgt := 26) hC dX5_openLanes_19 rfl (fun h9 => ?_) (fun h9 => ?_)
      · refine r_iconst hC dX5_openLanes_26 rfl ?_
        refine r_iaddE hC (0) dX5_openLanes_27 (by omega) (by unfold inR; omega) ?_
        refine r_istore_n hC dX5_openLanes_28 rfl ?_
        refine r_iincE hC (3) dX5_openLanes_29 rfl rfl (by omega) (by unfold inR; omega) ?_
        refine r_goto (tgt := 4) hC dX5_openLanes_32 rfl ?_
        refine r_iload_n hC dX5_openLanes_4 rfl ?_
        refine r_iconst hC dX5_openLanes_5 rfl ?_
        refine r_icmp_ge (tgt := 35) hC dX5_openLanes_6 rfl (fun h10 => by omega) (fun h10 => ?_)
        refine r_iload_n hC dX5_openLanes_9 rfl ?_
        refine r_aload_n hC dX5_openLanes_10 rfl ?_
        refine z_getR hM dX5_openLanes_11 fl_RX5_13 rfl rfl (vld_of (n := 1) rfl (by omega) (by omega)) ?_
        refine r_iload_n hC dX5_openLanes_14 rfl ?_
        refine z_aald hM dX5_openLanes_15 rfl (by decide) (by omega) (by omega) (vld_of (n := 7) rfl (by omega) (by omega)) ?_
        refine z_getI (jz := 1) hM dX5_openLanes_16 fl_RX5_94 rfl rfl rfl (fun v11 h_v11 o_v11 t_v11 => ?_)
        have w_v11 := t_v11 (Or.inl (by simp [Tb]))
        subst w_v11
        have q_v11 : 0 ≤ (σ 7 3 1) ∧ (σ 7 3 1) ≤ 1 := by have := o_v11.2.1 rfl; omega
        refine r_if_eq (tgt := 26) hC dX5_openLanes_19 rfl (fun h12 => ?_) (fun h12 => ?_)
        · refine r_iconst hC dX5_openLanes_26 rfl ?_
          refine r_iaddE hC (0) dX5_openLanes_27 (by omega) (by unfold inR; omega) ?_
          refine r_istore_n hC dX5_openLanes_28 rfl ?_
          refine r_iincE hC (4) dX5_openLanes_29 rfl rfl (by omega) (by unfold inR; omega) ?_
          refine r_goto (tgt := 4) hC dX5_openLanes_32 rfl ?_
          refine r_iload_n hC dX5_openLanes_4 rfl ?_
          refine r_iconst hC dX5_openLanes_5 rfl ?_
          refine r_icmp_ge (tgt := 35) hC dX5_openLanes_6 rfl (fun h13 => ?_) (fun h13 => by omega)
          refine r_iload_n hC dX5_openLanes_35 rfl ?_
          refine y_iret hK rfl dX5_openLanes_36 ?_
          rw [show σ 7 0 1 + σ 7 1 1 + σ 7 2 1 + σ 7 3 1 = 0 from by omega] at k
          exact k
        · refine r_iconst hC dX5_openLanes_22 rfl ?_
          refine r_goto (tgt := 27) hC dX5_openLanes_23 rfl ?_
          refine r_iaddE hC (1) dX5_openLanes_27 (by omega) (by unfold inR; omega) ?_
          refine r_istore_n hC dX5_openLanes_28 rfl ?_
          refine r_iincE hC (4) dX5_openLanes_29 rfl rfl (by omega) (by unfold inR; omega) ?_
          refine r_goto (tgt := 4) hC dX5_openLanes_32 rfl ?_
          refine r_iload_n hC dX5_openLanes_4 rfl ?_
          refine r_iconst hC dX5_openLanes_5 rfl ?_
          refine r_icmp_ge (tgt := 35) hC dX5_openLanes_6 rfl (fun h14 => ?_) (fun h14 => by omega)
          refine r_iload_n hC dX5_openLanes_35 rfl ?_
          refine y_iret hK rfl dX5_openLanes_36 ?_
          rw [show σ 7 0 1 + σ 7 1 1 + σ 7 2 1 + σ 7 3 1 = 1 from by omega] at k
          exact k
      · refine r_iconst hC dX5_openLanes_22 rfl ?_
        refine r_goto (tgt := 27) hC dX5_openLanes_23 rfl ?_
        refine r_iaddE hC (1) dX5_openLanes_27 (by omega) (by unfold inR; omega) ?_
        refine r_istore_n hC dX5_openLanes_28 rfl ?_
        refine r_iincE hC (3) dX5_openLanes_29 rfl rfl (by omega) (by unfold inR; omega) ?_
        refine r_goto (tgt := 4) hC dX5_openLanes_32 rfl ?_
        refine r_iload_n hC dX5_openLanes_4 rfl ?_
        refine r_iconst hC dX5_openLanes_5 rfl ?_
        refine r_icmp_ge (tgt := 35) hC dX5_openLanes_6 rfl (fun h15 => by omega) (fun h15 => ?_)
        refine r_iload_n hC dX5_openLanes_9 rfl ?_
        refine r_aload_n hC dX5_openLanes_10 rfl ?_
        refine z_getR hM dX5_openLanes_11 fl_RX5_13 rfl rfl (vld_of (n := 1) rfl (by omega) (by omega)) ?_
        refine r_iload_n hC dX5_openLanes_14 rfl ?_
        refine z_aald hM dX5_openLanes_15 rfl (by decide) (by omega) (by omega) (vld_of (n := 7) rfl (by omega) (by omega)) ?_
        refine z_getI (jz := 1) hM dX5_openLanes_16 fl_RX5_94 rfl rfl rfl (fun v16 h_v16 o_v16 t_v16 => ?_)
        have w_v16 := t_v16 (Or.inl (by simp [Tb]))
        subst w_v16
        have q_v16 : 0 ≤ (σ 7 3 1) ∧ (σ 7 3 1) ≤ 1 := by have := o_v16.2.1 rfl; omega
        refine r_if_eq (tgt := 26) hC dX5_openLanes_19 rfl (fun h17 => ?_) (fun h17 => ?_)
        · refine r_iconst hC dX5_openLanes_26 rfl ?_
          refine r_iaddE hC (1) dX5_openLanes_27 (by omega) (by unfold inR; omega) ?_
          refine r_istore_n hC dX5_openLanes_28 rfl ?_
          refine r_iincE hC (4) dX5_openLanes_29 rfl rfl (by omega) (by unfold inR; omega) ?_
          refine r_goto (tgt := 4) hC dX5_openLanes_32 rfl ?_
          refine r_iload_n hC dX5_openLanes_4 rfl ?_
          refine r_iconst hC dX5_openLanes_5 rfl ?_
          refine r_icmp_ge (tgt := 35) hC dX5_openLanes_6 rfl (fun h18 => ?_) (fun h18 => by omega)
          refine r_iload_n hC dX5_openLanes_35 rfl ?_
          refine y_iret hK rfl dX5_openLanes_36 ?_
          rw [show σ 7 0 1 + σ 7 1 1 + σ 7 2 1 + σ 7 3 1 = 1 from by omega] at k
          exact k
        · refine r_iconst hC dX5_openLanes_22 rfl ?_
          refine r_goto (tgt := 27) hC dX5_openLanes_23 rfl ?_
          refine r_iaddE hC (2) dX5_openLanes_27 (by omega) (by unfold inR; omega) ?_
          refine r_istore_n hC dX5_openLanes_28 rfl ?_
          refine r_iincE hC (4) dX5_openLanes_29 rfl rfl (by omega) (by unfold inR; omega) ?_
          refine r_goto (tgt := 4) hC dX5_openLanes_32 rfl ?_
          refine r_iload_n hC dX5_openLanes_4 rfl ?_
          refine r_iconst hC dX5_openLanes_5 rfl ?_
          refine r_icmp_ge (tgt := 35) hC dX5_openLanes_6 rfl (fun h19 => ?_) (fun h19 => by omega)
          refine r_iload_n hC dX5_openLanes_35 rfl ?_
          refine y_iret hK rfl dX5_openLanes_36 ?_
          rw [show σ 7 0 1 + σ 7 1 1 + σ 7 2 1 + σ 7 3 1 = 2 from by omega] at k
          exact k
    · refine r_iconst hC dX5_openLanes_22 rfl ?_
      refine r_goto (tgt := 27) hC dX5_openLanes_23 rfl ?_
      refine r_iaddE hC (1) dX5_openLanes_27 (by omega) (by unfold inR; omega) ?_
      refine r_istore_n hC dX5_openLanes_28 rfl ?_
      refine r_iincE hC (2) dX5_openLanes_29 rfl rfl (by omega) (by unfold inR; omega) ?_
      refine r_goto (tgt := 4) hC dX5_openLanes_32 rfl ?_
      refine r_iload_n hC dX5_openLanes_4 rfl ?_
      refine r_iconst hC dX5_openLanes_5 rfl ?_
      refine r_icmp_ge (tgt := 35) hC dX5_openLanes_6 rfl (fun h20 => by omega) (fun h20 => ?_)
      refine r_iload_n hC dX5_openLanes_9 rfl ?_
      refine r_aload_n hC dX5_openLanes_10 rfl ?_
      refine z_getR hM dX5_openLanes_11 fl_RX5_13 rfl rfl (vld_of (n := 1) rfl (by omega) (by omega)) ?_
      refine r_iload_n hC dX5_openLanes_14 rfl ?_
      refine z_aald hM dX5_openLanes_15 rfl (by decide) (by omega) (by omega) (vld_of (n := 7) rfl (by omega) (by omega)) ?_
      refine z_getI (jz := 1) hM dX5_openLanes_16 fl_RX5_94 rfl rfl rfl (fun v21 h_v21 o_v21 t_v21 => ?_)
      have w_v21 := t_v21 (Or.inl (by simp [Tb]))
      subst w_v21
      have q_v21 : 0 ≤ (σ 7 2 1) ∧ (σ 7 2 1) ≤ 1 := by have := o_v21.2.1 rfl; omega
      refine r_if_eq (tgt := 26) hC dX5_openLanes_19 rfl (fun h22 => ?_) (fun h22 => ?_)
      · refine r_iconst hC dX5_openLanes_26 rfl ?_
        refine r_iaddE hC (1) dX5_openLanes_27 (by omega) (by unfold inR; omega) ?_
        refine r_istore_n hC dX5_openLanes_28 rfl ?_
        refine r_iincE hC (3) dX5_openLanes_29 rfl rfl (by omega) (by unfold inR; omega) ?_
        refine r_goto (tgt := 4) hC dX5_openLanes_32 rfl ?_
        refine r_iload_n hC dX5_openLanes_4 rfl ?_
        refine r_iconst hC dX5_openLanes_5 rfl ?_
        refine r_icmp_ge (tgt := 35) hC dX5_openLanes_6 rfl (fun h23 => by omega) (fun h23 => ?_)
        refine r_iload_n hC dX5_openLanes_9 rfl ?_
        refine r_aload_n hC dX5_openLanes_10 rfl ?_
        refine z_getR hM dX5_openLanes_11 fl_RX5_13 rfl rfl (vld_of (n := 1) rfl (by omega) (by omega)) ?_
        refine r_iload_n hC dX5_openLanes_14 rfl ?_
        refine z_aald hM dX5_openLanes_15 rfl (by decide) (by omega) (by omega) (vld_of (n := 7) rfl (by omega) (by omega)) ?_
        refine z_getI (jz := 1) hM dX5_openLanes_16 fl_RX5_94 rfl rfl rfl (fun v24 h_v24 o_v24 t_v24 => ?_)
        have w_v24 := t_v24 (Or.inl (by simp [Tb]))
        subst w_v24
        have q_v24 : 0 ≤ (σ 7 3 1) ∧ (σ 7 3 1) ≤ 1 := by have := o_v24.2.1 rfl; omega
        refine r_if_eq (tgt := 26) hC dX5_openLanes_19 rfl (fun h25 => ?_) (fun h25 => ?_)
        · refine r_iconst hC dX5_openLanes_26 rfl ?_
          refine r_iaddE hC (1) dX5_openLanes_27 (by omega) (by unfold inR; omega) ?_
          refine r_istore_n hC dX5_openLanes_28 rfl ?_
          refine r_iincE hC (4) dX5_openLanes_29 rfl rfl (by omega) (by unfold inR; omega) ?_
          refine r_goto (tgt := 4) hC dX5_openLanes_32 rfl ?_
          refine r_iload_n hC dX5_openLanes_4 rfl ?_
          refine r_iconst hC dX5_openLanes_5 rfl ?_
          refine r_icmp_ge (tgt := 35) hC dX5_openLanes_6 rfl (fun h26 => ?_) (fun h26 => by omega)
          refine r_iload_n hC dX5_openLanes_35 rfl ?_
          refine y_iret hK rfl dX5_openLanes_36 ?_
          rw [show σ 7 0 1 + σ 7 1 1 + σ 7 2 1 + σ 7 3 1 = 1 from by omega] at k
          exact k
        · refine r_iconst hC dX5_openLanes_22 rfl ?_
          refine r_goto (tgt := 27) hC dX5_openLanes_23 rfl ?_
          refine r_iaddE hC (2) dX5_openLanes_27 (by omega) (by unfold inR; omega) ?_
          refine r_istore_n hC dX5_openLanes_28 rfl ?_
          refine r_iincE hC (4) dX5_openLanes_29 rfl rfl (by omega) (by unfold inR; omega) ?_
          refine r_goto (tgt := 4) hC dX5_openLanes_32 rfl ?_
          refine r_iload_n hC dX5_openLanes_4 rfl ?_
          refine r_iconst hC dX5_openLanes_5 rfl ?_
          refine r_icmp_ge (tgt := 35) hC dX5_openLanes_6 rfl (fun h27 => ?_) (fun h27 => by omega)
          refine r_iload_n hC dX5_openLanes_35 rfl ?_
          refine y_iret hK rfl dX5_openLanes_36 ?_
          rw [show σ 7 0 1 + σ 7 1 1 + σ 7 2 1 + σ 7 3 1 = 2 from by omega] at k
          exact k
      · refine r_iconst hC dX5_openLanes_22 rfl ?_
        refine r_goto (tgt := 27) hC dX5_openLanes_23 rfl ?_
        refine r_iaddE hC (2) dX5_openLanes_27 (by omega) (by unfold inR; omega) ?_
        refine r_istore_n hC dX5_openLanes_28 rfl ?_
        refine r_iincE hC (3) dX5_openLanes_29 rfl rfl (by omega) (by unfold inR; omega) ?_
        refine r_goto (tgt := 4) hC dX5_openLanes_32 rfl ?_
        refine r_iload_n hC dX5_openLanes_4 rfl ?_
        refine r_iconst hC dX5_openLanes_5 rfl ?_
        refine r_icmp_ge (tgt := 35) hC dX5_openLanes_6 rfl (fun h28 => by omega) (fun h28 => ?_)
        refine r_iload_n hC dX5_openLanes_9 rfl ?_
        refine r_aload_n hC dX5_openLanes_10 rfl ?_
        refine z_getR hM dX5_openLanes_11 fl_RX5_13 rfl rfl (vld_of (n := 1) rfl (by omega) (by omega)) ?_
        refine r_iload_n hC dX5_openLanes_14 rfl ?_
        refine z_aald hM dX5_openLanes_15 rfl (by decide) (by omega) (by omega) (vld_of (n := 7) rfl (by omega) (by omega)) ?_
        refine z_getI (jz := 1) hM dX5_openLanes_16 fl_RX5_94 rfl rfl rfl (fun v29 h_v29 o_v29 t_v29 => ?_)
        have w_v29 := t_v29 (Or.inl (by simp [Tb]))
        subst w_v29
        have q_v29 : 0 ≤ (σ 7 3 1) ∧ (σ 7 3 1) ≤ 1 := by have := o_v29.2.1 rfl; omega
        refine r_if_eq (tgt := 26) hC dX5_openLanes_19 rfl (fun h30 => ?_) (fun h30 => ?_)
        · refine r_iconst hC dX5_openLanes_26 rfl ?_
          refine r_iaddE hC (2) dX5_openLanes_27 (by omega) (by unfold inR; omega) ?_
          refine r_istore_n hC dX5_openLanes_28 rfl ?_
          refine r_iincE hC (4) dX5_openLanes_29 rfl rfl (by omega) (by unfold inR; omega) ?_
          refine r_goto (tgt := 4) hC dX5_openLanes_32 rfl ?_
          refine r_iload_n hC dX5_openLanes_4 rfl ?_
          refine r_iconst hC dX5_openLanes_5 rfl ?_
          refine r_icmp_ge (tgt := 35) hC dX5_openLanes_6 rfl (fun h31 => ?_) (fun h31 => by omega)
          refine r_iload_n hC dX5_openLanes_35 rfl ?_
          refine y_iret hK rfl dX5_openLanes_36 ?_
          rw [show σ 7 0 1 + σ 7 1 1 + σ 7 2 1 + σ 7 3 1 = 2 from by omega] at k
          exact k
        · refine r_iconst hC dX5_openLanes_22 rfl ?_
          refine r_goto (tgt := 27) hC dX5_openLanes_23 rfl ?_
          refine r_iaddE hC (3) dX5_openLanes_27 (by omega) (by unfold inR; omega) ?_
          refine r_istore_n hC dX5_openLanes_28 rfl ?_
          refine r_iincE hC (4) dX5_openLanes_29 rfl rfl (by omega) (by unfold inR; omega) ?_
          refine r_goto (tgt := 4) hC dX5_openLanes_32 rfl ?_
          refine r_iload_n hC dX5_openLanes_4 rfl ?_
          refine r_iconst hC dX5_openLanes_5 rfl ?_
          refine r_icmp_ge (tgt := 35) hC dX5_openLanes_6 rfl (fun h32 => ?_) (fun h32 => by omega)
          refine r_iload_n hC dX5_openLanes_35 rfl ?_
          refine y_iret hK rfl dX5_openLanes_36 ?_
          rw [show σ 7 0 1 + σ 7 1 1 + σ 7 2 1 + σ 7 3 1 = 3 from by omega] at k
          exact k
  · refine r_iconst hC dX5_openLanes_22 rfl ?_
    refine r_goto (tgt := 27) hC dX5_openLanes_23 rfl ?_
    refine r_iaddE hC (1) dX5_openLanes_27 (by omega) (by unfold inR; omega) ?_
    refine r_istore_n hC dX5_openLanes_28 rfl ?_
    refine r_iincE hC (1) dX5_openLanes_29 rfl rfl (by omega) (by unfold inR; omega) ?_
    refine r_goto (tgt := 4) hC dX5_openLanes_32 rfl ?_
    refine r_iload_n hC dX5_openLanes_4 rfl ?_
    refine r_iconst hC dX5_openLanes_5 rfl ?_
    refine r_icmp_ge (tgt := 35) hC dX5_openLanes_6 rfl (fun h33 => by omega) (fun h33 => ?_)
    refine r_iload_n hC dX5_openLanes_9 rfl ?_
    refine r_aload_n hC dX5_openLanes_10 rfl ?_
    refine z_getR hM dX5_openLanes_11 fl_RX5_13 rfl rfl (vld_of (n := 1) rfl (by omega) (by omega)) ?_
    refine r_iload_n hC dX5_openLanes_14 rfl ?_
    refine z_aald hM dX5_openLanes_15 rfl (by decide) (by omega) (by omega) (vld_of (n := 7) rfl (by omega) (by omega)) ?_
    refine z_getI (jz := 1) hM dX5_openLanes_16 fl_RX5_94 rfl rfl rfl (fun v34 h_v34 o_v34 t_v34 => ?_)
    have w_v34 := t_v34 (Or.inl (by simp [Tb]))
    subst w_v34
    have q_v34 : 0 ≤ (σ 7 1 1) ∧ (σ 7 1 1) ≤ 1 := by have := o_v34.2.1 rfl; omega
    refine r_if_eq (tgt := 26) hC dX5_openLanes_19 rfl (fun h35 => ?_) (fun h35 => ?_)
    · refine r_iconst hC dX5_openLanes_26 rfl ?_
      refine r_iaddE hC (1) dX5_openLanes_27 (by omega) (by unfold inR; omega) ?_
      refine r_istore_n hC dX5_openLanes_28 rfl ?_
      refine r_iincE hC (2) dX5_openLanes_29 rfl rfl (by omega) (by unfold inR; omega) ?_
      refine r_goto (tgt := 4) hC dX5_openLanes_32 rfl ?_
      refine r_iload_n hC dX5_openLanes_4 rfl ?_
      refine r_iconst hC dX5_openLanes_5 rfl ?_
      refine r_icmp_ge (tgt := 35) hC dX5_openLanes_6 rfl (fun h36 => by omega) (fun h36 => ?_)
      refine r_iload_n hC dX5_openLanes_9 rfl ?_
      refine r_aload_n hC dX5_openLanes_10 rfl ?_
      refine z_getR hM dX5_openLanes_11 fl_RX5_13 rfl rfl (vld_of (n := 1) rfl (by omega) (by omega)) ?_
      refine r_iload_n hC dX5_openLanes_14 rfl ?_
      refine z_aald hM dX5_openLanes_15 rfl (by decide) (by omega) (by omega) (vld_of (n := 7) rfl (by omega) (by omega)) ?_
      refine z_getI (jz := 1) hM dX5_openLanes_16 fl_RX5_94 rfl rfl rfl (fun v37 h_v37 o_v37 t_v37 => ?_)
      have w_v37 := t_v37 (Or.inl (by simp [Tb]))
      subst w_v37
      have q_v37 : 0 ≤ (σ 7 2 1) ∧ (σ 7 2 1) ≤ 1 := by have := o_v37.2.1 rfl; omega
      refine r_if_eq (tgt := 26) hC dX5_openLanes_19 rfl (fun h38 => ?_) (fun h38 => ?_)
      · refine r_iconst hC dX5_openLanes_26 rfl ?_
        refine r_iaddE hC (1) dX5_openLanes_27 (by omega) (by unfold inR; omega) ?_
        refine r_istore_n hC dX5_openLanes_28 rfl ?_
        refine r_iincE hC (3) dX5_openLanes_29 rfl rfl (by omega) (by unfold inR; omega) ?_
        refine r_goto (tgt := 4) hC dX5_openLanes_32 rfl ?_
        refine r_iload_n hC dX5_openLanes_4 rfl ?_
        refine r_iconst hC dX5_openLanes_5 rfl ?_
        refine r_icmp_ge (tgt := 35) hC dX5_openLanes_6 rfl (fun h39 => by omega) (fun h39 => ?_)
        refine r_iload_n hC dX5_openLanes_9 rfl ?_
        refine r_aload_n hC dX5_openLanes_10 rfl ?_
        refine z_getR hM dX5_openLanes_11 fl_RX5_13 rfl rfl (vld_of (n := 1) rfl (by omega) (by omega)) ?_
        refine r_iload_n hC dX5_openLanes_14 rfl ?_
        refine z_aald hM dX5_openLanes_15 rfl (by decide) (by omega) (by omega) (vld_of (n := 7) rfl (by omega) (by omega)) ?_
        refine z_getI (jz := 1) hM dX5_openLanes_16 fl_RX5_94 rfl rfl rfl (fun v40 h_v40 o_v40 t_v40 => ?_)
        have w_v40 := t_v40 (Or.inl (by simp [Tb]))
        subst w_v40
        have q_v40 : 0 ≤ (σ 7 3 1) ∧ (σ 7 3 1) ≤ 1 := by have := o_v40.2.1 rfl; omega
        refine r_if_eq (tgt := 26) hC dX5_openLanes_19 rfl (fun h41 => ?_) (fun h41 => ?_)
        · refine r_iconst hC dX5_openLanes_26 rfl ?_
          refine r_iaddE hC (1) dX5_openLanes_27 (by omega) (by unfold inR; omega) ?_
          refine r_istore_n hC dX5_openLanes_28 rfl ?_
          refine r_iincE hC (4) dX5_openLanes_29 rfl rfl (by omega) (by unfold inR; omega) ?_
          refine r_goto (tgt := 4) hC dX5_openLanes_32 rfl ?_
          refine r_iload_n hC dX5_openLanes_4 rfl ?_
          refine r_iconst hC dX5_openLanes_5 rfl ?_
          refine r_icmp_ge (tgt := 35) hC dX5_openLanes_6 rfl (fun h42 => ?_) (fun h42 => by omega)
          refine r_iload_n hC dX5_openLanes_35 rfl ?_
          refine y_iret hK rfl dX5_openLanes_36 ?_
          rw [show σ 7 0 1 + σ 7 1 1 + σ 7 2 1 + σ 7 3 1 = 1 from by omega] at k
          exact k
        · refine r_iconst hC dX5_openLanes_22 rfl ?_
          refine r_goto (tgt := 27) hC dX5_openLanes_23 rfl ?_
          refine r_iaddE hC (2) dX5_openLanes_27 (by omega) (by unfold inR; omega) ?_
          refine r_istore_n hC dX5_openLanes_28 rfl ?_
          refine r_iincE hC (4) dX5_openLanes_29 rfl rfl (by omega) (by unfold inR; omega) ?_
          refine r_goto (tgt := 4) hC dX5_openLanes_32 rfl ?_
          refine r_iload_n hC dX5_openLanes_4 rfl ?_
          refine r_iconst hC dX5_openLanes_5 rfl ?_
          refine r_icmp_ge (tgt := 35) hC dX5_openLanes_6 rfl (fun h43 => ?_) (fun h43 => by omega)
          refine r_iload_n hC dX5_openLanes_35 rfl ?_
          refine y_iret hK rfl dX5_openLanes_36 ?_
          rw [show σ 7 0 1 + σ 7 1 1 + σ 7 2 1 + σ 7 3 1 = 2 from by omega] at k
          exact k
      · refine r_iconst hC dX5_openLanes_22 rfl ?_
        refine r_goto (tgt := 27) hC dX5_openLanes_23 rfl ?_
        refine r_iaddE hC (2) dX5_openLanes_27 (by omega) (by unfold inR; omega) ?_
        refine r_istore_n hC dX5_openLanes_28 rfl ?_
        refine r_iincE hC (3) dX5_openLanes_29 rfl rfl (by omega) (by unfold inR; omega) ?_
        refine r_goto (tgt := 4) hC dX5_openLanes_32 rfl ?_
        refine r_iload_n hC dX5_openLanes_4 rfl ?_
        refine r_iconst hC dX5_openLanes_5 rfl ?_
        refine r_icmp_ge (tgt := 35) hC dX5_openLanes_6 rfl (fun h44 => by omega) (fun h44 => ?_)
        refine r_iload_n hC dX5_openLanes_9 rfl ?_
        refine r_aload_n hC dX5_openLanes_10 rfl ?_
        refine z_getR hM dX5_openLanes_11 fl_RX5_13 rfl rfl (vld_of (n := 1) rfl (by omega) (by omega)) ?_
        refine r_iload_n hC dX5_openLanes_14 rfl ?_
        refine z_aald hM dX5_openLanes_15 rfl (by decide) (by omega) (by omega) (vld_of (n := 7) rfl (by omega) (by omega)) ?_
        refine z_getI (jz := 1) hM dX5_openLanes_16 fl_RX5_94 rfl rfl rfl (fun v45 h_v45 o_v45 t_v45 => ?_)
        have w_v45 := t_v45 (Or.inl (by simp [Tb]))
        subst w_v45
        have q_v45 : 0 ≤ (σ 7 3 1) ∧ (σ 7 3 1) ≤ 1 := by have := o_v45.2.1 rfl; omega
        refine r_if_eq (tgt := 26) hC dX5_openLanes_19 rfl (fun h46 => ?_) (fun h46 => ?_)
        · refine r_iconst hC dX5_openLanes_26 rfl ?_
          refine r_iaddE hC (2) dX5_openLanes_27 (by omega) (by unfold inR; omega) ?_
          refine r_istore_n hC dX5_openLanes_28 rfl ?_
          refine r_iincE hC (4) dX5_openLanes_29 rfl rfl (by omega) (by unfold inR; omega) ?_
          refine r_goto (tgt := 4) hC dX5_openLanes_32 rfl ?_
          refine r_iload_n hC dX5_openLanes_4 rfl ?_
          refine r_iconst hC dX5_openLanes_5 rfl ?_
          refine r_icmp_ge (tgt := 35) hC dX5_openLanes_6 rfl (fun h47 => ?_) (fun h47 => by omega)
          refine r_iload_n hC dX5_openLanes_35 rfl ?_
          refine y_iret hK rfl dX5_openLanes_36 ?_
          rw [show σ 7 0 1 + σ 7 1 1 + σ 7 2 1 + σ 7 3 1 = 2 from by omega] at k
          exact k
        · refine r_iconst hC dX5_openLanes_22 rfl ?_
          refine r_goto (tgt := 27) hC dX5_openLanes_23 rfl ?_
          refine r_iaddE hC (3) dX5_openLanes_27 (by omega) (by unfold inR; omega) ?_
          refine r_istore_n hC dX5_openLanes_28 rfl ?_
          refine r_iincE hC (4) dX5_openLanes_29 rfl rfl (by omega) (by unfold inR; omega) ?_
          refine r_goto (tgt := 4) hC dX5_openLanes_32 rfl ?_
          refine r_iload_n hC dX5_openLanes_4 rfl ?_
          refine r_iconst hC dX5_openLanes_5 rfl ?_
          refine r_icmp_ge (tgt := 35) hC dX5_openLanes_6 rfl (fun h48 => ?_) (fun h48 => by omega)
          refine r_iload_n hC dX5_openLanes_35 rfl ?_
          refine y_iret hK rfl dX5_openLanes_36 ?_
          rw [show σ 7 0 1 + σ 7 1 1 + σ 7 2 1 + σ 7 3 1 = 3 from by omega] at k
          exact k
    · refine r_iconst hC dX5_openLanes_22 rfl ?_
      refine r_goto (tgt := 27) hC dX5_openLanes_23 rfl ?_
      refine r_iaddE hC (2) dX5_openLanes_27 (by omega) (by unfold inR; omega) ?_
      refine r_istore_n hC dX5_openLanes_28 rfl ?_
      refine r_iincE hC (2) dX5_openLanes_29 rfl rfl (by omega) (by unfold inR; omega) ?_
      refine r_goto (tgt := 4) hC dX5_openLanes_32 rfl ?_
      refine r_iload_n hC dX5_openLanes_4 rfl ?_
      refine r_iconst hC dX5_openLanes_5 rfl ?_
      refine r_icmp_ge (tgt := 35) hC dX5_openLanes_6 rfl (fun h49 => by omega) (fun h49 => ?_)
      refine r_iload_n hC dX5_openLanes_9 rfl ?_
      refine r_aload_n hC dX5_openLanes_10 rfl ?_
      refine z_getR hM dX5_openLanes_11 fl_RX5_13 rfl rfl (vld_of (n := 1) rfl (by omega) (by omega)) ?_
      refine r_iload_n hC dX5_openLanes_14 rfl ?_
      refine z_aald hM dX5_openLanes_15 rfl (by decide) (by omega) (by omega) (vld_of (n := 7) rfl (by omega) (by omega)) ?_
      refine z_getI (jz := 1) hM dX5_openLanes_16 fl_RX5_94 rfl rfl rfl (fun v50 h_v50 o_v50 t_v50 => ?_)
      have w_v50 := t_v50 (Or.inl (by simp [Tb]))
      subst w_v50
      have q_v50 : 0 ≤ (σ 7 2 1) ∧ (σ 7 2 1) ≤ 1 := by have := o_v50.2.1 rfl; omega
      refine r_if_eq (tgt := 26) hC dX5_openLanes_19 rfl (fun h51 => ?_) (fun h51 => ?_)
      · refine r_iconst hC dX5_openLanes_26 rfl ?_
        refine r_iaddE hC (2) dX5_openLanes_27 (by omega) (by unfold inR; omega) ?_
        refine r_istore_n hC dX5_openLanes_28 rfl ?_
        refine r_iincE hC (3) dX5_openLanes_29 rfl rfl (by omega) (by unfold inR; omega) ?_
        refine r_goto (tgt := 4) hC dX5_openLanes_32 rfl ?_
        refine r_iload_n hC dX5_openLanes_4 rfl ?_
        refine r_iconst hC dX5_openLanes_5 rfl ?_
        refine r_icmp_ge (tgt := 35) hC dX5_openLanes_6 rfl (fun h52 => by omega) (fun h52 => ?_)
        refine r_iload_n hC dX5_openLanes_9 rfl ?_
        refine r_aload_n hC dX5_openLanes_10 rfl ?_
        refine z_getR hM dX5_openLanes_11 fl_RX5_13 rfl rfl (vld_of (n := 1) rfl (by omega) (by omega)) ?_
        refine r_iload_n hC dX5_openLanes_14 rfl ?_
        refine z_aald hM dX5_openLanes_15 rfl (by decide) (by omega) (by omega) (vld_of (n := 7) rfl (by omega) (by omega)) ?_
        refine z_getI (jz := 1) hM dX5_openLanes_16 fl_RX5_94 rfl rfl rfl (fun v53 h_v53 o_v53 t_v53 => ?_)
        have w_v53 := t_v53 (Or.inl (by simp [Tb]))
        subst w_v53
        have q_v53 : 0 ≤ (σ 7 3 1) ∧ (σ 7 3 1) ≤ 1 := by have := o_v53.2.1 rfl; omega
        refine r_if_eq (tgt := 26) hC dX5_openLanes_19 rfl (fun h54 => ?_) (fun h54 => ?_)
        · refine r_iconst hC dX5_openLanes_26 rfl ?_
          refine r_iaddE hC (2) dX5_openLanes_27 (by omega) (by unfold inR; omega) ?_
          refine r_istore_n hC dX5_openLanes_28 rfl ?_
          refine r_iincE hC (4) dX5_openLanes_29 rfl rfl (by omega) (by unfold inR; omega) ?_
          refine r_goto (tgt := 4) hC dX5_openLanes_32 rfl ?_
          refine r_iload_n hC dX5_openLanes_4 rfl ?_
          refine r_iconst hC dX5_openLanes_5 rfl ?_
          refine r_icmp_ge (tgt := 35) hC dX5_openLanes_6 rfl (fun h55 => ?_) (fun h55 => by omega)
          refine r_iload_n hC dX5_openLanes_35 rfl ?_
          refine y_iret hK rfl dX5_openLanes_36 ?_
          rw [show σ 7 0 1 + σ 7 1 1 + σ 7 2 1 + σ 7 3 1 = 2 from by omega] at k
          exact k
        · refine r_iconst hC dX5_openLanes_22 rfl ?_
          refine r_goto (tgt := 27) hC dX5_openLanes_23 rfl ?_
          refine r_iaddE hC (3) dX5_openLanes_27 (by omega) (by unfold inR; omega) ?_
          refine r_istore_n hC dX5_openLanes_28 rfl ?_
          refine r_iincE hC (4) dX5_openLanes_29 rfl rfl (by omega) (by unfold inR; omega) ?_
          refine r_goto (tgt := 4) hC dX5_openLanes_32 rfl ?_
          refine r_iload_n hC dX5_openLanes_4 rfl ?_
          refine r_iconst hC dX5_openLanes_5 rfl ?_
          refine r_icmp_ge (tgt := 35) hC dX5_openLanes_6 rfl (fun h56 => ?_) (fun h56 => by omega)
          refine r_iload_n hC dX5_openLanes_35 rfl ?_
          refine y_iret hK rfl dX5_openLanes_36 ?_
          rw [show σ 7 0 1 + σ 7 1 1 + σ 7 2 1 + σ 7 3 1 = 3 from by omega] at k
          exact k
      · refine r_iconst hC dX5_openLanes_22 rfl ?_
        refine r_goto (tgt := 27) hC dX5_openLanes_23 rfl ?_
        refine r_iaddE hC (3) dX5_openLanes_27 (by omega) (by unfold inR; omega) ?_
        refine r_istore_n hC dX5_openLanes_28 rfl ?_
        refine r_iincE hC (3) dX5_openLanes_29 rfl rfl (by omega) (by unfold inR; omega) ?_
        refine r_goto (tgt := 4) hC dX5_openLanes_32 rfl ?_
        refine r_iload_n hC dX5_openLanes_4 rfl ?_
        refine r_iconst hC dX5_openLanes_5 rfl ?_
        refine r_icmp_ge (tgt := 35) hC dX5_openLanes_6 rfl (fun h57 => by omega) (fun h57 => ?_)
        refine r_iload_n hC dX5_openLanes_9 rfl ?_
        refine r_aload_n hC dX5_openLanes_10 rfl ?_
        refine z_getR hM dX5_openLanes_11 fl_RX5_13 rfl rfl (vld_of (n := 1) rfl (by omega) (by omega)) ?_
        refine r_iload_n hC dX5_openLanes_14 rfl ?_
        refine z_aald hM dX5_openLanes_15 rfl (by decide) (by omega) (by omega) (vld_of (n := 7) rfl (by omega) (by omega)) ?_
        refine z_getI (jz := 1) hM dX5_openLanes_16 fl_RX5_94 rfl rfl rfl (fun v58 h_v58 o_v58 t_v58 => ?_)
        have w_v58 := t_v58 (Or.inl (by simp [Tb]))
        subst w_v58
        have q_v58 : 0 ≤ (σ 7 3 1) ∧ (σ 7 3 1) ≤ 1 := by have := o_v58.2.1 rfl; omega
        refine r_if_eq (tgt := 26) hC dX5_openLanes_19 rfl (fun h59 => ?_) (fun h59 => ?_)
        · refine r_iconst hC dX5_openLanes_26 rfl ?_
          refine r_iaddE hC (3) dX5_openLanes_27 (by omega) (by unfold inR; omega) ?_
          refine r_istore_n hC dX5_openLanes_28 rfl ?_
          refine r_iincE hC (4) dX5_openLanes_29 rfl rfl (by omega) (by unfold inR; omega) ?_
          refine r_goto (tgt := 4) hC dX5_openLanes_32 rfl ?_
          refine r_iload_n hC dX5_openLanes_4 rfl ?_
          refine r_iconst hC dX5_openLanes_5 rfl ?_
          refine r_icmp_ge (tgt := 35) hC dX5_openLanes_6 rfl (fun h60 => ?_) (fun h60 => by omega)
          refine r_iload_n hC dX5_openLanes_35 rfl ?_
          refine y_iret hK rfl dX5_openLanes_36 ?_
          rw [show σ 7 0 1 + σ 7 1 1 + σ 7 2 1 + σ 7 3 1 = 3 from by omega] at k
          exact k
        · refine r_iconst hC dX5_openLanes_22 rfl ?_
          refine r_goto (tgt := 27) hC dX5_openLanes_23 rfl ?_
          refine r_iaddE hC (4) dX5_openLanes_27 (by omega) (by unfold inR; omega) ?_
          refine r_istore_n hC dX5_openLanes_28 rfl ?_
          refine r_iincE hC (4) dX5_openLanes_29 rfl rfl (by omega) (by unfold inR; omega) ?_
          refine r_goto (tgt := 4) hC dX5_openLanes_32 rfl ?_
          refine r_iload_n hC dX5_openLanes_4 rfl ?_
          refine r_iconst hC dX5_openLanes_5 rfl ?_
          refine r_icmp_ge (tgt := 35) hC dX5_openLanes_6 rfl (fun h61 => ?_) (fun h61 => by omega)
          refine r_iload_n hC dX5_openLanes_35 rfl ?_
          refine y_iret hK rfl dX5_openLanes_36 ?_
          rw [show σ 7 0 1 + σ 7 1 1 + σ 7 2 1 + σ 7 3 1 = 4 from by omega] at k
          exact k
theorem m_openLanesX {e : Ev} {d : Nat} {P : Option Vl → Mm → Prop} {σ : Mm}   (k : P (some (vI (σ 31 0 (22 * 0 + 0) + σ 31 0 (22 * 1 + 0) + σ 31 0 (22 * 2 + 0) + σ 31 0 (22 * 3 + 0)))) σ) : WT e (d + 2) 175 [vR 30 0] σ P := by
  refine WT_in fun K hK => ?_
  have hK : StpY e cX6_openLanes RX6 (some .int) (WT e (d + 1)) P K := hK
  have hM := hK.1
  have hC := hK.1.1
  show K 0 [some (vR 30 0), none, none] [] σ
  refine r_iconst hC dX6_openLanes_0 rfl ?_
  refine r_istore_n hC dX6_openLanes_1 rfl ?_
  refine r_iconst hC dX6_openLanes_2 rfl ?_
  refine r_istore_n hC dX6_openLanes_3 rfl ?_
  refine r_iload_n hC dX6_openLanes_4 rfl ?_
  refine r_iconst hC dX6_openLanes_5 rfl ?_
  refine r_icmp_ge (tgt := 24) hC dX6_openLanes_6 rfl (fun h1 => by omega) (fun h1 => ?_)
  refine r_iload_n hC dX6_openLanes_9 rfl ?_
  refine r_aload_n hC dX6_openLanes_10 rfl ?_
  refine r_iload_n hC dX6_openLanes_11 rfl ?_
  refine r_iconst hC dX6_openLanes_12 rfl ?_
  refine z_inv2 hM dX6_openLanes_13 vl_RX6_80 rfl rfl rfl (Nat.le_of_ble_eq_true rfl) (Nat.le_of_ble_eq_true rfl) ?_
  refine m_of (by omega) (by omega) (fun v2 h_v2 h5_v2 h0_v2 t_v2 => ?_)
  have w_v2 := t_v2 (Or.inl (by simp only [Tb]; try omega))
  subst w_v2
  have q_v2 := h0_v2 rfl
  refine r_iaddE hC ((σ 31 0 (22 * 0 + 0))) dX6_openLanes_16 (by omega) (by unfold inR; omega) ?_
  refine r_istore_n hC dX6_openLanes_17 rfl ?_
  show K _ [_, _, _] _ _
  refine r_iincE hC (1) dX6_openLanes_18 rfl rfl (by omega) (by unfold inR; omega) ?_
  refine r_goto (tgt := 4) hC dX6_openLanes_21 rfl ?_
  refine r_iload_n hC dX6_openLanes_4 rfl ?_
  refine r_iconst hC dX6_openLanes_5 rfl ?_
  refine r_icmp_ge (tgt := 24) hC dX6_openLanes_6 rfl (fun h3 => by omega) (fun h3 => ?_)
  refine r_iload_n hC dX6_openLanes_9 rfl ?_
  refine r_aload_n hC dX6_openLanes_10 rfl ?_
  refine r_iload_n hC dX6_openLanes_11 rfl ?_
  refine r_iconst hC dX6_openLanes_12 rfl ?_
  refine z_inv2 hM dX6_openLanes_13 vl_RX6_80 rfl rfl rfl (Nat.le_of_ble_eq_true rfl) (Nat.le_of_ble_eq_true rfl) ?_
  refine m_of (by omega) (by omega) (fun v4 h_v4 h5_v4 h0_v4 t_v4 => ?_)
  have w_v4 := t_v4 (Or.inl (by simp only [Tb]; try omega))
  subst w_v4
  have q_v4 := h0_v4 rfl
  refine r_iaddE hC (((σ 31 0 (22 * 0 + 0)) + (σ 31 0 (22 * 1 + 0)))) dX6_openLanes_16 (by omega) (by unfold inR; omega) ?_
  refine r_istore_n hC dX6_openLanes_17 rfl ?_
  refine r_iincE hC (2) dX6_openLanes_18 rfl rfl (by omega) (by unfold inR; omega) ?_
  show K _ [_, _, _] _ _
  refine r_goto (tgt := 4) hC dX6_openLanes_21 rfl ?_
  refine r_iload_n hC dX6_openLanes_4 rfl ?_
  refine r_iconst hC dX6_openLanes_5 rfl ?_
  refine r_icmp_ge (tgt := 24) hC dX6_openLanes_6 rfl (fun h5 => by omega) (fun h5 => ?_)
  refine r_iload_n hC dX6_openLanes_9 rfl ?_
  refine r_aload_n hC dX6_openLanes_10 rfl ?_
  refine r_iload_n hC dX6_openLanes_11 rfl ?_
  refine r_iconst hC dX6_openLanes_12 rfl ?_
  refine z_inv2 hM dX6_openLanes_13 vl_RX6_80 rfl rfl rfl (Nat.le_of_ble_eq_true rfl) (Nat.le_of_ble_eq_true rfl) ?_
  refine m_of (by omega) (by omega) (fun v6 h_v6 h5_v6 h0_v6 t_v6 => ?_)
  have w_v6 := t_v6 (Or.inl (by simp only [Tb]; try omega))
  subst w_v6
  have q_v6 := h0_v6 rfl
  refine r_iaddE hC ((((σ 31 0 (22 * 0 + 0)) + (σ 31 0 (22 * 1 + 0))) + (σ 31 0 (22 * 2 + 0)))) dX6_openLanes_16 (by omega) (by unfold inR; omega) ?_
  refine r_istore_n hC dX6_openLanes_17 rfl ?_
  refine r_iincE hC (3) dX6_openLanes_18 rfl rfl (by omega) (by unfold inR; omega) ?_
  refine r_goto (tgt := 4) hC dX6_openLanes_21 rfl ?_
  refine r_iload_n hC dX6_openLanes_4 rfl ?_
  refine r_iconst hC dX6_openLanes_5 rfl ?_
  refine r_icmp_ge (tgt := 24) hC dX6_openLanes_6 rfl (fun h7 => by omega) (fun h7 => ?_)
  refine r_iload_n hC dX6_openLanes_9 rfl ?_
  refine r_aload_n hC dX6_openLanes_10 rfl ?_
  refine r_iload_n hC dX6_openLanes_11 rfl ?_
  refine r_iconst hC dX6_openLanes_12 rfl ?_
  refine z_inv2 hM dX6_openLanes_13 vl_RX6_80 rfl rfl rfl (Nat.le_of_ble_eq_true rfl) (Nat.le_of_ble_eq_true rfl) ?_
  refine m_of (by omega) (by omega) (fun v8 h_v8 h5_v8 h0_v8 t_v8 => ?_)
  have w_v8 := t_v8 (Or.inl (by simp only [Tb]; try omega))
  subst w_v8
  have q_v8 := h0_v8 rfl
  refine r_iaddE hC (((((σ 31 0 (22 * 0 + 0)) + (σ 31 0 (22 * 1 + 0))) + (σ 31 0 (22 * 2 + 0))) + (σ 31 0 (22 * 3 + 0)))) dX6_openLanes_16 (by omega) (by unfold inR; omega) ?_
  refine r_istore_n hC dX6_openLanes_17 rfl ?_
  show K _ [_, _, _] _ _
  refine r_iincE hC (4) dX6_openLanes_18 rfl rfl (by omega) (by unfold inR; omega) ?_
  refine r_goto (tgt := 4) hC dX6_openLanes_21 rfl ?_
  refine r_iload_n hC dX6_openLanes_4 rfl ?_
  refine r_iconst hC dX6_openLanes_5 rfl ?_
  refine r_icmp_ge (tgt := 24) hC dX6_openLanes_6 rfl (fun h9 => ?_) (fun h9 => by omega)
  refine r_iload_n hC dX6_openLanes_24 rfl ?_
  refine y_iret hK rfl dX6_openLanes_25 ?_
  have e : σ 31 0 (22 * 0 + 0) + σ 31 0 (22 * 1 + 0) + σ 31 0 (22 * 2 + 0) + σ 31 0 (22 * 3 + 0) = ((((σ 31 0 (22 * 0 + 0)) + (σ 31 0 (22 * 1 + 0))) + (σ 31 0 (22 * 2 + 0))) + (σ 31 0 (22 * 3 + 0))) := by omega
  rw [e] at k
  exact k
theorem s_Lane_begin {d : Nat} {P : Option Vl → Mm → Prop} {σ : Mm} {i o b z y g1 g2 g3 g4 g6 : Int} (b_i : 0 ≤ i ∧ i ≤ 6) (b_o : 0 ≤ o ∧ o ≤ 9) (qg0 : σ 7 i 1 = g1) (qg1 : σ 7 i 2 = g2) (qg2 : σ 7 i 3 = g3) (qg3 : σ 7 i 4 = g4) (qg4 : σ 7 i 6 = g6)  (k : ∀ ρ : Mm, Gx (fun c x y => c = 7 ∧ x = i ∧ (y = 1 ∨ y = 2 ∨ y = 3 ∨ y = 4 ∨ y = 6)) σ ρ → ρ 7 i 1 = 1 → ρ 7 i 2 = o → ρ 7 i 3 = b → ρ 7 i 4 = z → ρ 7 i 6 = 0 → P none ρ) : WT (true, false, false) (d + 2) 26 [vR 7 i, vI o, vI b, vI z, vI y] σ P := by
  refine WT_in fun K hK => ?_
  have hK : StpY (true, false, false) cX2_begin RX2 (none) (WT (true, false, false) (d + 1)) P K := hK
  have hM := hK.1
  have hC := hK.1.1
  show K 0 [some (vR 7 i), some (vI o), some (vI b), some (vI z), some (vI y)] [] σ
  refine r_rngz hC (fun g0 => ?_)
  have r_b : -2147483648 ≤ b ∧ b ≤ 2147483647 := inR_le (g0 (vI b) (by simp))
  have r_z : -2147483648 ≤ z ∧ z ≤ 2147483647 := inR_le (g0 (vI z) (by simp))
  have r_y : -2147483648 ≤ y ∧ y ≤ 2147483647 := inR_le (g0 (vI y) (by simp))
  refine r_aload_n hC dX2_begin_0 rfl ?_
  refine r_iconst hC dX2_begin_1 rfl ?_
  refine z_putZG (jz := 1) hM dX2_begin_2 fw_RX2_32 rfl rfl rfl (by omega) ⟨Or.inl rfl, Or.inr (by simp [DF])⟩ (by first | trivial | (simp only [Okv]; omega) | (simp [Okv]; try omega)) (fun ρ1 a_ρ1 q_ρ1 => ?_)
  refine r_aload_n hC dX2_begin_5 rfl ?_
  refine r_iload_n hC dX2_begin_6 rfl ?_
  refine z_putIG (jz := 2) hM dX2_begin_7 fw_RX2_36 rfl rfl rfl ⟨Or.inl rfl, Or.inr (by simp [DF])⟩ (by first | trivial | (simp only [Okv]; omega) | (simp [Okv]; try omega)) (fun ρ2 a_ρ2 q_ρ2 => ?_)
  refine r_aload_n hC dX2_begin_10 rfl ?_
  refine r_iload_n hC dX2_begin_11 rfl ?_
  refine z_putIG (jz := 3) hM dX2_begin_12 fw_RX2_39 rfl rfl rfl ⟨Or.inl rfl, Or.inr (by simp [DF])⟩ (by first | trivial | (simp only [Okv]; omega) | (simp [Okv]; try omega)) (fun ρ3 a_ρ3 q_ρ3 => ?_)
  refine r_aload_n hC dX2_begin_15 rfl ?_
  refine r_iload_n hC dX2_begin_16 rfl ?_
  refine z_putIG (jz := 4) hM dX2_begin_17 fw_RX2_42 rfl rfl rfl ⟨Or.inl rfl, Or.inr (by simp [DF])⟩ (by first | trivial | (simp only [Okv]; omega) | (simp [Okv]; try omega)) (fun ρ4 a_ρ4 q_ρ4 => ?_)
  refine r_aload_n hC dX2_begin_20 rfl ?_
  refine r_iload hC dX2_begin_21 rfl ?_
  refine z_putIU (jz := 5) hM dX2_begin_23 fw_RX2_45 rfl rfl rfl (by simp [Un, Tb, DL, DF, DR]) (by simp [Okv]) ?_
  refine r_aload_n hC dX2_begin_26 rfl ?_
  refine r_iconst hC dX2_begin_27 rfl ?_
  refine z_putIG (jz := 6) hM dX2_begin_28 fw_RX2_48 rfl rfl rfl ⟨Or.inl rfl, Or.inr (by simp [DF])⟩ (by first | trivial | (simp only [Okv]; omega) | (simp [Okv]; try omega)) (fun ρ5 a_ρ5 q_ρ5 => ?_)
  refine r_aload_n hC dX2_begin_31 rfl ?_
  refine r_iconst hC dX2_begin_32 rfl ?_
  refine z_putIU (jz := 10) hM dX2_begin_33 fw_RX2_51 rfl rfl rfl (by simp [Un, Tb, DL, DF, DR]) (by simp [Okv]) ?_
  refine r_aload_n hC dX2_begin_36 rfl ?_
  refine r_iconst hC dX2_begin_37 rfl ?_
  refine z_putIU (jz := 11) hM dX2_begin_38 fw_RX2_54 rfl rfl rfl (by simp [Un, Tb, DL, DF, DR]) (by simp [Okv]) ?_
  refine r_aload_n hC dX2_begin_41 rfl ?_
  refine r_iconst hC dX2_begin_42 rfl ?_
  refine z_putIU (jz := 12) hM dX2_begin_43 fw_RX2_57 rfl rfl rfl (by simp [Un, Tb, DL, DF, DR]) (by simp [Okv]) ?_
  refine r_aload_n hC dX2_begin_46 rfl ?_
  refine r_iconst hC dX2_begin_47 rfl ?_
  refine z_putIU (jz := 13) hM dX2_begin_48 fw_RX2_60 rfl rfl rfl (by simp [Un, Tb, DL, DF, DR]) (by simp [Okv]) ?_
  refine r_aload_n hC dX2_begin_51 rfl ?_
  refine r_iconst hC dX2_begin_52 rfl ?_
  refine z_putIU (jz := 14) hM dX2_begin_53 fw_RX2_63 rfl rfl rfl (by simp [Un, Tb, DL, DF, DR]) (by simp [Okv]) ?_
  refine r_aload_n hC dX2_begin_56 rfl ?_
  refine r_iconst hC dX2_begin_57 rfl ?_
  refine z_putIU (jz := 15) hM dX2_begin_58 fw_RX2_66 rfl rfl rfl (by simp [Un, Tb, DL, DF, DR]) (by simp [Okv]) ?_
  refine r_aload_n hC dX2_begin_61 rfl ?_
  refine z_getR hM dX2_begin_62 fl_RX2_28 rfl rfl (vld_of (n := 8) rfl (by omega) (by omega)) ?_
  refine z_inv0 hM dX2_begin_65 vl_RX2_69 rfl rfl rfl (Nat.le_of_ble_eq_true rfl) (Nat.le_of_ble_eq_true rfl) ?_
  refine s_Flip_clear (by omega) ?_
  refine y_vret hK rfl dX2_begin_68 ?_
  exact k _ ((((((Gx.rf).al a_ρ1 (by first | simp | omega)).al a_ρ2 (by first | simp | omega)).al a_ρ3 (by first | simp | omega)).al a_ρ4 (by first | simp | omega)).al a_ρ5 (by first | simp | omega)) (by have hq := ((a_ρ5 _ _ _ (by omega)).trans ((a_ρ4 _ _ _ (by omega)).trans ((a_ρ3 _ _ _ (by omega)).trans ((a_ρ2 _ _ _ (by omega)).trans q_ρ1)))); omega) (by have hq := ((a_ρ5 _ _ _ (by omega)).trans ((a_ρ4 _ _ _ (by omega)).trans ((a_ρ3 _ _ _ (by omega)).trans q_ρ2))); omega) (by have hq := ((a_ρ5 _ _ _ (by omega)).trans ((a_ρ4 _ _ _ (by omega)).trans q_ρ3)); omega) (by have hq := ((a_ρ5 _ _ _ (by omega)).trans q_ρ4); omega) (by have hq := q_ρ5; omega)
theorem s_Lane_copy {d : Nat} {P : Option Vl → Mm → Prop} {σ : Mm} {i j g0 g1 g2 g3 g4 g6 a0 a1 a2 a3 a4 a6 : Int} (b_i : 0 ≤ i ∧ i ≤ 6) (b_j : 0 ≤ j ∧ j ≤ 6) (qg0 : σ 7 i 0 = g0) (qg1 : σ 7 i 1 = g1) (qg2 : σ 7 i 2 = g2) (qg3 : σ 7 i 3 = g3) (qg4 : σ 7 i 4 = g4) (qg5 : σ 7 i 6 = g6) (qg6 : σ 7 j 0 = a0) (b_a1 : 0 ≤ a1 ∧ a1 ≤ 1) (qg7 : σ 7 j 1 = a1) (b_a2 : 0 ≤ a2 ∧ a2 ≤ 9) (qg8 : σ 7 j 2 = a2) (qg9 : σ 7 j 3 = a3) (qg10 : σ 7 j 4 = a4) (b_a6 : 0 ≤ a6 ∧ a6 ≤ 121) (qg11 : σ 7 j 6 = a6) (hij : i ≠ j)  (k : ∀ ρ : Mm, Gx (fun c x y => c = 7 ∧ x = i ∧ (y = 0 ∨ y = 1 ∨ y = 2 ∨ y = 3 ∨ y = 4 ∨ y = 6)) σ ρ → ρ 7 i 0 = a0 → ρ 7 i 1 = a1 → ρ 7 i 2 = a2 → ρ 7 i 3 = a3 → ρ 7 i 4 = a4 → ρ 7 i 6 = a6 → P none ρ) : WT (true, false, false) (d + 2) 27 [vR 7 i, vR 7 j] σ P := by
  refine WT_in fun K hK => ?_
  have hK : StpY (true, false, false) cX2_copyFrom RX2 (none) (WT (true, false, false) (d + 1)) P K := hK
  have hM := hK.1
  have hC := hK.1.1
  show K 0 [some (vR 7 i), some (vR 7 j)] [] σ
  refine r_aload_n hC dX2_copyFrom_0 rfl ?_
  refine r_aload_n hC dX2_copyFrom_1 rfl ?_
  refine z_getI (jz := 0) hM dX2_copyFrom_2 fl_RX2_9 rfl rfl rfl (fun v1 h_v1 o_v1 t_v1 => ?_)
  have e_v1 : a0 = v1 := ((t_v1 (Or.inl (by simp [Tb]))).trans qg6).symm
  subst e_v1
  refine z_putIG (jz := 0) hM dX2_copyFrom_5 fw_RX2_9 rfl rfl rfl ⟨Or.inl rfl, Or.inr (by simp [DF])⟩ (by first | trivial | (simp only [Okv]; omega) | (simp [Okv]; try omega)) (fun ρ2 a_ρ2 q_ρ2 => ?_)
  refine r_aload_n hC dX2_copyFrom_8 rfl ?_
  refine r_aload_n hC dX2_copyFrom_9 rfl ?_
  refine z_getI (jz := 1) hM dX2_copyFrom_10 fl_RX2_32 rfl rfl rfl (fun v3 h_v3 o_v3 t_v3 => ?_)
  have e_v3 : a1 = v3 := ((t_v3 (Or.inl (by simp [Tb]))).trans ((a_ρ2 _ _ _ (by omega)).trans qg7)).symm
  subst e_v3
  refine z_putZG (jz := 1) hM dX2_copyFrom_13 fw_RX2_32 rfl rfl rfl (by omega) ⟨Or.inl rfl, Or.inr (by simp [DF])⟩ (by first | trivial | (simp only [Okv]; omega) | (simp [Okv]; try omega)) (fun ρ4 a_ρ4 q_ρ4 => ?_)
  refine r_aload_n hC dX2_copyFrom_16 rfl ?_
  refine r_aload_n hC dX2_copyFrom_17 rfl ?_
  refine z_getI (jz := 2) hM dX2_copyFrom_18 fl_RX2_36 rfl rfl rfl (fun v5 h_v5 o_v5 t_v5 => ?_)
  have e_v5 : a2 = v5 := ((t_v5 (Or.inl (by simp [Tb]))).trans ((a_ρ4 _ _ _ (by omega)).trans ((a_ρ2 _ _ _ (by omega)).trans qg8))).symm
  subst e_v5
  refine z_putIG (jz := 2) hM dX2_copyFrom_21 fw_RX2_36 rfl rfl rfl ⟨Or.inl rfl, Or.inr (by simp [DF])⟩ (by first | trivial | (simp only [Okv]; omega) | (simp [Okv]; try omega)) (fun ρ6 a_ρ6 q_ρ6 => ?_)
  refine r_aload_n hC dX2_copyFrom_24 rfl ?_
  refine r_aload_n hC dX2_copyFrom_25 rfl ?_
  refine z_getI (jz := 3) hM dX2_copyFrom_26 fl_RX2_39 rfl rfl rfl (fun v7 h_v7 o_v7 t_v7 => ?_)
  have e_v7 : a3 = v7 := ((t_v7 (Or.inr (Or.inl ⟨rfl, Or.inl rfl⟩))).trans ((a_ρ6 _ _ _ (by omega)).trans ((a_ρ4 _ _ _ (by omega)).trans ((a_ρ2 _ _ _ (by omega)).trans qg9)))).symm
  subst e_v7
  refine z_putIG (jz := 3) hM dX2_copyFrom_29 fw_RX2_39 rfl rfl rfl ⟨Or.inl rfl, Or.inr (by simp [DF])⟩ (by first | trivial | (simp only [Okv]; omega) | (simp [Okv]; try omega)) (fun ρ8 a_ρ8 q_ρ8 => ?_)
  refine r_aload_n hC dX2_copyFrom_32 rfl ?_
  refine r_aload_n hC dX2_copyFrom_33 rfl ?_
  refine z_getI (jz := 4) hM dX2_copyFrom_34 fl_RX2_42 rfl rfl rfl (fun v9 h_v9 o_v9 t_v9 => ?_)
  have e_v9 : a4 = v9 := ((t_v9 (Or.inr (Or.inl ⟨rfl, Or.inr (Or.inl rfl)⟩))).trans ((a_ρ8 _ _ _ (by omega)).trans ((a_ρ6 _ _ _ (by omega)).trans ((a_ρ4 _ _ _ (by omega)).trans ((a_ρ2 _ _ _ (by omega)).trans qg10))))).symm
  subst e_v9
  refine z_putIG (jz := 4) hM dX2_copyFrom_37 fw_RX2_42 rfl rfl rfl ⟨Or.inl rfl, Or.inr (by simp [DF])⟩ (by first | trivial | (simp only [Okv]; omega) | (simp [Okv]; try omega)) (fun ρ10 a_ρ10 q_ρ10 => ?_)
  refine r_aload_n hC dX2_copyFrom_40 rfl ?_
  refine r_aload_n hC dX2_copyFrom_41 rfl ?_
  refine z_getI (jz := 5) hM dX2_copyFrom_42 fl_RX2_45 rfl rfl rfl (fun v11 h_v11 o_v11 t_v11 => ?_)
  refine z_putIU (jz := 5) hM dX2_copyFrom_45 fw_RX2_45 rfl rfl rfl (by simp [Un, Tb, DL, DF, DR]) (by simp [Okv]) ?_
  refine r_aload_n hC dX2_copyFrom_48 rfl ?_
  refine r_aload_n hC dX2_copyFrom_49 rfl ?_
  refine z_getI (jz := 6) hM dX2_copyFrom_50 fl_RX2_48 rfl rfl rfl (fun v12 h_v12 o_v12 t_v12 => ?_)
  have e_v12 : a6 = v12 := ((t_v12 (Or.inr (Or.inl ⟨rfl, Or.inr (Or.inr rfl)⟩))).trans ((a_ρ10 _ _ _ (by omega)).trans ((a_ρ8 _ _ _ (by omega)).trans ((a_ρ6 _ _ _ (by omega)).trans ((a_ρ4 _ _ _ (by omega)).trans ((a_ρ2 _ _ _ (by omega)).trans qg11)))))).symm
  subst e_v12
  refine z_putIG (jz := 6) hM dX2_copyFrom_53 fw_RX2_48 rfl rfl rfl ⟨Or.inl rfl, Or.inr (by simp [DF])⟩ (by first | trivial | (simp only [Okv]; omega) | (simp [Okv]; try omega)) (fun ρ13 a_ρ13 q_ρ13 => ?_)
  refine r_aload_n hC dX2_copyFrom_56 rfl ?_
  refine z_getR hM dX2_copyFrom_57 fl_RX2_15 rfl rfl (vld_of (n := 7) rfl (by omega) (by omega)) ?_
  refine r_iconst hC dX2_copyFrom_60 rfl ?_
  refine r_aload_n hC dX2_copyFrom_61 rfl ?_
  refine z_getR hM dX2_copyFrom_62 fl_RX2_15 rfl rfl (vld_of (n := 7) rfl (by omega) (by omega)) ?_
  refine r_iconst hC dX2_copyFrom_65 rfl ?_
  refine r_aload_n hC dX2_copyFrom_66 rfl ?_
  refine z_getI (jz := 6) hM dX2_copyFrom_67 fl_RX2_48 rfl rfl rfl (fun v14 h_v14 o_v14 t_v14 => ?_)
  have e_v14 : a6 = v14 := ((t_v14 (Or.inr (Or.inl ⟨rfl, Or.inr (Or.inr rfl)⟩))).trans q_ρ13).symm
  subst e_v14
  refine z_copyU hM dX2_copyFrom_70 ac_RX2_72 rfl rfl (by omega) (by omega) (by omega) (by omega) (by omega) (Nat.le_of_ble_eq_true rfl) (fun _ => ⟨by simp [Un, Tb, DL, DF, DR], fun _ _ h => by simp [Okv] at *; try exact h⟩) ?_
  refine r_aload_n hC dX2_copyFrom_73 rfl ?_
  refine z_getR hM dX2_copyFrom_74 fl_RX2_19 rfl rfl (vld_of (n := 7) rfl (by omega) (by omega)) ?_
  refine r_iconst hC dX2_copyFrom_77 rfl ?_
  refine r_aload_n hC dX2_copyFrom_78 rfl ?_
  refine z_getR hM dX2_copyFrom_79 fl_RX2_19 rfl rfl (vld_of (n := 7) rfl (by omega) (by omega)) ?_
  refine r_iconst hC dX2_copyFrom_82 rfl ?_
  refine r_aload_n hC dX2_copyFrom_83 rfl ?_
  refine z_getI (jz := 6) hM dX2_copyFrom_84 fl_RX2_48 rfl rfl rfl (fun v15 h_v15 o_v15 t_v15 => ?_)
  have e_v15 : a6 = v15 := ((t_v15 (Or.inr (Or.inl ⟨rfl, Or.inr (Or.inr rfl)⟩))).trans q_ρ13).symm
  subst e_v15
  refine z_copyU hM dX2_copyFrom_87 ac_RX2_72 rfl rfl (by omega) (by omega) (by omega) (by omega) (by omega) (Nat.le_of_ble_eq_true rfl) (fun _ => ⟨by simp [Un, Tb, DL, DF, DR], fun _ _ h => by simp [Okv] at *; try exact h⟩) ?_
  refine r_aload_n hC dX2_copyFrom_90 rfl ?_
  refine z_getR hM dX2_copyFrom_91 fl_RX2_22 rfl rfl (vld_of (n := 7) rfl (by omega) (by omega)) ?_
  refine r_iconst hC dX2_copyFrom_94 rfl ?_
  refine r_aload_n hC dX2_copyFrom_95 rfl ?_
  refine z_getR hM dX2_copyFrom_96 fl_RX2_22 rfl rfl (vld_of (n := 7) rfl (by omega) (by omega)) ?_
  refine r_iconst hC dX2_copyFrom_99 rfl ?_
  refine r_aload_n hC dX2_copyFrom_100 rfl ?_
  refine z_getI (jz := 6) hM dX2_copyFrom_101 fl_RX2_48 rfl rfl rfl (fun v16 h_v16 o_v16 t_v16 => ?_)
  have e_v16 : a6 = v16 := ((t_v16 (Or.inr (Or.inl ⟨rfl, Or.inr (Or.inr rfl)⟩))).trans q_ρ13).symm
  subst e_v16
  refine z_copyU hM dX2_copyFrom_104 ac_RX2_72 rfl rfl (by omega) (by omega) (by omega) (by omega) (by omega) (Nat.le_of_ble_eq_true rfl) (fun _ => ⟨by simp [Un, Tb, DL, DF, DR], fun _ _ h => by simp [Okv] at *; try exact h⟩) ?_
  refine r_aload_n hC dX2_copyFrom_107 rfl ?_
  refine r_aload_n hC dX2_copyFrom_108 rfl ?_
  refine z_getI (jz := 10) hM dX2_copyFrom_109 fl_RX2_51 rfl rfl rfl (fun v17 h_v17 o_v17 t_v17 => ?_)
  refine z_putIU (jz := 10) hM dX2_copyFrom_112 fw_RX2_51 rfl rfl rfl (by simp [Un, Tb, DL, DF, DR]) (by simp [Okv]) ?_
  refine r_aload_n hC dX2_copyFrom_115 rfl ?_
  refine r_aload_n hC dX2_copyFrom_116 rfl ?_
  refine z_getI (jz := 11) hM dX2_copyFrom_117 fl_RX2_54 rfl rfl rfl (fun v18 h_v18 o_v18 t_v18 => ?_)
  refine z_putIU (jz := 11) hM dX2_copyFrom_120 fw_RX2_54 rfl rfl rfl (by simp [Un, Tb, DL, DF, DR]) (by simp [Okv]) ?_
  refine r_aload_n hC dX2_copyFrom_123 rfl ?_
  refine r_aload_n hC dX2_copyFrom_124 rfl ?_
  refine z_getI (jz := 12) hM dX2_copyFrom_125 fl_RX2_57 rfl rfl rfl (fun v19 h_v19 o_v19 t_v19 => ?_)
  refine z_putIU (jz := 12) hM dX2_copyFrom_128 fw_RX2_57 rfl rfl rfl (by simp [Un, Tb, DL, DF, DR]) (by simp [Okv]) ?_
  refine r_aload_n hC dX2_copyFrom_131 rfl ?_
  refine r_aload_n hC dX2_copyFrom_132 rfl ?_
  refine z_getI (jz := 13) hM dX2_copyFrom_133 fl_RX2_60 rfl rfl rfl (fun v20 h_v20 o_v20 t_v20 => ?_)
  refine z_putIU (jz := 13) hM dX2_copyFrom_136 fw_RX2_60 rfl rfl rfl (by simp [Un, Tb, DL, DF, DR]) (by simp [Okv]) ?_
  refine r_aload_n hC dX2_copyFrom_139 rfl ?_
  refine r_aload_n hC dX2_copyFrom_140 rfl ?_
  refine z_getI (jz := 14) hM dX2_copyFrom_141 fl_RX2_63 rfl rfl rfl (fun v21 h_v21 o_v21 t_v21 => ?_)
  refine z_putIU (jz := 14) hM dX2_copyFrom_144 fw_RX2_63 rfl rfl rfl (by simp [Un, Tb, DL, DF, DR]) (by simp [Okv]) ?_
  refine r_aload_n hC dX2_copyFrom_147 rfl ?_
  refine r_aload_n hC dX2_copyFrom_148 rfl ?_
  refine z_getI (jz := 15) hM dX2_copyFrom_149 fl_RX2_66 rfl rfl rfl (fun v22 h_v22 o_v22 t_v22 => ?_)
  refine z_putIU (jz := 15) hM dX2_copyFrom_152 fw_RX2_66 rfl rfl rfl (by simp [Un, Tb, DL, DF, DR]) (by simp [Okv]) ?_
  refine r_aload_n hC dX2_copyFrom_155 rfl ?_
  refine z_getR hM dX2_copyFrom_156 fl_RX2_28 rfl rfl (vld_of (n := 8) rfl (by omega) (by omega)) ?_
  refine r_aload_n hC dX2_copyFrom_159 rfl ?_
  refine z_getR hM dX2_copyFrom_160 fl_RX2_28 rfl rfl (vld_of (n := 8) rfl (by omega) (by omega)) ?_
  refine z_inv1 hM dX2_copyFrom_163 vl_RX2_78 rfl rfl rfl (Nat.le_of_ble_eq_true rfl) (Nat.le_of_ble_eq_true rfl) ?_
  refine s_Flip_copyFrom (by omega) (by omega) ?_
  refine y_vret hK rfl dX2_copyFrom_166 ?_
  exact k _ (((((((Gx.rf).al a_ρ2 (by first | simp | omega)).al a_ρ4 (by first | simp | omega)).al a_ρ6 (by first | simp | omega)).al a_ρ8 (by first | simp | omega)).al a_ρ10 (by first | simp | omega)).al a_ρ13 (by first | simp | omega)) (by have hq := ((a_ρ13 _ _ _ (by omega)).trans ((a_ρ10 _ _ _ (by omega)).trans ((a_ρ8 _ _ _ (by omega)).trans ((a_ρ6 _ _ _ (by omega)).trans ((a_ρ4 _ _ _ (by omega)).trans q_ρ2))))); omega) (by have hq := ((a_ρ13 _ _ _ (by omega)).trans ((a_ρ10 _ _ _ (by omega)).trans ((a_ρ8 _ _ _ (by omega)).trans ((a_ρ6 _ _ _ (by omega)).trans q_ρ4)))); omega) (by have hq := ((a_ρ13 _ _ _ (by omega)).trans ((a_ρ10 _ _ _ (by omega)).trans ((a_ρ8 _ _ _ (by omega)).trans q_ρ6))); omega) (by have hq := ((a_ρ13 _ _ _ (by omega)).trans ((a_ρ10 _ _ _ (by omega)).trans q_ρ8)); omega) (by have hq := ((a_ρ13 _ _ _ (by omega)).trans q_ρ10); omega) (by have hq := q_ρ13; omega)
theorem s_Link_begin {e : Ev} {d : Nat} {P : Option Vl → Mm → Prop} {σ : Mm} {i o z w t : Int} (b_i : 0 ≤ i ∧ i ≤ 3) (qg0 : σ 13 i 0 = t)  (k : ∀ ρ : Mm, Al1 σ ρ 13 i 0 → ρ 13 i 0 = o → P none ρ) : WT e (d + 1) 39 [vR 13 i, vI o, vI z, vI w] σ P := by
  refine WT_in fun K hK => ?_
  have hK : StpY e cX3_begin RX3 (none) (WT e (d + 0)) P K := hK
  have hM := hK.1
  have hC := hK.1.1
  show K 0 [some (vR 13 i), some (vI o), some (vI z), some (vI w)] [] σ
  refine r_rngz hC (fun g0 => ?_)
  have r_o : -2147483648 ≤ o ∧ o ≤ 2147483647 := inR_le (g0 (vI o) (by simp))
  have r_z : -2147483648 ≤ z ∧ z ≤ 2147483647 := inR_le (g0 (vI z) (by simp))
  have r_w : -2147483648 ≤ w ∧ w ≤ 2147483647 := inR_le (g0 (vI w) (by simp))
  refine r_aload_n hC dX3_begin_0 rfl ?_
  refine r_iload_n hC dX3_begin_1 rfl ?_
  refine z_putIG (jz := 0) hM dX3_begin_2 fw_RX3_9 rfl rfl rfl ⟨Or.inr (by simp [DL]), Or.inr (by simp [DF])⟩ (by first | trivial | (simp only [Okv]; omega) | (simp [Okv]; try omega)) (fun ρ1 a_ρ1 q_ρ1 => ?_)
  refine r_aload_n hC dX3_begin_5 rfl ?_
  refine r_iload_n hC dX3_begin_6 rfl ?_
  refine z_putIU (jz := 1) hM dX3_begin_7 fw_RX3_15 rfl rfl rfl (by simp [Un, Tb, DL, DF, DR]) (by simp [Okv]) ?_
  refine r_aload_n hC dX3_begin_10 rfl ?_
  refine r_iload_n hC dX3_begin_11 rfl ?_
  refine z_putIU (jz := 2) hM dX3_begin_12 fw_RX3_18 rfl rfl rfl (by simp [Un, Tb, DL, DF, DR]) (by simp [Okv]) ?_
  refine r_aload_n hC dX3_begin_15 rfl ?_
  refine r_iconst hC dX3_begin_16 rfl ?_
  refine z_putIU (jz := 3) hM dX3_begin_17 fw_RX3_21 rfl rfl rfl (by simp [Un, Tb, DL, DF, DR]) (by simp [Okv]) ?_
  refine y_vret hK rfl dX3_begin_20 ?_
  exact k _ ((Gx.rf).al a_ρ1 (by first | simp | omega)) (by have hq := q_ρ1; omega)
theorem s_isSizeX {e : Ev} {d : Nat} {P : Option Vl → Mm → Prop} {σ : Mm} {b z : Int}   (k1 : (b = 0 ∨ (b = 1 ∧ 1 ≤ z ∧ z ≤ 120) ∨ (b = 2 ∧ 1 ≤ z ∧ z ≤ 10000)) → P (some (vI 1)) σ) (k0 : ¬ (b = 0 ∨ (b = 1 ∧ 1 ≤ z ∧ z ≤ 120) ∨ (b = 2 ∧ 1 ≤ z ∧ z ≤ 10000)) → P (some (vI 0)) σ) : WT e (d + 2) 59 [vI b, vI z] σ P := by
  refine WT_in fun K hK => ?_
  have hK : StpY e cX5_isSize RX5 (some .boolean) (WT e (d + 1)) P K := hK
  have hM := hK.1
  have hC := hK.1.1
  show K 0 [some (vI b), some (vI z)] [] σ
  refine r_rngz hC (fun g0 => ?_)
  have r_b : -2147483648 ≤ b ∧ b ≤ 2147483647 := inR_le (g0 (vI b) (by simp))
  have r_z : -2147483648 ≤ z ∧ z ≤ 2147483647 := inR_le (g0 (vI z) (by simp))
  refine r_iload_n hC dX5_isSize_0 rfl ?_
  rcases (by omega : (b < 0 ∨ 2 < b) ∨ b = 0 ∨ b = 1 ∨ b = 2) with h1 | h1 | h1 | h1
  · refine r_tableOut (tgt := 47) hC dX5_isSize_1 h1 rfl ?_
    refine r_iconst hC dX5_isSize_47 rfl ?_
    refine y_zret hK rfl dX5_isSize_48 (by omega) ?_
    exact k0 (by omega)
  · refine r_tableIn (tgt := 28) (off := 27) hC dX5_isSize_1 (by omega) (by omega) (by rw [h1]; rfl) rfl ?_
    refine r_iconst hC dX5_isSize_28 rfl ?_
    refine y_zret hK rfl dX5_isSize_29 (by omega) ?_
    exact k1 (by omega)
  · refine r_tableIn (tgt := 30) (off := 29) hC dX5_isSize_1 (by omega) (by omega) (by rw [h1]; rfl) rfl ?_
    refine r_iload_n hC dX5_isSize_30 rfl ?_
    refine r_iconst hC dX5_isSize_31 rfl ?_
    refine r_bipush hC dX5_isSize_32 rfl ?_
    refine z_ins3 hM dX5_isSize_34 tl_RX5_59 rfl (Nat.le_of_ble_eq_true rfl) (Nat.le_of_ble_eq_true rfl) ?_
    refine s_within (fun h3 => ?_) (fun h3 => ?_)
    · refine y_zret hK rfl dX5_isSize_37 (by omega) ?_
      exact k1 (by omega)
    · refine y_zret hK rfl dX5_isSize_37 (by omega) ?_
      exact k0 (by omega)
  · refine r_tableIn (tgt := 38) (off := 37) hC dX5_isSize_1 (by omega) (by omega) (by rw [h1]; rfl) rfl ?_
    refine r_iload_n hC dX5_isSize_38 rfl ?_
    refine r_iconst hC dX5_isSize_39 rfl ?_
    refine r_sipush hC dX5_isSize_40 rfl ?_
    refine z_ins3 hM dX5_isSize_43 tl_RX5_59 rfl (Nat.le_of_ble_eq_true rfl) (Nat.le_of_ble_eq_true rfl) ?_
    refine s_within (fun h5 => ?_) (fun h5 => ?_)
    · refine y_zret hK rfl dX5_isSize_46 (by omega) ?_
      exact k1 (by omega)
    · refine y_zret hK rfl dX5_isSize_46 (by omega) ?_
      exact k0 (by omega)
theorem s_open_S {d : Nat} {P : Option Vl → Mm → Prop} {σ : Mm} {l o b z y : Int} (hL : InL σ)  (k1 : 0 ≤ l ∧ l ≤ 3 ∧ 0 ≤ o ∧ o ≤ 9 ∧ 0 ≤ y ∧ y ≤ 10000 ∧ (b = 0 ∨ (b = 1 ∧ 1 ≤ z ∧ z ≤ 120) ∨ (b = 2 ∧ 1 ≤ z ∧ z ≤ 10000)) ∧ (o = 9 → trpF 15 σ 3 = 64) → ∀ (r : Int) (ρ : Mm), GL (fun c x y => c = 7 ∧ x = l ∧ (y = 1 ∨ y = 2 ∨ y = 3 ∨ y = 4 ∨ y = 6) ∨ c = 13 ∧ y = 0) σ ρ → ρ 7 l 1 = 1 → ρ 7 l 2 = o → (∀ i : Int, 0 ≤ i → i ≤ 3 → ρ 13 i 0 = if i = l ∨ σ 13 i 0 = l then -1 else σ 13 i 0) → r = ρ 7 0 1 + ρ 7 1 1 + ρ 7 2 1 + ρ 7 3 1 → P (some (vI r)) ρ) (k0 : ¬ (0 ≤ l ∧ l ≤ 3 ∧ 0 ≤ o ∧ o ≤ 9 ∧ 0 ≤ y ∧ y ≤ 10000 ∧ (b = 0 ∨ (b = 1 ∧ 1 ≤ z ∧ z ≤ 120) ∨ (b = 2 ∧ 1 ≤ z ∧ z ≤ 10000)) ∧ (o = 9 → trpF 15 σ 3 = 64)) → P (some (vI (-1))) σ) : WT (true, false, false) (d + 4) 58 [vR 2 0, vI l, vI o, vI b, vI z, vI y] σ P := by
  refine WT_in fun K hK => ?_
  have hK : StpY (true, false, false) cX5_open RX5 (some .int) (WT (true, false, false) (d + 3)) P K := hK
  have hM := hK.1
  have hC := hK.1.1
  show K 0 [some (vR 2 0), some (vI l), some (vI o), some (vI b), some (vI z), some (vI y)] [] σ
  refine r_rngz hC (fun g0 => ?_)
  have r_l : -2147483648 ≤ l ∧ l ≤ 2147483647 := inR_le (g0 (vI l) (by simp))
  have r_o : -2147483648 ≤ o ∧ o ≤ 2147483647 := inR_le (g0 (vI o) (by simp))
  have r_b : -2147483648 ≤ b ∧ b ≤ 2147483647 := inR_le (g0 (vI b) (by simp))
  have r_z : -2147483648 ≤ z ∧ z ≤ 2147483647 := inR_le (g0 (vI z) (by simp))
  have r_y : -2147483648 ≤ y ∧ y ≤ 2147483647 := inR_le (g0 (vI y) (by simp))
  refine r_iload_n hC dX5_open_0 rfl ?_
  refine z_ins1 hM dX5_open_1 tl_RX5_102 rfl (Nat.le_of_ble_eq_true rfl) (Nat.le_of_ble_eq_true rfl) ?_
  refine s_isLane (fun h2 => ?_) (fun h2 => ?_)
  · refine r_if_eq (tgt := 38) hC dX5_open_4 rfl (fun h3 => by omega) (fun h3 => ?_)
    refine r_iload_n hC dX5_open_7 rfl ?_
    refine r_iconst hC dX5_open_8 rfl ?_
    refine r_bipush hC dX5_open_9 rfl ?_
    refine z_ins3 hM dX5_open_11 tl_RX5_59 rfl (Nat.le_of_ble_eq_true rfl) (Nat.le_of_ble_eq_true rfl) ?_
    refine s_within (fun h5 => ?_) (fun h5 => ?_)
    · refine r_if_eq (tgt := 38) hC dX5_open_14 rfl (fun h6 => by omega) (fun h6 => ?_)
      refine r_iload hC dX5_open_17 rfl ?_
      refine r_iconst hC dX5_open_19 rfl ?_
      refine r_sipush hC dX5_open_20 rfl ?_
      refine z_ins3 hM dX5_open_23 tl_RX5_59 rfl (Nat.le_of_ble_eq_true rfl) (Nat.le_of_ble_eq_true rfl) ?_
      refine s_within (fun h8 => ?_) (fun h8 => ?_)
      · refine r_if_eq (tgt := 38) hC dX5_open_26 rfl (fun h9 => by omega) (fun h9 => ?_)
        refine r_iload_n hC dX5_open_29 rfl ?_
        refine r_iload hC dX5_open_30 rfl ?_
        refine z_ins2 hM dX5_open_32 tl_RX5_105 rfl (Nat.le_of_ble_eq_true rfl) (Nat.le_of_ble_eq_true rfl) ?_
        refine s_isSizeX (fun h10 => ?_) (fun h10 => ?_)
        · refine r_if_ne (tgt := 40) hC dX5_open_35 rfl (fun h11 => ?_) (fun h11 => by omega)
          refine r_iload_n hC dX5_open_40 rfl ?_
          refine r_bipush hC dX5_open_41 rfl ?_
          refine r_icmp_ne (tgt := 58) hC dX5_open_43 rfl (fun h12 => ?_) (fun h12 => ?_)
          · refine r_aload_n hC dX5_open_58 rfl ?_
            refine z_getR hM dX5_open_59 fl_RX5_13 rfl rfl (vld_of (n := 1) rfl (by omega) (by omega)) ?_
            refine r_iload_n hC dX5_open_62 rfl ?_
            refine z_aald hM dX5_open_63 rfl (by decide) (by omega) (by omega) (vld_of (n := 7) rfl (by omega) (by omega)) ?_
            refine r_iload_n hC dX5_open_64 rfl ?_
            refine r_iload_n hC dX5_open_65 rfl ?_
            refine r_iload_n hC dX5_open_66 rfl ?_
            refine r_if_ne (tgt := 74) hC dX5_open_67 rfl (fun h13 => ?_) (fun h13 => ?_)
            · refine r_iload hC dX5_open_74 rfl ?_
              refine r_iload hC dX5_open_76 rfl ?_
              refine z_inv4 hM dX5_open_78 vl_RX5_113 rfl rfl rfl (Nat.le_of_ble_eq_true rfl) (Nat.le_of_ble_eq_true rfl) ?_
              refine s_Lane_begin (by omega) (by omega) rfl rfl rfl rfl rfl (fun ρ14 g_ρ14 q1 q2 q3 q4 q6 => ?_)
              have g2 : GL (fun c x y => c = 7 ∧ x = l ∧ (y = 1 ∨ y = 2 ∨ y = 3 ∨ y = 4 ∨ y = 6) ∨ c = 13 ∧ y = 0) σ ρ14 := ⟨g_ρ14.gx0 (by intro c x y h; omega), hL.lane (i := l) (by omega) (by omega) (fun c x y h => g_ρ14 c x y (by omega)) (by rw [q3, q4, q6]; unfold Rst; omega)⟩
              refine r_aload_n hC dX5_open_81 rfl ?_
              refine r_iload_n hC dX5_open_82 rfl ?_
              refine z_inv1 hM dX5_open_83 vl_RX5_117 rfl rfl rfl (Nat.le_of_ble_eq_true rfl) (Nat.le_of_ble_eq_true rfl) ?_
              refine s_endTies (by omega) (fun ρ15 g_ρ15 t_ρ15 => ?_)
              refine r_aload_n hC dX5_open_86 rfl ?_
              refine z_inv0 hM dX5_open_87 vl_RX5_120 rfl rfl rfl (Nat.le_of_ble_eq_true rfl) (Nat.le_of_ble_eq_true rfl) ?_
              refine s_openLanesX ?_
              refine y_iret hK rfl dX5_open_90 ?_
              have e1 := g_ρ15 7 l 1 (by omega)
              have e2 := g_ρ15 7 l 2 (by omega)
              exact k1 (by omega) _ _ (GL.gx (g2) g_ρ15 (by intro c x y h; omega) (by rintro c x y ⟨rfl, rfl⟩; simp [DL])) (by omega) (by omega) (fun i h0 h3 => by rw [t_ρ15 i h0 h3, g_ρ14 13 i 0 (by omega)]) rfl
            · refine r_iconst hC dX5_open_70 rfl ?_
              refine r_goto (tgt := 76) hC dX5_open_71 rfl ?_
              refine r_iload hC dX5_open_76 rfl ?_
              refine z_inv4 hM dX5_open_78 vl_RX5_113 rfl rfl rfl (Nat.le_of_ble_eq_true rfl) (Nat.le_of_ble_eq_true rfl) ?_
              refine s_Lane_begin (by omega) (by omega) rfl rfl rfl rfl rfl (fun ρ16 g_ρ16 q1 q2 q3 q4 q6 => ?_)
              have g2 : GL (fun c x y => c = 7 ∧ x = l ∧ (y = 1 ∨ y = 2 ∨ y = 3 ∨ y = 4 ∨ y = 6) ∨ c = 13 ∧ y = 0) σ ρ16 := ⟨g_ρ16.gx0 (by intro c x y h; omega), hL.lane (i := l) (by omega) (by omega) (fun c x y h => g_ρ16 c x y (by omega)) (by rw [q3, q4, q6]; unfold Rst; omega)⟩
              refine r_aload_n hC dX5_open_81 rfl ?_
              refine r_iload_n hC dX5_open_82 rfl ?_
              refine z_inv1 hM dX5_open_83 vl_RX5_117 rfl rfl rfl (Nat.le_of_ble_eq_true rfl) (Nat.le_of_ble_eq_true rfl) ?_
              refine s_endTies (by omega) (fun ρ17 g_ρ17 t_ρ17 => ?_)
              refine r_aload_n hC dX5_open_86 rfl ?_
              refine z_inv0 hM dX5_open_87 vl_RX5_120 rfl rfl rfl (Nat.le_of_ble_eq_true rfl) (Nat.le_of_ble_eq_true rfl) ?_
              refine s_openLanesX ?_
              refine y_iret hK rfl dX5_open_90 ?_
              have e1 := g_ρ17 7 l 1 (by omega)
              have e2 := g_ρ17 7 l 2 (by omega)
              exact k1 (by omega) _ _ (GL.gx (g2) g_ρ17 (by intro c x y h; omega) (by rintro c x y ⟨rfl, rfl⟩; simp [DL])) (by omega) (by omega) (fun i h0 h3 => by rw [t_ρ17 i h0 h3, g_ρ16 13 i 0 (by omega)]) rfl
          · refine r_aload_n hC dX5_open_46 rfl ?_
            refine r_iconst hC dX5_open_47 rfl ?_
            refine z_inv1 hM dX5_open_48 vl_RX5_109 rfl rfl rfl (Nat.le_of_ble_eq_true rfl) (Nat.le_of_ble_eq_true rfl) ?_
            refine s_tripleX ?_
            refine r_bipush hC dX5_open_51 rfl ?_
            refine r_icmp_eq (tgt := 58) hC dX5_open_53 rfl (fun h18 => ?_) (fun h18 => ?_)
            · refine r_aload_n hC dX5_open_58 rfl ?_
              refine z_getR hM dX5_open_59 fl_RX5_13 rfl rfl (vld_of (n := 1) rfl (by omega) (by omega)) ?_
              refine r_iload_n hC dX5_open_62 rfl ?_
              refine z_aald hM dX5_open_63 rfl (by decide) (by omega) (by omega) (vld_of (n := 7) rfl (by omega) (by omega)) ?_
              refine r_iload_n hC dX5_open_64 rfl ?_
              refine r_iload_n hC dX5_open_65 rfl ?_
              refine r_iload_n hC dX5_open_66 rfl ?_
              refine r_if_ne (tgt := 74) hC dX5_open_67 rfl (fun h19 => ?_) (fun h19 => ?_)
              · refine r_iload hC dX5_open_74 rfl ?_
                refine r_iload hC dX5_open_76 rfl ?_
                refine z_inv4 hM dX5_open_78 vl_RX5_113 rfl rfl rfl (Nat.le_of_ble_eq_true rfl) (Nat.le_of_ble_eq_true rfl) ?_
                refine s_Lane_begin (by omega) (by omega) rfl rfl rfl rfl rfl (fun ρ20 g_ρ20 q1 q2 q3 q4 q6 => ?_)
                have g2 : GL (fun c x y => c = 7 ∧ x = l ∧ (y = 1 ∨ y = 2 ∨ y = 3 ∨ y = 4 ∨ y = 6) ∨ c = 13 ∧ y = 0) σ ρ20 := ⟨g_ρ20.gx0 (by intro c x y h; omega), hL.lane (i := l) (by omega) (by omega) (fun c x y h => g_ρ20 c x y (by omega)) (by rw [q3, q4, q6]; unfold Rst; omega)⟩
                refine r_aload_n hC dX5_open_81 rfl ?_
                refine r_iload_n hC dX5_open_82 rfl ?_
                refine z_inv1 hM dX5_open_83 vl_RX5_117 rfl rfl rfl (Nat.le_of_ble_eq_true rfl) (Nat.le_of_ble_eq_true rfl) ?_
                refine s_endTies (by omega) (fun ρ21 g_ρ21 t_ρ21 => ?_)
                refine r_aload_n hC dX5_open_86 rfl ?_
                refine z_inv0 hM dX5_open_87 vl_RX5_120 rfl rfl rfl (Nat.le_of_ble_eq_true rfl) (Nat.le_of_ble_eq_true rfl) ?_
                refine s_openLanesX ?_
                refine y_iret hK rfl dX5_open_90 ?_
                have e1 := g_ρ21 7 l 1 (by omega)
                have e2 := g_ρ21 7 l 2 (by omega)
                exact k1 (by omega) _ _ (GL.gx (g2) g_ρ21 (by intro c x y h; omega) (by rintro c x y ⟨rfl, rfl⟩; simp [DL])) (by omega) (by omega) (fun i h0 h3 => by rw [t_ρ21 i h0 h3, g_ρ20 13 i 0 (by omega)]) rfl
              · refine r_iconst hC dX5_open_70 rfl ?_
                refine r_goto (tgt := 76) hC dX5_open_71 rfl ?_
                refine r_iload hC dX5_open_76 rfl ?_
                refine z_inv4 hM dX5_open_78 vl_RX5_113 rfl rfl rfl (Nat.le_of_ble_eq_true rfl) (Nat.le_of_ble_eq_true rfl) ?_
                refine s_Lane_begin (by omega) (by omega) rfl rfl rfl rfl rfl (fun ρ22 g_ρ22 q1 q2 q3 q4 q6 => ?_)
                have g2 : GL (fun c x y => c = 7 ∧ x = l ∧ (y = 1 ∨ y = 2 ∨ y = 3 ∨ y = 4 ∨ y = 6) ∨ c = 13 ∧ y = 0) σ ρ22 := ⟨g_ρ22.gx0 (by intro c x y h; omega), hL.lane (i := l) (by omega) (by omega) (fun c x y h => g_ρ22 c x y (by omega)) (by rw [q3, q4, q6]; unfold Rst; omega)⟩
                refine r_aload_n hC dX5_open_81 rfl ?_
                refine r_iload_n hC dX5_open_82 rfl ?_
                refine z_inv1 hM dX5_open_83 vl_RX5_117 rfl rfl rfl (Nat.le_of_ble_eq_true rfl) (Nat.le_of_ble_eq_true rfl) ?_
                refine s_endTies (by omega) (fun ρ23 g_ρ23 t_ρ23 => ?_)
                refine r_aload_n hC dX5_open_86 rfl ?_
                refine z_inv0 hM dX5_open_87 vl_RX5_120 rfl rfl rfl (Nat.le_of_ble_eq_true rfl) (Nat.le_of_ble_eq_true rfl) ?_
                refine s_openLanesX ?_
                refine y_iret hK rfl dX5_open_90 ?_
                have e1 := g_ρ23 7 l 1 (by omega)
                have e2 := g_ρ23 7 l 2 (by omega)
                exact k1 (by omega) _ _ (GL.gx (g2) g_ρ23 (by intro c x y h; omega) (by rintro c x y ⟨rfl, rfl⟩; simp [DL])) (by omega) (by omega) (fun i h0 h3 => by rw [t_ρ23 i h0 h3, g_ρ22 13 i 0 (by omega)]) rfl
            · refine r_iconst hC dX5_open_56 rfl ?_
              refine y_iret hK rfl dX5_open_57 ?_
              exact k0 (by omega)
        · refine r_if_ne (tgt := 40) hC dX5_open_35 rfl (fun h24 => by omega) (fun h24 => ?_)
          refine r_iconst hC dX5_open_38 rfl ?_
          refine y_iret hK rfl dX5_open_39 ?_
          exact k0 (by omega)
      · refine r_if_eq (tgt := 38) hC dX5_open_26 rfl (fun h25 => ?_) (fun h25 => by omega)
        refine r_iconst hC dX5_open_38 rfl ?_
        refine y_iret hK rfl dX5_open_39 ?_
        exact k0 (by omega)
    · refine r_if_eq (tgt := 38) hC dX5_open_14 rfl (fun h26 => ?_) (fun h26 => by omega)
      refine r_iconst hC dX5_open_38 rfl ?_
      refine y_iret hK rfl dX5_open_39 ?_
      exact k0 (by omega)
  · refine r_if_eq (tgt := 38) hC dX5_open_4 rfl (fun h27 => ?_) (fun h27 => by omega)
    refine r_iconst hC dX5_open_38 rfl ?_
    refine y_iret hK rfl dX5_open_39 ?_
    exact k0 (by omega)
theorem s_shut {e : Ev} {d : Nat} {P : Option Vl → Mm → Prop} {σ : Mm} {l g : Int} (qg0 : σ 7 l 1 = g)  (k1 : 0 ≤ l ∧ l ≤ 3 ∧ σ 7 l 1 = 1 → ∀ ρ : Mm, Gx (fun c x y => c = 7 ∧ x = l ∧ y = 1 ∨ c = 13 ∧ y = 0) σ ρ → ρ 7 l 1 = 0 → (∀ i : Int, 0 ≤ i → i ≤ 3 → ρ 13 i 0 = if i = l ∨ σ 13 i 0 = l then -1 else σ 13 i 0) → P (some (vI 1)) ρ) (k0 : ¬ (0 ≤ l ∧ l ≤ 3 ∧ σ 7 l 1 = 1) → P (some (vI 0)) σ) : WT e (d + 4) 60 [vR 2 0, vI l] σ P := by
  refine WT_in fun K hK => ?_
  have hK : StpY e cX5_shut RX5 (some .boolean) (WT e (d + 3)) P K := hK
  have hM := hK.1
  have hC := hK.1.1
  show K 0 [some (vR 2 0), some (vI l), none] [] σ
  refine r_rngz hC (fun g0 => ?_)
  have r_l : -2147483648 ≤ l ∧ l ≤ 2147483647 := inR_le (g0 (vI l) (by simp))
  refine r_aload_n hC dX5_shut_0 rfl ?_
  refine r_iload_n hC dX5_shut_1 rfl ?_
  refine z_inv1 hM dX5_shut_2 vl_RX5_123 rfl rfl rfl (Nat.le_of_ble_eq_true rfl) (Nat.le_of_ble_eq_true rfl) ?_
  refine s_openLaneX (fun h1 => ?_) (fun h1 => ?_)
  · refine r_astore_n hC dX5_shut_5 rfl ?_
    refine r_aload_n hC dX5_shut_6 rfl ?_
    refine r_ifnonnullR (tgt := 12) hC dX5_shut_7 rfl ?_
    refine r_aload_n hC dX5_shut_12 rfl ?_
    refine r_iconst hC dX5_shut_13 rfl ?_
    refine z_putZG (jz := 1) hM dX5_shut_14 fw_RX5_94 rfl rfl rfl (by omega) ⟨Or.inr (by simp [DL]), Or.inr (by simp [DF])⟩ (by first | trivial | (simp only [Okv]; omega) | (simp [Okv]; try omega)) (fun ρ2 a_ρ2 q_ρ2 => ?_)
    refine r_aload_n hC dX5_shut_17 rfl ?_
    refine r_iload_n hC dX5_shut_18 rfl ?_
    refine z_inv1 hM dX5_shut_19 vl_RX5_117 rfl rfl rfl (Nat.le_of_ble_eq_true rfl) (Nat.le_of_ble_eq_true rfl) ?_
    refine s_endTies (by omega) (fun ρ3 g_ρ3 t_ρ3 => ?_)
    refine r_iconst hC dX5_shut_22 rfl ?_
    refine y_zret hK rfl dX5_shut_23 (by omega) ?_
    exact k1 (by omega) _ (Gx.gx ((Gx.rf).al a_ρ2 (by first | simp | omega)) g_ρ3 (by intro c x y h; omega)) (by have hq := ((g_ρ3 _ _ _ (by omega)).trans q_ρ2); omega) (fun i h0 h3 => by rw [t_ρ3 i h0 h3, a_ρ2 13 i 0 (by omega)])
  · refine r_astoreN_n hC dX5_shut_5 rfl ?_
    refine r_aloadN_n hC dX5_shut_6 rfl ?_
    refine r_ifnonnullN hC dX5_shut_7 ?_
    refine r_iconst hC dX5_shut_10 rfl ?_
    refine y_zret hK rfl dX5_shut_11 (by omega) ?_
    exact k0 (by omega)
theorem s_link {e : Ev} {d : Nat} {P : Option Vl → Mm → Prop} {σ : Mm} {l o z w : Int}   (k1 : 0 ≤ l ∧ l ≤ 3 ∧ σ 7 l 1 = 1 ∧ 0 ≤ w ∧ w < numF (σ 7 l 2) ∧ 0 ≤ o ∧ o ≤ 3 ∧ σ 7 o 1 = 1 ∧ l ≠ o ∧ 0 ≤ z ∧ z ≤ 100000 ∧ σ 13 o 0 = -1 → ¬ (∃ i : Int, 0 ≤ i ∧ i ≤ 3 ∧ σ 13 i 0 = l) → ∀ ρ : Mm, Al1 σ ρ 13 l 0 → ρ 13 l 0 = o → P (some (vI 1)) ρ) (k0 : ¬ (0 ≤ l ∧ l ≤ 3 ∧ σ 7 l 1 = 1 ∧ 0 ≤ w ∧ w < numF (σ 7 l 2) ∧ 0 ≤ o ∧ o ≤ 3 ∧ σ 7 o 1 = 1 ∧ l ≠ o ∧ 0 ≤ z ∧ z ≤ 100000 ∧ σ 13 o 0 = -1) → P (some (vI 0)) σ) (kE : (∃ i : Int, 0 ≤ i ∧ i ≤ 3 ∧ σ 13 i 0 = l) → P (some (vI 0)) σ) : WT e (d + 5) 104 [vR 2 0, vI l, vI o, vI z, vI w] σ P := by
  refine WT_in fun K hK => ?_
  have hK : StpY e cX5_link RX5 (some .boolean) (WT e (d + 4)) P K := hK
  have hM := hK.1
  have hC := hK.1.1
  show K 0 [some (vR 2 0), some (vI l), some (vI o), some (vI z), some (vI w), none] [] σ
  refine r_rngz hC (fun g0 => ?_)
  have r_l : -2147483648 ≤ l ∧ l ≤ 2147483647 := inR_le (g0 (vI l) (by simp))
  have r_o : -2147483648 ≤ o ∧ o ≤ 2147483647 := inR_le (g0 (vI o) (by simp))
  have r_z : -2147483648 ≤ z ∧ z ≤ 2147483647 := inR_le (g0 (vI z) (by simp))
  have r_w : -2147483648 ≤ w ∧ w ≤ 2147483647 := inR_le (g0 (vI w) (by simp))
  refine r_aload_n hC dX5_link_0 rfl ?_
  refine r_iload_n hC dX5_link_1 rfl ?_
  refine r_iload hC dX5_link_2 rfl ?_
  refine z_inv2 hM dX5_link_4 vl_RX5_248 rfl rfl rfl (Nat.le_of_ble_eq_true rfl) (Nat.le_of_ble_eq_true rfl) ?_
  refine s_laneWithX (fun h1 => ?_) (fun h1 => ?_)
  · refine r_astore hC dX5_link_7 rfl ?_
    refine r_aload hC dX5_link_9 rfl ?_
    refine r_ifnullR hC dX5_link_11 ?_
    refine r_aload_n hC dX5_link_14 rfl ?_
    refine r_iload_n hC dX5_link_15 rfl ?_
    refine z_inv1 hM dX5_link_16 vl_RX5_123 rfl rfl rfl (Nat.le_of_ble_eq_true rfl) (Nat.le_of_ble_eq_true rfl) ?_
    refine s_openLaneX (fun h2 => ?_) (fun h2 => ?_)
    · refine r_ifnullR hC dX5_link_19 ?_
      refine r_iload_n hC dX5_link_22 rfl ?_
      refine r_iload_n hC dX5_link_23 rfl ?_
      refine r_icmp_eq (tgt := 34) hC dX5_link_24 rfl (fun h3 => ?_) (fun h3 => ?_)
      · refine r_iconst hC dX5_link_34 rfl ?_
        refine y_zret hK rfl dX5_link_35 (by omega) ?_
        first | exact k0 (by omega) | exact kE (by assumption)
      · refine r_iload_n hC dX5_link_27 rfl ?_
        refine z_ins1 hM dX5_link_28 tl_RX5_285 rfl (Nat.le_of_ble_eq_true rfl) (Nat.le_of_ble_eq_true rfl) ?_
        refine s_isGap (fun h5 => ?_) (fun h5 => ?_)
        · refine r_if_ne (tgt := 36) hC dX5_link_31 rfl (fun h6 => ?_) (fun h6 => by omega)
          refine r_aload_n hC dX5_link_36 rfl ?_
          refine z_getR hM dX5_link_37 fl_RX5_19 rfl rfl (vld_of (n := 1) rfl (by omega) (by omega)) ?_
          refine r_iload_n hC dX5_link_40 rfl ?_
          refine z_aald hM dX5_link_41 rfl (by decide) (by omega) (by omega) (vld_of (n := 4) rfl (by omega) (by omega)) ?_
          refine z_getI (jz := 0) hM dX5_link_42 fl_RX5_215 rfl rfl rfl (fun v7 h_v7 o_v7 t_v7 => ?_)
          have w_v7 := t_v7 (Or.inl (by simp [Tb]))
          subst w_v7
          refine r_iconst hC dX5_link_45 rfl ?_
          refine r_icmp_ne (tgt := 57) hC dX5_link_46 rfl (fun h8 => ?_) (fun h8 => ?_)
          · refine r_iconst hC dX5_link_57 rfl ?_
            refine y_zret hK rfl dX5_link_58 (by omega) ?_
            first | exact k0 (by omega) | exact kE (by assumption)
          · refine r_aload_n hC dX5_link_49 rfl ?_
            refine r_iload_n hC dX5_link_50 rfl ?_
            refine z_inv1 hM dX5_link_51 vl_RX5_335 rfl rfl rfl (Nat.le_of_ble_eq_true rfl) (Nat.le_of_ble_eq_true rfl) ?_
            refine s_isLinkedToX (fun h9 => ?_) (fun h9 => ?_)
            · refine r_if_eq (tgt := 59) hC dX5_link_54 rfl (fun h10 => by omega) (fun h10 => ?_)
              refine r_iconst hC dX5_link_57 rfl ?_
              refine y_zret hK rfl dX5_link_58 (by omega) ?_
              first | exact k0 (by omega) | exact kE (by assumption)
            · refine r_if_eq (tgt := 59) hC dX5_link_54 rfl (fun h11 => ?_) (fun h11 => by omega)
              refine r_aload_n hC dX5_link_59 rfl ?_
              refine z_getR hM dX5_link_60 fl_RX5_19 rfl rfl (vld_of (n := 1) rfl (by omega) (by omega)) ?_
              refine r_iload_n hC dX5_link_63 rfl ?_
              refine z_aald hM dX5_link_64 rfl (by decide) (by omega) (by omega) (vld_of (n := 4) rfl (by omega) (by omega)) ?_
              refine r_iload_n hC dX5_link_65 rfl ?_
              refine r_iload_n hC dX5_link_66 rfl ?_
              refine r_iload hC dX5_link_67 rfl ?_
              refine z_inv3 hM dX5_link_69 vl_RX5_338 rfl rfl rfl (Nat.le_of_ble_eq_true rfl) (Nat.le_of_ble_eq_true rfl) ?_
              refine s_Link_begin (by omega) rfl (fun ρ12 a_ρ12 q_ρ12 => ?_)
              refine r_iconst hC dX5_link_72 rfl ?_
              refine y_zret hK rfl dX5_link_73 (by omega) ?_
              exact k1 (by omega) (by assumption) _ a_ρ12 q_ρ12
        · refine r_if_ne (tgt := 36) hC dX5_link_31 rfl (fun h13 => by omega) (fun h13 => ?_)
          refine r_iconst hC dX5_link_34 rfl ?_
          refine y_zret hK rfl dX5_link_35 (by omega) ?_
          first | exact k0 (by omega) | exact kE (by assumption)
    · refine r_ifnullN (tgt := 34) hC dX5_link_19 rfl ?_
      refine r_iconst hC dX5_link_34 rfl ?_
      refine y_zret hK rfl dX5_link_35 (by omega) ?_
      first | exact k0 (by omega) | exact kE (by assumption)
  · refine r_astoreN hC dX5_link_7 rfl ?_
    refine r_aloadN hC dX5_link_9 rfl ?_
    refine r_ifnullN (tgt := 34) hC dX5_link_11 rfl ?_
    refine r_iconst hC dX5_link_34 rfl ?_
    refine y_zret hK rfl dX5_link_35 (by omega) ?_
    first | exact k0 (by omega) | exact kE (by assumption)
theorem s_unlink {e : Ev} {d : Nat} {P : Option Vl → Mm → Prop} {σ : Mm} {l : Int}   (k1 : 0 ≤ l ∧ l ≤ 3 ∧ ¬ σ 13 l 0 = -1 → ∀ ρ : Mm, Al1 σ ρ 13 l 0 → ρ 13 l 0 = -1 → P (some (vI 1)) ρ) (k0 : ¬ (0 ≤ l ∧ l ≤ 3 ∧ ¬ σ 13 l 0 = -1) → P (some (vI 0)) σ) : WT e (d + 3) 105 [vR 2 0, vI l] σ P := by
  refine WT_in fun K hK => ?_
  have hK : StpY e cX5_unlink RX5 (some .boolean) (WT e (d + 2)) P K := hK
  have hM := hK.1
  have hC := hK.1.1
  show K 0 [some (vR 2 0), some (vI l)] [] σ
  refine r_rngz hC (fun g0 => ?_)
  have r_l : -2147483648 ≤ l ∧ l ≤ 2147483647 := inR_le (g0 (vI l) (by simp))
  refine r_iload_n hC dX5_unlink_0 rfl ?_
  refine z_ins1 hM dX5_unlink_1 tl_RX5_102 rfl (Nat.le_of_ble_eq_true rfl) (Nat.le_of_ble_eq_true rfl) ?_
  refine s_isLane (fun h2 => ?_) (fun h2 => ?_)
  · refine r_if_eq (tgt := 20) hC dX5_unlink_4 rfl (fun h3 => by omega) (fun h3 => ?_)
    refine r_aload_n hC dX5_unlink_7 rfl ?_
    refine z_getR hM dX5_unlink_8 fl_RX5_19 rfl rfl (vld_of (n := 1) rfl (by omega) (by omega)) ?_
    refine r_iload_n hC dX5_unlink_11 rfl ?_
    refine z_aald hM dX5_unlink_12 rfl (by decide) (by omega) (by omega) (vld_of (n := 4) rfl (by omega) (by omega)) ?_
    refine z_getI (jz := 0) hM dX5_unlink_13 fl_RX5_215 rfl rfl rfl (fun v4 h_v4 o_v4 t_v4 => ?_)
    have w_v4 := t_v4 (Or.inl (by simp [Tb]))
    subst w_v4
    refine r_iconst hC dX5_unlink_16 rfl ?_
    refine r_icmp_ne (tgt := 22) hC dX5_unlink_17 rfl (fun h5 => ?_) (fun h5 => ?_)
    · refine r_aload_n hC dX5_unlink_22 rfl ?_
      refine z_getR hM dX5_unlink_23 fl_RX5_19 rfl rfl (vld_of (n := 1) rfl (by omega) (by omega)) ?_
      refine r_iload_n hC dX5_unlink_26 rfl ?_
      refine z_aald hM dX5_unlink_27 rfl (by decide) (by omega) (by omega) (vld_of (n := 4) rfl (by omega) (by omega)) ?_
      refine z_inv0 hM dX5_unlink_28 vl_RX5_340 rfl rfl rfl (Nat.le_of_ble_eq_true rfl) (Nat.le_of_ble_eq_true rfl) ?_
      refine s_Link_end (by omega) rfl (fun ρ6 a_ρ6 q_ρ6 => ?_)
      refine r_iconst hC dX5_unlink_31 rfl ?_
      refine y_zret hK rfl dX5_unlink_32 (by omega) ?_
      exact k1 (by omega) _ a_ρ6 q_ρ6
    · refine r_iconst hC dX5_unlink_20 rfl ?_
      refine y_zret hK rfl dX5_unlink_21 (by omega) ?_
      exact k0 (by omega)
  · refine r_if_eq (tgt := 20) hC dX5_unlink_4 rfl (fun h7 => ?_) (fun h7 => by omega)
    refine r_iconst hC dX5_unlink_20 rfl ?_
    refine y_zret hK rfl dX5_unlink_21 (by omega) ?_
    exact k0 (by omega)
theorem s_keep_S {d : Nat} {P : Option Vl → Mm → Prop} {σ : Mm} {l x : Int} (hL : InL σ) (hok : ∀ (c : Nat) (i j : Int), Okv c j (σ c i j))  (k1 : 0 ≤ l ∧ l ≤ 3 ∧ σ 7 l 1 = 1 ∧ 0 ≤ x ∧ x ≤ 2 → ∀ (r : Int) (ρ : Mm), GL (fun c X y => c = 7 ∧ X = x + 4 ∧ (y = 0 ∨ y = 1 ∨ y = 2 ∨ y = 3 ∨ y = 4 ∨ y = 6)) σ ρ → ρ 7 (x + 4) 0 = σ 7 l 0 → ρ 7 (x + 4) 1 = σ 7 l 1 → ρ 7 (x + 4) 2 = σ 7 l 2 → P (some (vI r)) ρ) (k0 : ¬ (0 ≤ l ∧ l ≤ 3 ∧ σ 7 l 1 = 1 ∧ 0 ≤ x ∧ x ≤ 2) → P (some (vI (-1))) σ) : WT (true, false, false) (d + 4) 114 [vR 2 0, vI l, vI x] σ P := by
  refine WT_in fun K hK => ?_
  have hK : StpY (true, false, false) cX5_keep RX5 (some .int) (WT (true, false, false) (d + 3)) P K := hK
  have hM := hK.1
  have hC := hK.1.1
  show K 0 [some (vR 2 0), some (vI l), some (vI x), none] [] σ
  refine r_rngz hC (fun g0 => ?_)
  have r_l : -2147483648 ≤ l ∧ l ≤ 2147483647 := inR_le (g0 (vI l) (by simp))
  have r_x : -2147483648 ≤ x ∧ x ≤ 2147483647 := inR_le (g0 (vI x) (by simp))
  refine r_aload_n hC dX5_keep_0 rfl ?_
  refine r_iload_n hC dX5_keep_1 rfl ?_
  refine z_inv1 hM dX5_keep_2 vl_RX5_123 rfl rfl rfl (Nat.le_of_ble_eq_true rfl) (Nat.le_of_ble_eq_true rfl) ?_
  refine s_openLaneX (fun h1 => ?_) (fun h1 => ?_)
  · refine r_astore_n hC dX5_keep_5 rfl ?_
    refine r_aload_n hC dX5_keep_6 rfl ?_
    refine r_ifnullR hC dX5_keep_7 ?_
    refine r_iload_n hC dX5_keep_10 rfl ?_
    refine r_iconst hC dX5_keep_11 rfl ?_
    refine r_iconst hC dX5_keep_12 rfl ?_
    refine z_ins3 hM dX5_keep_13 tl_RX5_59 rfl (Nat.le_of_ble_eq_true rfl) (Nat.le_of_ble_eq_true rfl) ?_
    refine s_within (fun h3 => ?_) (fun h3 => ?_)
    · refine r_if_ne (tgt := 21) hC dX5_keep_16 rfl (fun h4 => ?_) (fun h4 => by omega)
      refine r_aload_n hC dX5_keep_21 rfl ?_
      refine z_getR hM dX5_keep_22 fl_RX5_27 rfl rfl (vld_of (n := 1) rfl (by omega) (by omega)) ?_
      refine r_iload_n hC dX5_keep_25 rfl ?_
      refine z_aald hM dX5_keep_26 rfl (by decide) (by omega) (by omega) (vld_of (n := 7) rfl (by omega) (by omega)) ?_
      rw [show rfa 4 x = (7, (x + 4)) from by simp [rfa]; try omega]
      refine r_aload_n hC dX5_keep_27 rfl ?_
      refine z_inv1 hM dX5_keep_28 vl_RX5_349 rfl rfl rfl (Nat.le_of_ble_eq_true rfl) (Nat.le_of_ble_eq_true rfl) ?_
      refine s_Lane_copy (a0 := σ 7 l 0) (a1 := σ 7 l 1) (a2 := σ 7 l 2) (a3 := σ 7 l 3) (a4 := σ 7 l 4) (a6 := σ 7 l 6) (by omega) (by omega) rfl rfl rfl rfl rfl rfl rfl (by have := (hok 7 l 1).2.1 rfl; omega) rfl ((hok 7 l 2).2.2 rfl) rfl rfl rfl (by have := hL.h7 (i := l) (by omega) (by omega); omega) rfl (by omega) (fun ρ5 g_ρ5 q0 q1 q2 q3 q4 q6 => ?_)
      have g2 : GL (fun c X y => c = 7 ∧ X = x + 4 ∧ (y = 0 ∨ y = 1 ∨ y = 2 ∨ y = 3 ∨ y = 4 ∨ y = 6)) σ ρ5 := ⟨g_ρ5.gx0 (by intro c X y h; omega), hL.lane (i := (x + 4)) (by omega) (by omega) (fun c X y h => g_ρ5 c X y (by omega)) (by rw [q3, q4, q6]; exact hL.1 l (by omega) (by omega))⟩
      refine r_aload_n hC dX5_keep_31 rfl ?_
      refine z_getI (jz := 6) hM dX5_keep_32 fl_RX5_154 rfl rfl rfl (fun v6 h_v6 o_v6 t_v6 => ?_)
      have q_v6 : 0 ≤ v6 ∧ v6 ≤ 121 := o_v6.1 rfl
      refine y_iret hK rfl dX5_keep_35 ?_
      exact k1 (by omega) _ _ (g2) (by omega) (by omega) (by omega)
    · refine r_if_ne (tgt := 21) hC dX5_keep_16 rfl (fun h7 => by omega) (fun h7 => ?_)
      refine r_iconst hC dX5_keep_19 rfl ?_
      refine y_iret hK rfl dX5_keep_20 ?_
      exact k0 (by omega)
  · refine r_astoreN_n hC dX5_keep_5 rfl ?_
    refine r_aloadN_n hC dX5_keep_6 rfl ?_
    refine r_ifnullN (tgt := 19) hC dX5_keep_7 rfl ?_
    refine r_iconst hC dX5_keep_19 rfl ?_
    refine y_iret hK rfl dX5_keep_20 ?_
    exact k0 (by omega)
theorem s_back_S {d : Nat} {P : Option Vl → Mm → Prop} {σ : Mm} {x : Int} (hL : InL σ) (hok : ∀ (c : Nat) (i j : Int), Okv c j (σ c i j)) {l : Int} (hl : 0 ≤ l ∧ l ≤ 3) (hn : 0 ≤ x → x ≤ 2 → σ 7 (x + 4) 1 = 1 → σ 7 (x + 4) 0 = l)  (k1 : 0 ≤ x ∧ x ≤ 2 ∧ σ 7 (x + 4) 1 = 1 → ∀ (r : Int) (ρ : Mm), GL (fun c X y => c = 7 ∧ X = l ∧ (y = 0 ∨ y = 1 ∨ y = 2 ∨ y = 3 ∨ y = 4 ∨ y = 6) ∨ c = 13 ∧ y = 0) σ ρ → ρ 7 l 0 = σ 7 (x + 4) 0 → ρ 7 l 1 = σ 7 (x + 4) 1 → ρ 7 l 2 = σ 7 (x + 4) 2 → (∀ i : Int, 0 ≤ i → i ≤ 3 → ρ 13 i 0 = if i = l ∨ σ 13 i 0 = l then -1 else σ 13 i 0) → P (some (vI r)) ρ) (k0 : ¬ (0 ≤ x ∧ x ≤ 2 ∧ σ 7 (x + 4) 1 = 1) → P (some (vI (-1))) σ) : WT (true, false, false) (d + 3) 115 [vR 2 0, vI x] σ P := by
  refine WT_in fun K hK => ?_
  have hK : StpY (true, false, false) cX5_back RX5 (some .int) (WT (true, false, false) (d + 2)) P K := hK
  have hM := hK.1
  have hC := hK.1.1
  show K 0 [some (vR 2 0), some (vI x), none] [] σ
  refine r_rngz hC (fun g0 => ?_)
  have r_x : -2147483648 ≤ x ∧ x ≤ 2147483647 := inR_le (g0 (vI x) (by simp))
  refine r_iload_n hC dX5_back_0 rfl ?_
  refine r_iconst hC dX5_back_1 rfl ?_
  refine r_iconst hC dX5_back_2 rfl ?_
  refine z_ins3 hM dX5_back_3 tl_RX5_59 rfl (Nat.le_of_ble_eq_true rfl) (Nat.le_of_ble_eq_true rfl) ?_
  refine s_within (fun h2 => ?_) (fun h2 => ?_)
  · refine r_if_eq (tgt := 21) hC dX5_back_6 rfl (fun h3 => by omega) (fun h3 => ?_)
    refine r_aload_n hC dX5_back_9 rfl ?_
    refine z_getR hM dX5_back_10 fl_RX5_27 rfl rfl (vld_of (n := 1) rfl (by omega) (by omega)) ?_
    refine r_iload_n hC dX5_back_13 rfl ?_
    refine z_aald hM dX5_back_14 rfl (by decide) (by omega) (by omega) (vld_of (n := 7) rfl (by omega) (by omega)) ?_
    rw [show rfa 4 x = (7, (x + 4)) from by simp [rfa]; try omega]
    refine z_getI (jz := 1) hM dX5_back_15 fl_RX5_94 rfl rfl rfl (fun v4 h_v4 o_v4 t_v4 => ?_)
    have w_v4 := t_v4 (Or.inl (by simp [Tb]))
    subst w_v4
    have q_v4 : 0 ≤ (σ 7 (x + 4) 1) ∧ (σ 7 (x + 4) 1) ≤ 1 := by have := o_v4.2.1 rfl; omega
    refine r_if_ne (tgt := 23) hC dX5_back_18 rfl (fun h5 => ?_) (fun h5 => ?_)
    · refine r_aload_n hC dX5_back_23 rfl ?_
      refine z_getR hM dX5_back_24 fl_RX5_27 rfl rfl (vld_of (n := 1) rfl (by omega) (by omega)) ?_
      refine r_iload_n hC dX5_back_27 rfl ?_
      refine z_aald hM dX5_back_28 rfl (by decide) (by omega) (by omega) (vld_of (n := 7) rfl (by omega) (by omega)) ?_
      rw [show rfa 4 x = (7, (x + 4)) from by simp [rfa]; try omega]
      refine r_astore_n hC dX5_back_29 rfl ?_
      refine r_aload_n hC dX5_back_30 rfl ?_
      refine z_getR hM dX5_back_31 fl_RX5_13 rfl rfl (vld_of (n := 1) rfl (by omega) (by omega)) ?_
      refine r_aload_n hC dX5_back_34 rfl ?_
      refine z_getI (jz := 0) hM dX5_back_35 fl_RX5_212 rfl rfl rfl (fun v6 h_v6 o_v6 t_v6 => ?_)
      have w_v6 : l = v6 := ((t_v6 (Or.inl (by simp [Tb]))).trans (by omega)).symm
      subst w_v6
      refine z_aald hM dX5_back_38 rfl (by decide) (by omega) (by omega) (vld_of (n := 7) rfl (by omega) (by omega)) ?_
      refine r_aload_n hC dX5_back_39 rfl ?_
      refine z_inv1 hM dX5_back_40 vl_RX5_349 rfl rfl rfl (Nat.le_of_ble_eq_true rfl) (Nat.le_of_ble_eq_true rfl) ?_
      refine s_Lane_copy (a0 := σ 7 (x + 4) 0) (a1 := σ 7 (x + 4) 1) (a2 := σ 7 (x + 4) 2) (a3 := σ 7 (x + 4) 3) (a4 := σ 7 (x + 4) 4) (a6 := σ 7 (x + 4) 6) (by omega) (by omega) rfl rfl rfl rfl rfl rfl rfl (by have := (hok 7 (x + 4) 1).2.1 rfl; omega) rfl ((hok 7 (x + 4) 2).2.2 rfl) rfl rfl rfl (by have := hL.h7 (i := (x + 4)) (by omega) (by omega); omega) rfl (by omega) (fun ρ7 g_ρ7 q0 q1 q2 q3 q4 q6 => ?_)
      have g2 : GL (fun c X y => c = 7 ∧ X = l ∧ (y = 0 ∨ y = 1 ∨ y = 2 ∨ y = 3 ∨ y = 4 ∨ y = 6) ∨ c = 13 ∧ y = 0) σ ρ7 := ⟨g_ρ7.gx0 (by intro c X y h; omega), hL.lane (i := l) (by omega) (by omega) (fun c X y h => g_ρ7 c X y (by omega)) (by rw [q3, q4, q6]; exact hL.1 (x + 4) (by omega) (by omega))⟩
      refine r_aload_n hC dX5_back_43 rfl ?_
      refine r_aload_n hC dX5_back_44 rfl ?_
      refine z_getI (jz := 0) hM dX5_back_45 fl_RX5_212 rfl rfl rfl (fun v8 h_v8 o_v8 t_v8 => ?_)
      have w_v8 : l = v8 := ((t_v8 (Or.inl (by simp [Tb]))).trans (by have e9 := g_ρ7 7 (x + 4) 0 (by omega); omega)).symm
      subst w_v8
      refine z_inv1 hM dX5_back_48 vl_RX5_117 rfl rfl rfl (Nat.le_of_ble_eq_true rfl) (Nat.le_of_ble_eq_true rfl) ?_
      refine s_endTies (by omega) (fun ρ9 g_ρ9 t_ρ9 => ?_)
      refine r_aload_n hC dX5_back_51 rfl ?_
      refine z_getI (jz := 6) hM dX5_back_52 fl_RX5_154 rfl rfl rfl (fun v10 h_v10 o_v10 t_v10 => ?_)
      have q_v10 : 0 ≤ v10 ∧ v10 ≤ 121 := o_v10.1 rfl
      refine y_iret hK rfl dX5_back_55 ?_
      have e0 := g_ρ9 7 l 0 (by omega)
      have e1 := g_ρ9 7 l 1 (by omega)
      have e2 := g_ρ9 7 l 2 (by omega)
      exact k1 (by omega) _ _ (GL.gx (g2) g_ρ9 (by intro c x y h; omega) (by rintro c x y ⟨rfl, rfl⟩; simp [DL])) (by omega) (by omega) (by omega) (fun i h0 h3 => by rw [t_ρ9 i h0 h3, g_ρ7 13 i 0 (by omega)])
    · refine r_iconst hC dX5_back_21 rfl ?_
      refine y_iret hK rfl dX5_back_22 ?_
      exact k0 (by omega)
  · refine r_if_eq (tgt := 21) hC dX5_back_6 rfl (fun h11 => ?_) (fun h11 => by omega)
    refine r_iconst hC dX5_back_21 rfl ?_
    refine y_iret hK rfl dX5_back_22 ?_
    exact k0 (by omega)
theorem s_table {e : Ev} {d : Nat} {P : Option Vl → Mm → Prop} {σ : Mm} {x y : Int}   (k1 : 0 ≤ x ∧ x ≤ 15 ∧ 0 ≤ y ∧ y ≤ 3 → ¬ (∃ i : Int, 0 ≤ i ∧ i ≤ 6 ∧ σ 7 i 1 = 1 ∧ σ 7 i 2 = 9) → ∀ ρ : Mm, Al1 σ ρ 15 0 x → ρ 15 0 x = y → P (some (vI 1)) ρ) (k0 : ¬ (0 ≤ x ∧ x ≤ 15 ∧ 0 ≤ y ∧ y ≤ 3) → P (some (vI 0)) σ) (kE : (∃ i : Int, 0 ≤ i ∧ i ≤ 6 ∧ σ 7 i 1 = 1 ∧ σ 7 i 2 = 9) → P (some (vI 0)) σ) : WT e (d + 2) 47 [vR 2 0, vI x, vI y] σ P := by
  refine WT_in fun K hK => ?_
  have hK : StpY e cX5_table RX5 (some .boolean) (WT e (d + 1)) P K := hK
  have hM := hK.1
  have hC := hK.1.1
  show K 0 [some (vR 2 0), some (vI x), some (vI y)] [] σ
  refine r_rngz hC (fun g0 => ?_)
  have r_x : -2147483648 ≤ x ∧ x ≤ 2147483647 := inR_le (g0 (vI x) (by simp))
  have r_y : -2147483648 ≤ y ∧ y ≤ 2147483647 := inR_le (g0 (vI y) (by simp))
  refine r_iload_n hC dX5_table_0 rfl ?_
  refine r_iconst hC dX5_table_1 rfl ?_
  refine r_bipush hC dX5_table_2 rfl ?_
  refine z_ins3 hM dX5_table_4 tl_RX5_59 rfl (Nat.le_of_ble_eq_true rfl) (Nat.le_of_ble_eq_true rfl) ?_
  refine s_within (fun h2 => ?_) (fun h2 => ?_)
  · refine r_if_eq (tgt := 28) hC dX5_table_7 rfl (fun h3 => by omega) (fun h3 => ?_)
    refine r_iload_n hC dX5_table_10 rfl ?_
    refine r_iconst hC dX5_table_11 rfl ?_
    refine r_iconst hC dX5_table_12 rfl ?_
    refine z_ins3 hM dX5_table_13 tl_RX5_59 rfl (Nat.le_of_ble_eq_true rfl) (Nat.le_of_ble_eq_true rfl) ?_
    refine s_within (fun h5 => ?_) (fun h5 => ?_)
    · refine r_if_eq (tgt := 28) hC dX5_table_16 rfl (fun h6 => by omega) (fun h6 => ?_)
      refine r_aload_n hC dX5_table_19 rfl ?_
      refine r_bipush hC dX5_table_20 rfl ?_
      refine z_inv1 hM dX5_table_22 vl_RX5_63 rfl rfl rfl (Nat.le_of_ble_eq_true rfl) (Nat.le_of_ble_eq_true rfl) ?_
      refine s_isUsedX (fun h7 => ?_) (fun h7 => ?_)
      · refine r_if_eq (tgt := 30) hC dX5_table_25 rfl (fun h8 => by omega) (fun h8 => ?_)
        refine r_iconst hC dX5_table_28 rfl ?_
        refine y_zret hK rfl dX5_table_29 (by omega) ?_
        first | exact k0 (by omega) | exact kE (by assumption)
      · refine r_if_eq (tgt := 30) hC dX5_table_25 rfl (fun h9 => ?_) (fun h9 => by omega)
        refine r_aload_n hC dX5_table_30 rfl ?_
        refine z_getR hM dX5_table_31 fl_RX5_40 rfl rfl (vld_of (n := 1) rfl (by omega) (by omega)) ?_
        refine z_getR hM dX5_table_34 fl_RX5_67 rfl rfl (vld_of (n := 1) rfl (by omega) (by omega)) ?_
        refine r_iload_n hC dX5_table_37 rfl ?_
        refine r_iload_n hC dX5_table_38 rfl ?_
        refine z_iastG hM dX5_table_39 rfl (by omega) (by omega) ⟨Or.inr (by simp [DL]), Or.inr (by simp [DF])⟩ (by simp only [Okv]; omega) (fun ρ10 a_ρ10 q_ρ10 => ?_)
        refine r_iconst hC dX5_table_40 rfl ?_
        refine y_zret hK rfl dX5_table_41 (by omega) ?_
        exact k1 (by omega) (by assumption) _ a_ρ10 q_ρ10
    · refine r_if_eq (tgt := 28) hC dX5_table_16 rfl (fun h11 => ?_) (fun h11 => by omega)
      refine r_iconst hC dX5_table_28 rfl ?_
      refine y_zret hK rfl dX5_table_29 (by omega) ?_
      first | exact k0 (by omega) | exact kE (by assumption)
  · refine r_if_eq (tgt := 28) hC dX5_table_7 rfl (fun h12 => ?_) (fun h12 => by omega)
    refine r_iconst hC dX5_table_28 rfl ?_
    refine y_zret hK rfl dX5_table_29 (by omega) ?_
    first | exact k0 (by omega) | exact kE (by assumption)
