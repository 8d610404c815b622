-- B: the reference: the calls that move
theorem y_isLane {eb : Bool} {t : Int} {V : Mm} {d : Nat} {P : Option Vl → Mm → Prop} {σ : Mm} {l : Int}  {σ0 : Mm} (ht : 6 ≤ t ∧ t ≤ 7) (hR : RS t σ0 V σ)  (k1 : opV V l → P (some (vI 1)) σ) (k0 : ¬ opV V l → P (some (vI 0)) σ) : WT (true, eb, true) (d + 2) 137 [vR 30 0, vI l] σ P := by
  refine WT_in fun K hK => ?_
  have hK : StpY (true, eb, true) cX6_isLane RX6 (some .boolean) (WT (true, eb, true) (d + 1)) P K := hK
  have hM := hK.1
  have hC := hK.1.1
  show K 0 [some (vR 30 0), some (vI l)] [] σ
  refine r_rngz hC (fun g0 => ?_)
  have r_l : -2147483648 ≤ l ∧ l ≤ 2147483647 := inR_le (g0 (vI l) (by simp))
  refine r_iload_n hC dX6_isLane_0 rfl ?_
  refine r_iconst hC dX6_isLane_1 rfl ?_
  refine r_iconst hC dX6_isLane_2 rfl ?_
  refine z_ins3 hM dX6_isLane_3 tl_RX6_76 rfl (Nat.le_of_ble_eq_true rfl) (Nat.le_of_ble_eq_true rfl) ?_
  refine m_isIn (fun h2 => ?_) (fun h2 => ?_)
  · refine r_if_eq (tgt := 28) hC dX6_isLane_6 rfl (fun h3 => by omega) (fun h3 => ?_)
    refine r_aload_n hC dX6_isLane_9 rfl ?_
    refine z_getR hM dX6_isLane_10 fl_RX6_7 rfl rfl (vld_of (n := 1) rfl (by omega) (by omega)) ?_
    refine r_bipush hC dX6_isLane_13 rfl ?_
    refine r_iload_n hC dX6_isLane_15 rfl ?_
    refine r_imulE hC ((22 * l)) dX6_isLane_16 (by omega) (by unfold inR; omega) ?_
    refine r_iconst hC dX6_isLane_17 rfl ?_
    refine r_iaddE hC ((22 * l)) dX6_isLane_18 (by omega) (by unfold inR; omega) ?_
    refine z_iald hM dX6_isLane_19 rfl (by omega) (by omega) (fun v4 h_v4 o_v4 t_v4 => ?_)
    have w_v4 := ((t_v4 (Or.inl (by simp only [Tb]; omega))).trans ((show σ 31 0 (22 * l) = V 7 l 1 from by rw [show (22 * l) = 22 * l + 0 from by omega]; exact hR.1.a7 (s := 1) (f := 0) (by omega) (by omega) (by omega)).trans (rfl))).symm
    subst w_v4
    have q_v4 : 0 ≤ (V 7 l 1) ∧ (V 7 l 1) ≤ 1 := by have := o_v4.2 (by omega); omega
    refine r_iconst hC dX6_isLane_20 rfl ?_
    refine r_icmp_ne (tgt := 28) hC dX6_isLane_21 rfl (fun h5 => ?_) (fun h5 => ?_)
    · refine r_iconst hC dX6_isLane_28 rfl ?_
      refine y_zret hK rfl dX6_isLane_29 (by omega) ?_
      exact k0 (by unfold opV; omega)
    · refine r_iconst hC dX6_isLane_24 rfl ?_
      refine r_goto (tgt := 29) hC dX6_isLane_25 rfl ?_
      refine y_zret hK rfl dX6_isLane_29 (by omega) ?_
      exact k1 (by unfold opV; omega)
  · refine r_if_eq (tgt := 28) hC dX6_isLane_6 rfl (fun h6 => ?_) (fun h6 => by omega)
    refine r_iconst hC dX6_isLane_28 rfl ?_
    refine y_zret hK rfl dX6_isLane_29 (by omega) ?_
    exact k0 (by unfold opV; omega)
theorem y_come {eb : Bool} {t : Int} {V : Mm} {d : Nat} {P : Option Vl → Mm → Prop} {σ : Mm} {l z v : Int}  {σ0 : Mm} (ht : 6 ≤ t ∧ t ≤ 7) (hR : RS t σ0 V σ) (hG : GI V)  (k : ∀ ρ : Mm, RS t σ0 (coM V l z v) ρ → P (some (vI (coR V l z v))) ρ) : WT (true, eb, true) (d + 11) 205 [vR 30 0, vI l, vI z, vI v] σ P := by
  refine WT_in fun K hK => ?_
  have hK : StpY (true, eb, true) cX6_come RX6 (some .int) (WT (true, eb, true) (d + 10)) P K := hK
  have hM := hK.1
  have hC := hK.1.1
  show K 0 [some (vR 30 0), some (vI l), some (vI z), some (vI v)] [] σ
  refine r_rngz hC (fun g0 => ?_)
  have r_l : -2147483648 ≤ l ∧ l ≤ 2147483647 := inR_le (g0 (vI l) (by simp))
  have r_z : -2147483648 ≤ z ∧ z ≤ 2147483647 := inR_le (g0 (vI z) (by simp))
  have r_v : -2147483648 ≤ v ∧ v ≤ 2147483647 := inR_le (g0 (vI v) (by simp))
  refine r_aload_n hC dX6_come_0 rfl ?_
  refine r_iload_n hC dX6_come_1 rfl ?_
  refine z_inv1 hM dX6_come_2 vl_RX6_124 rfl rfl rfl (Nat.le_of_ble_eq_true rfl) (Nat.le_of_ble_eq_true rfl) ?_
  refine y_isLane (V := V) ht ⟨hR.1, hR.2.1, hR.2.2⟩ (fun h1 => ?_) (fun h1 => ?_)
  · unfold opV at h1
    refine r_if_eq (tgt := 31) hC dX6_come_5 rfl (fun h2 => by omega) (fun h2 => ?_)
    have h6 := hG.1.h7 (l := l) (by omega) (by omega)
    have h10 := hG.2.1.2.1 l (by omega) (by omega)
    have hlk := hG.2.1.2.2.2.2.2.1 l (by omega) (by omega)
    unfold opV at hlk
    have hk13 : -1 ≤ V 13 l 0 ∧ V 13 l 0 ≤ 3 := by omega
    have hkn := hG.1.2.2.2 l (by omega) (by omega)
    refine r_iload_n hC dX6_come_8 rfl ?_
    refine r_iconst hC dX6_come_9 rfl ?_
    refine r_ldc hC dX6_come_10 co_RX6_239 rfl ?_
    refine z_ins3 hM dX6_come_12 tl_RX6_76 rfl (Nat.le_of_ble_eq_true rfl) (Nat.le_of_ble_eq_true rfl) ?_
    refine m_isIn (fun h4 => ?_) (fun h4 => ?_)
    · refine r_if_eq (tgt := 31) hC dX6_come_15 rfl (fun h5 => by omega) (fun h5 => ?_)
      refine r_iload_n hC dX6_come_18 rfl ?_
      refine r_sipush hC dX6_come_19 rfl ?_
      refine r_sipush hC dX6_come_22 rfl ?_
      refine z_ins3 hM dX6_come_25 tl_RX6_76 rfl (Nat.le_of_ble_eq_true rfl) (Nat.le_of_ble_eq_true rfl) ?_
      refine m_isIn (fun h7 => ?_) (fun h7 => ?_)
      · refine r_if_ne (tgt := 33) hC dX6_come_28 rfl (fun h8 => ?_) (fun h8 => by omega)
        have hnl : V 7 l 10 = -1 → ¬ z < wr (V 7 l 10 - V 7 l 5) := fun q => lt_neg q (by omega) (by omega)
        refine r_aload_n hC dX6_come_33 rfl ?_
        refine r_iload_n hC dX6_come_34 rfl ?_
        refine r_iload_n hC dX6_come_35 rfl ?_
        refine z_inv2 hM dX6_come_36 vl_RX6_247 rfl rfl rfl (Nat.le_of_ble_eq_true rfl) (Nat.le_of_ble_eq_true rfl) ?_
        refine y_isLost (V := V) (by omega) ht ⟨hR.1, hR.2.1, hR.2.2⟩ (by omega) (fun h9 => ?_) (fun h9 => ?_)
        · refine r_if_eq (tgt := 53) hC dX6_come_39 rfl (fun h10 => by omega) (fun h10 => ?_)
          refine r_aload_n hC dX6_come_42 rfl ?_
          refine r_iload_n hC dX6_come_43 rfl ?_
          refine r_bipush hC dX6_come_44 rfl ?_
          refine r_iconst hC dX6_come_46 rfl ?_
          refine z_inv3 hM dX6_come_47 vl_RX6_188 rfl rfl rfl (Nat.le_of_ble_eq_true rfl) (Nat.le_of_ble_eq_true rfl) ?_
          refine y_moreG (by omega) ?_
          refine r_bipush hC dX6_come_50 rfl ?_
          refine y_iret hK rfl dX6_come_52 ?_
          have hM : coM V l z v = V := by
            unfold coM
            first | exact if_pos (by omega) | exact if_neg (by omega)
          have hRr : coR V l z v = (-2) := by
            unfold coR
            first | (rw [if_pos (by omega)]; done) | (rw [if_neg (by omega), if_pos (by omega)]; done) | (rw [if_neg (by omega), if_neg (by omega), if_pos (by omega)]; done) | (rw [if_neg (by omega), if_neg (by omega), if_neg (by omega), hM]; exact ntM_ne (by omega))
          rw [hM] at k
          rw [hRr] at k
          exact k _ ⟨hR.1, hR.2.1, hR.2.2⟩
        · refine r_if_eq (tgt := 53) hC dX6_come_39 rfl (fun h11 => ?_) (fun h11 => by omega)
          refine r_aload_n hC dX6_come_53 rfl ?_
          refine r_iload_n hC dX6_come_54 rfl ?_
          refine z_inv1 hM dX6_come_55 vl_RX6_250 rfl rfl rfl (Nat.le_of_ble_eq_true rfl) (Nat.le_of_ble_eq_true rfl) ?_
          refine y_isFull (V := V) (by omega) ht ⟨hR.1, hR.2.1, hR.2.2⟩ (by omega) (fun h12 => ?_) (fun h12 => ?_)
          · refine r_if_eq (tgt := 63) hC dX6_come_58 rfl (fun h13 => by omega) (fun h13 => ?_)
            refine r_iconst hC dX6_come_61 rfl ?_
            refine y_iret hK rfl dX6_come_62 ?_
            have hM : coM V l z v = V := by
              unfold coM
              first | exact if_pos (by omega) | exact if_neg (by omega)
            have hRr : coR V l z v = (-1) := by
              unfold coR
              first | (rw [if_pos (by omega)]; done) | (rw [if_neg (by omega), if_pos (by omega)]; done) | (rw [if_neg (by omega), if_neg (by omega), if_pos (by omega)]; done) | (rw [if_neg (by omega), if_neg (by omega), if_neg (by omega), hM]; exact ntM_ne (by omega))
            rw [hM] at k
            rw [hRr] at k
            exact k _ ⟨hR.1, hR.2.1, hR.2.2⟩
          · refine r_if_eq (tgt := 63) hC dX6_come_58 rfl (fun h14 => ?_) (fun h14 => by omega)
            refine r_aload_n hC dX6_come_63 rfl ?_
            refine r_iload_n hC dX6_come_64 rfl ?_
            refine r_iload_n hC dX6_come_65 rfl ?_
            refine z_inv2 hM dX6_come_66 vl_RX6_256 rfl rfl rfl (Nat.le_of_ble_eq_true rfl) (Nat.le_of_ble_eq_true rfl) ?_
            refine y_give (V := V) (by omega) (by omega) ht ⟨hR.1, hR.2.1, hR.2.2⟩ hG.1 hG.2.1 (fun ρ15 Rρ15 => ?_)
            refine r_aload_n hC dX6_come_69 rfl ?_
            refine r_iload_n hC dX6_come_70 rfl ?_
            refine r_iload_n hC dX6_come_71 rfl ?_
            refine r_iload_n hC dX6_come_72 rfl ?_
            refine z_inv3 hM dX6_come_73 vl_RX6_253 rfl rfl rfl (Nat.le_of_ble_eq_true rfl) (Nat.le_of_ble_eq_true rfl) ?_
            have u3_73 : (gvM V l z) 7 l 3 = (V 7 l 3) := ((gv_7 hG.1 (by omega) (by omega)).trans (rfl))
            have u6_73 : (gvM V l z) 7 l 6 = (V 7 l 6) := ((gv_7 hG.1 (by omega) (by omega)).trans (rfl))
            have nf_73 : ¬ fuV (gvM V l z) l := by unfold fuV; omega
            have c_73 : CI (gvM V l z) := (CI.gv hG.1)
            have j_73 : GJ (gvM V l z) := (GJ.gv hG.2.1 hG.1 (by omega) (by omega))
            refine y_enter (V := (gvM V l z)) (l := l) (z := z) (v := v) (by omega) (by omega) (by omega) ht ⟨Rρ15.1, Rρ15.2.1, Rρ15.2.2⟩ (by omega) (j_73.lk c_73 (by omega) (by omega)) (c_73.2.1 l (by omega) (by omega)) (j_73.1 l (by omega) (by omega)) (c_73.h7 (by omega) (by omega)).2 (fun q => by have := c_73.size (i := l) (by omega) (by omega) q; omega) (fun ρ16 Rρ16 => ?_)
            refine r_aload_n hC dX6_come_76 rfl ?_
            refine r_iload_n hC dX6_come_77 rfl ?_
            refine z_inv1 hM dX6_come_78 vl_RX6_259 rfl rfl rfl (Nat.le_of_ble_eq_true rfl) (Nat.le_of_ble_eq_true rfl) ?_
            have e13 : (plM (gvM V l z) l z v) 13 l 0 = V 13 l 0 := (plM_nx (by unfold PS; omega)).trans (gvM_nx (by unfold PS; omega) (by omega))
            have hms : ∀ x : Int, 0 ≤ x → x ≤ 3 → x ≠ l → x ≠ V 13 l 0 → (plM (gvM V l z) l z v) 7 x 6 ≤ (plM (gvM V l z) l z v) 7 x 15 := fun x a b c d => by
              rw [plM_nx (by unfold PS; omega), plM_nx (by unfold PS; omega), gvM_nx (by unfold PS; omega) (by omega), gvM_nx (by unfold PS; omega) (by omega)]
              exact hG.2.2 x a (by omega)
            refine y_behindCall (V := (plM (gvM V l z) l z v)) (by omega) ht ⟨Rρ16.1, Rρ16.2.1, Rρ16.2.2⟩ (by rw [e13]; omega) (by rw [e13]; omega) (fun x a b c d => hms x a b c (by rw [e13] at d; exact d)) (fun ρ17 Rρ17 => ?_)
            refine y_iret hK rfl dX6_come_81 ?_
            have hM : coM V l z v = (ntM (plM (gvM V l z) l z v)) := by
              unfold coM
              first | exact if_pos (by omega) | exact if_neg (by omega)
            have hRr : coR V l z v = ((plM (gvM V l z) l z v) 7 l 6) := by
              unfold coR
              first | (rw [if_pos (by omega)]; done) | (rw [if_neg (by omega), if_pos (by omega)]; done) | (rw [if_neg (by omega), if_neg (by omega), if_pos (by omega)]; done) | (rw [if_neg (by omega), if_neg (by omega), if_neg (by omega), hM]; exact ntM_ne (by omega))
            rw [hM] at k
            rw [hRr] at k
            exact k _ ⟨Rρ17.1, Rρ17.2.1, Rρ17.2.2⟩
      · refine r_if_ne (tgt := 33) hC dX6_come_28 rfl (fun h18 => by omega) (fun h18 => ?_)
        refine r_iconst hC dX6_come_31 rfl ?_
        refine y_iret hK rfl dX6_come_32 ?_
        have hM : coM V l z v = V := by
          unfold coM
          first | exact if_pos (by omega) | exact if_neg (by omega)
        have hRr : coR V l z v = (-1) := by
          unfold coR
          first | (rw [if_pos (by omega)]; done) | (rw [if_neg (by omega), if_pos (by omega)]; done) | (rw [if_neg (by omega), if_neg (by omega), if_pos (by omega)]; done) | (rw [if_neg (by omega), if_neg (by omega), if_neg (by omega), hM]; exact ntM_ne (by omega))
        rw [hM] at k
        rw [hRr] at k
        exact k _ ⟨hR.1, hR.2.1, hR.2.2⟩
    · refine r_if_eq (tgt := 31) hC dX6_come_15 rfl (fun h19 => ?_) (fun h19 => by omega)
      refine r_iconst hC dX6_come_31 rfl ?_
      refine y_iret hK rfl dX6_come_32 ?_
      have hM : coM V l z v = V := by
        unfold coM
        first | exact if_pos (by omega) | exact if_neg (by omega)
      have hRr : coR V l z v = (-1) := by
        unfold coR
        first | (rw [if_pos (by omega)]; done) | (rw [if_neg (by omega), if_pos (by omega)]; done) | (rw [if_neg (by omega), if_neg (by omega), if_pos (by omega)]; done) | (rw [if_neg (by omega), if_neg (by omega), if_neg (by omega), hM]; exact ntM_ne (by omega))
      rw [hM] at k
      rw [hRr] at k
      exact k _ ⟨hR.1, hR.2.1, hR.2.2⟩
  · unfold opV at h1
    refine r_if_eq (tgt := 31) hC dX6_come_5 rfl (fun h20 => ?_) (fun h20 => by omega)
    refine r_iconst hC dX6_come_31 rfl ?_
    refine y_iret hK rfl dX6_come_32 ?_
    have hM : coM V l z v = V := by
      unfold coM
      first | exact if_pos (by omega) | exact if_neg (by omega)
    have hRr : coR V l z v = (-1) := by
      unfold coR
      first | (rw [if_pos (by omega)]; done) | (rw [if_neg (by omega), if_pos (by omega)]; done) | (rw [if_neg (by omega), if_neg (by omega), if_pos (by omega)]; done) | (rw [if_neg (by omega), if_neg (by omega), if_neg (by omega), hM]; exact ntM_ne (by omega))
    rw [hM] at k
    rw [hRr] at k
    exact k _ ⟨hR.1, hR.2.1, hR.2.2⟩
