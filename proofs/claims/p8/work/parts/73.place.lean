-- B: drops, places
theorem x_ring {eb : Bool} {d : Nat} {P : Option Vl → Mm → Prop} {σ : Mm} {i : Int} (b_i : 0 ≤ i ∧ i ≤ 6) (hn0 : σ 7 i 0 = i) (k : P none (rgM σ i)) : WT (true, false, eb) (d + 4) 102 [vR 2 0, vR 7 i] σ P := by
  refine WT_loose (true, true, eb) (fun h => h) (fun h => by cases h) (fun c j q => ?_) (fun ρ hL hF hT hO => ?_)
  · rcases q with q | q | q | q
    · exact Or.inl q
    · exact Or.inr (Or.inl q)
    · cases q.1
    · exact Or.inr (Or.inr (Or.inr q))
  · have t7 : ∀ y : Int, y ≠ 11 → ρ 7 i y = σ 7 i y := fun y hy => hT 7 i y (Or.inl hy)
    refine x_ring_S b_i ((t7 0 (by omega)).trans hn0) (hF rfl) (fun ρ2 g hI => ⟨rgM σ i, k, fun h => Or.inl h, fun _ => Or.inr hI, fun c x y q => ?_⟩)
    refine (g c x y ?_).trans (rgM_c (funext fun j => hT 16 0 j (Or.inl trivial)) (funext fun j => hT 15 0 j (Or.inl trivial)) (t7 2 (by omega)) (funext fun j => hT 9 i j (Or.inl trivial)) (t7 6 (by omega)) (t7 10 (by omega)) (fun w y => hT 12 w y (Or.inl trivial)) (hT c x y q))
    rintro (⟨rfl, rfl⟩ | ⟨rfl, rfl, h⟩)
    · rcases q with q | q | q | q
      · exact q
      · exact q.2
      · cases q.1
      · exact q.2
    · rcases q with q | q | q | q
      · exact q
      · exact q.2
      · cases q.1
      · exact q.2
theorem FI_bnd {f : Int → Int} {h : Int} (p : FI f h) (q : h ≤ 121) : (0 ≤ f 0 ∧ f 0 ≤ 121) ∧ (0 ≤ f 1 ∧ f 1 ≤ 121) ∧ (0 ≤ f 2 ∧ f 2 ≤ 121) ∧ 0 ≤ f 3 ∧ f 3 ≤ 242 := by
  unfold FI at p
  omega
theorem x_dropOldest {ec : Bool} {d : Nat} {P : Option Vl → Mm → Prop} {σ : Mm} {i : Int} (b_i : 0 ≤ i ∧ i ≤ 6) (hn0 : σ 7 i 0 = i) (hF : FI (σ 11 i) (σ 7 i 6)) (h1 : 1 ≤ σ 7 i 6) (h6 : σ 7 i 6 ≤ 121)  (k : P none (dpM σ i)) : WT (true, false, ec) (d + 5) 68 [vR 2 0, vR 7 i] σ P := by
  refine WT_in fun K hK => ?_
  have hK : StpY (true, false, ec) cX5_dropOldest RX5 (none) (WT (true, false, ec) (d + 4)) P K := hK
  have hM := hK.1
  have hC := hK.1.1
  show K 0 [some (vR 2 0), some (vR 7 i)] [] σ
  have hFB := FI_bnd hF (by omega : σ 7 i 6 ≤ 121)
  refine r_aload_n hC dX5_dropOldest_0 rfl ?_
  refine r_iconst hC dX5_dropOldest_1 rfl ?_
  refine z_inv1 hM dX5_dropOldest_2 vl_RX5_179 rfl rfl rfl (Nat.le_of_ble_eq_true rfl) (Nat.le_of_ble_eq_true rfl) ?_
  have z6_2 : σ 7 i 6 = (σ 7 i 6) := (rfl)
  refine x_remove (by omega) (by omega) (by omega) ?_
  refine r_aload_n hC dX5_dropOldest_5 rfl ?_
  refine r_dup hC dX5_dropOldest_6 rfl ?_
  refine z_getI (jz := 13) hM dX5_dropOldest_7 fl_RX5_204 rfl rfl rfl (fun v1 h_v1 o_v1 t_v1 => ?_)
  have w_v1 := ((t_v1 (Or.inl (by simp [Tb]))).trans ((remM_ne (by omega)).trans (rfl))).symm
  subst w_v1
  refine r_iconst hC dX5_dropOldest_10 rfl ?_
  refine r_iadd hC dX5_dropOldest_11 ?_
  have f2 := inR_le (inR_wr ((σ 7 i 13) + 1))
  refine z_putIT (jz := 13) hM dX5_dropOldest_12 fw_RX5_204 rfl rfl rfl ⟨Or.inr (by simp [DL]), Or.inr (by simp [DF])⟩ (by first | trivial | (simp only [Okv]; omega) | (simp [Okv]; try omega)) ?_
  refine r_aload_n hC dX5_dropOldest_15 rfl ?_
  refine z_getR hM dX5_dropOldest_16 fl_RX5_189 rfl rfl (vld_of (n := 8) rfl (by omega) (by omega)) ?_
  refine z_inv0 hM dX5_dropOldest_19 vl_RX5_207 rfl rfl rfl (Nat.le_of_ble_eq_true rfl) (Nat.le_of_ble_eq_true rfl) ?_
  have z0_19 : (mu (remM σ i 0) 7 i 13 (wr ((σ 7 i 13) + 1))) 11 i 0 = (σ 11 i 0) := ((mu_ne (by omega)).trans ((remM_ne (by omega)).trans (rfl)))
  have z1_19 : (mu (remM σ i 0) 7 i 13 (wr ((σ 7 i 13) + 1))) 11 i 1 = (σ 11 i 1) := ((mu_ne (by omega)).trans ((remM_ne (by omega)).trans (rfl)))
  have z2_19 : (mu (remM σ i 0) 7 i 13 (wr ((σ 7 i 13) + 1))) 11 i 2 = (σ 11 i 2) := ((mu_ne (by omega)).trans ((remM_ne (by omega)).trans (rfl)))
  have z3_19 : (mu (remM σ i 0) 7 i 13 (wr ((σ 7 i 13) + 1))) 11 i 3 = (σ 11 i 3) := ((mu_ne (by omega)).trans ((remM_ne (by omega)).trans (rfl)))
  refine x_drop (by omega) (by omega) ?_
  refine r_aload_n hC dX5_dropOldest_22 rfl ?_
  refine r_aload_n hC dX5_dropOldest_23 rfl ?_
  refine z_inv1 hM dX5_dropOldest_24 vl_RX5_195 rfl rfl rfl (Nat.le_of_ble_eq_true rfl) (Nat.le_of_ble_eq_true rfl) ?_
  refine x_ring (by omega) (((dfM_ne (by omega)).trans ((mu_ne (by omega)).trans ((remM_ne (by omega)).trans (rfl)))).trans hn0) ?_
  refine y_vret hK rfl dX5_dropOldest_27 ?_
  have hm : dpM σ i = (rgM (dfM (mu (remM σ i 0) 7 i 13 (wr ((σ 7 i 13) + 1))) i) i) := rfl
  rw [hm] at k
  exact k
theorem x_layAnewS {ec : Bool} {d : Nat} {P : Option Vl → Mm → Prop} {σ : Mm} {i : Int} (b_i : 0 ≤ i ∧ i ≤ 6) (hn0 : σ 7 i 0 = i)  (k : P none (rgM (lyM σ i (σ 7 i 6)) i)) : WT (true, false, ec) (d + 5) 69 [vR 2 0, vR 7 i] σ P := by
  refine WT_in fun K hK => ?_
  have hK : StpY (true, false, ec) cX5_layAnew RX5 (none) (WT (true, false, ec) (d + 4)) P K := hK
  have hM := hK.1
  have hC := hK.1.1
  show K 0 [some (vR 2 0), some (vR 7 i)] [] σ
  refine r_aload_n hC dX5_layAnew_0 rfl ?_
  refine z_getR hM dX5_layAnew_1 fl_RX5_189 rfl rfl (vld_of (n := 8) rfl (by omega) (by omega)) ?_
  refine r_aload_n hC dX5_layAnew_4 rfl ?_
  refine z_getI (jz := 6) hM dX5_layAnew_5 fl_RX5_154 rfl rfl rfl (fun v1 h_v1 o_v1 t_v1 => ?_)
  have w_v1 := ((t_v1 (Or.inl (by simp [Tb]))).trans (rfl)).symm
  subst w_v1
  have q_v1 : 0 ≤ (σ 7 i 6) ∧ (σ 7 i 6) ≤ 121 := o_v1.1 rfl
  refine z_inv1 hM dX5_layAnew_8 vl_RX5_210 rfl rfl rfl (Nat.le_of_ble_eq_true rfl) (Nat.le_of_ble_eq_true rfl) ?_
  refine x_layAnew (by omega) (by omega) ?_
  refine r_aload_n hC dX5_layAnew_11 rfl ?_
  refine r_aload_n hC dX5_layAnew_12 rfl ?_
  refine z_inv1 hM dX5_layAnew_13 vl_RX5_195 rfl rfl rfl (Nat.le_of_ble_eq_true rfl) (Nat.le_of_ble_eq_true rfl) ?_
  refine x_ring (by omega) (((lyM_ne (by omega)).trans (rfl)).trans hn0) ?_
  refine y_vret hK rfl dX5_layAnew_16 ?_
  have hm : rgM (lyM σ i (σ 7 i 6)) i = (rgM (lyM σ i (σ 7 i 6)) i) := rfl
  rw [hm] at k
  exact k
theorem x_place {ec : Bool} {d : Nat} {P : Option Vl → Mm → Prop} {σ : Mm} {i t v : Int} (b_i : 0 ≤ i ∧ i ≤ 6) (b_t : -2147483648 ≤ t ∧ t ≤ 2147483647) (b_v : -1000 ≤ v ∧ v ≤ 1000) (hn0 : σ 7 i 0 = i) (hF : FI (σ 11 i) (σ 7 i 6)) (hh : 0 ≤ σ 7 i 6 ∧ σ 7 i 6 ≤ 120)  (k : P none (plM σ i t v)) : WT (true, false, ec) (d + 6) 67 [vR 2 0, vR 7 i, vI t, vI v] σ P := by
  refine WT_in fun K hK => ?_
  have hK : StpY (true, false, ec) cX5_place RX5 (none) (WT (true, false, ec) (d + 5)) P K := hK
  have hM := hK.1
  have hC := hK.1.1
  show K 0 [some (vR 2 0), some (vR 7 i), some (vI t), some (vI v), none, none, none] [] σ
  have hFB := FI_bnd hF (by omega : σ 7 i 6 ≤ 121)
  refine r_aload_n hC dX5_place_0 rfl ?_
  refine r_iload_n hC dX5_place_1 rfl ?_
  refine r_i2l hC dX5_place_2 ?_
  refine z_inv1 hM dX5_place_3 vl_RX5_167 rfl rfl rfl (Nat.le_of_ble_eq_true rfl) (Nat.le_of_ble_eq_true rfl) ?_
  refine x_heldUntil (by omega) (fun h1 => ?_)
  refine r_istore hC dX5_place_6 rfl ?_
  refine r_iload hC dX5_place_8 rfl ?_
  refine r_aload_n hC dX5_place_10 rfl ?_
  refine z_getI (jz := 6) hM dX5_place_11 fl_RX5_154 rfl rfl rfl (fun v2 h_v2 o_v2 t_v2 => ?_)
  have w_v2 := ((t_v2 (Or.inl (by simp [Tb]))).trans (rfl)).symm
  subst w_v2
  have q_v2 : 0 ≤ (σ 7 i 6) ∧ (σ 7 i 6) ≤ 121 := o_v2.1 rfl
  refine r_icmp_ne (tgt := 21) hC dX5_place_14 rfl (fun h3 => ?_) (fun h3 => ?_)
  · refine r_iconst hC dX5_place_21 rfl ?_
    refine r_istore hC dX5_place_22 rfl ?_
    refine r_aload_n hC dX5_place_24 rfl ?_
    refine r_iload hC dX5_place_25 rfl ?_
    refine r_iload_n hC dX5_place_27 rfl ?_
    refine r_iload_n hC dX5_place_28 rfl ?_
    refine z_inv3 hM dX5_place_29 vl_RX5_185 rfl rfl rfl (Nat.le_of_ble_eq_true rfl) (Nat.le_of_ble_eq_true rfl) ?_
    have z6_29 : σ 7 i 6 = (σ 7 i 6) := (rfl)
    refine x_insert (by omega) (by omega) (by omega) (by omega) (by omega) (by omega) ?_
    refine r_iload hC dX5_place_32 rfl ?_
    refine r_if_eq (tgt := 52) hC dX5_place_34 rfl (fun h4 => ?_) (fun h4 => by omega)
    refine r_aload_n hC dX5_place_52 rfl ?_
    refine r_aload_n hC dX5_place_53 rfl ?_
    refine z_inv1 hM dX5_place_54 vl_RX5_182 rfl rfl rfl (Nat.le_of_ble_eq_true rfl) (Nat.le_of_ble_eq_true rfl) ?_
    refine x_layAnewS (by omega) (((insM_ne (by omega)).trans (rfl)).trans hn0) ?_
    rw [show (insM σ i (hU σ i t) t v) 7 i 6 = ((σ 7 i 6) + 1) from (insM_6.trans (congrArg (· + 1) (rfl)))]
    have hE : (rgM (lyM (insM σ i (hU σ i t) t v) i ((σ 7 i 6) + 1)) i) = enM σ i t v := by
      unfold enM
      first | rw [if_pos (by omega)] | rw [if_neg (by omega)]
    refine r_aload_n hC dX5_place_57 rfl ?_
    refine z_getI (jz := 6) hM dX5_place_58 fl_RX5_154 rfl rfl rfl (fun v5 h_v5 o_v5 t_v5 => ?_)
    have w_v5 := ((t_v5 (Or.inl (by simp [Tb]))).trans ((rgM_ne (by omega)).trans ((lyM_ne (by omega)).trans (insM_6.trans (congrArg (· + 1) (rfl)))))).symm
    subst w_v5
    have q_v5 : 0 ≤ ((σ 7 i 6) + 1) ∧ ((σ 7 i 6) + 1) ≤ 121 := o_v5.1 rfl
    refine r_istore hC dX5_place_61 rfl ?_
    have L63 : ∀ (n63 : Nat) (w6 : Int) (ρ7 : Mm), 0 ≤ w6 ∧ w6 ≤ 121 → w6 - 0 < (n63 : Int) → (drps i ((w6)).toNat ρ7 = plM σ i t v) → (LI ρ7 i) → (ρ7 7 i 6 = (w6)) → K 63 [some (vR 2 0), some (vR 7 i), some (vI t), some (vI v), some (vI (hU σ i t)), some (vI 0), some (vI w6)] [] ρ7 := by
      intro n63
      induction n63 with
      | zero => intro w6 ρ7 f_w6  hm  m0_63 m1_63 m2_63; omega
      | succ n63 ih63 =>
        intro w6 ρ7 f_w6  hm63  m0_63 m1_63 m2_63
        refine r_iload hC dX5_place_63 rfl ?_
        refine r_if_le (tgt := 100) hC dX5_place_65 rfl (fun h8 => ?_) (fun h8 => ?_)
        · refine y_vret hK rfl dX5_place_100 ?_
          have hm : plM σ i t v = ρ7 := by rw [← m0_63]; first | exact drps_no (by omega) | (rw [show (w6).toNat = 0 from by omega]; rfl)
          rw [hm] at k
          exact k
        · refine r_aload_n hC dX5_place_68 rfl ?_
          refine r_aload_n hC dX5_place_69 rfl ?_
          refine z_getI (jz := 6) hM dX5_place_70 fl_RX5_154 rfl rfl rfl (fun v9 h_v9 o_v9 t_v9 => ?_)
          have w_v9 := ((t_v9 (Or.inl (by simp [Tb]))).trans (rfl)).symm
          subst w_v9
          have q_v9 : 0 ≤ (ρ7 7 i 6) ∧ (ρ7 7 i 6) ≤ 121 := o_v9.1 rfl
          refine r_aload_n hC dX5_place_73 rfl ?_
          refine z_getR hM dX5_place_74 fl_RX5_198 rfl rfl (vld_of (n := 7) rfl (by omega) (by omega)) ?_
          refine r_iconst hC dX5_place_77 rfl ?_
          refine z_iald hM dX5_place_78 rfl (by omega) (by omega) (fun v10 h_v10 o_v10 t_v10 => ?_)
          have w_v10 := ((t_v10 (Or.inl (by simp [Tb]))).trans (rfl)).symm
          subst w_v10
          refine r_aload_n hC dX5_place_79 rfl ?_
          refine z_getI (jz := 10) hM dX5_place_80 fl_RX5_157 rfl rfl rfl (fun v11 h_v11 o_v11 t_v11 => ?_)
          have w_v11 := ((t_v11 (Or.inl (by simp [Tb]))).trans (rfl)).symm
          subst w_v11
          refine z_inv3 hM dX5_place_83 vl_RX5_201 rfl rfl rfl (Nat.le_of_ble_eq_true rfl) (Nat.le_of_ble_eq_true rfl) ?_
          refine x_goes (by omega) (fun h12 => ?_) (fun h12 => ?_)
          · have y3_h12 : ρ7 7 i 3 = (ρ7 7 i 3) := (rfl)
            have y4_h12 : ρ7 7 i 4 = (ρ7 7 i 4) := (rfl)
            refine r_if_eq (tgt := 100) hC dX5_place_86 rfl (fun h13 => by omega) (fun h13 => ?_)
            have hgo : goV ρ7 i := by unfold goV; omega
            refine r_aload_n hC dX5_place_89 rfl ?_
            refine r_aload_n hC dX5_place_90 rfl ?_
            refine z_inv1 hM dX5_place_91 vl_RX5_163 rfl rfl rfl (Nat.le_of_ble_eq_true rfl) (Nat.le_of_ble_eq_true rfl) ?_
            refine x_dropOldest (by omega) m1_63.1 m1_63.2.1 (by omega) (by omega) ?_
            refine r_iincE hC ((w6 - 1)) dX5_place_94 rfl rfl (by omega) (by unfold inR; omega) ?_
            refine r_goto (tgt := 63) hC dX5_place_97 rfl ?_
            exact ih63 ((w6 - 1)) (dpM ρ7 i) (by omega)  (by omega)  (by have q := m0_63; rw [show (w6).toNat = ((w6 - 1)).toNat + 1 from by omega, drps_yes hgo] at q; exact q) (m1_63.dp (by omega)) (by have q : (dpM ρ7 i) 7 i 6 = ((ρ7 7 i 6) - 1) := (dpM_6); omega)
          · have y3_h12 : ρ7 7 i 3 = (ρ7 7 i 3) := (rfl)
            have y4_h12 : ρ7 7 i 4 = (ρ7 7 i 4) := (rfl)
            refine r_if_eq (tgt := 100) hC dX5_place_86 rfl (fun h14 => ?_) (fun h14 => by omega)
            refine y_vret hK rfl dX5_place_100 ?_
            have hm : plM σ i t v = ρ7 := by rw [← m0_63]; first | exact drps_no (by omega) | (rw [show (w6).toNat = 0 from by omega]; rfl)
            rw [hm] at k
            exact k
    exact L63 123 (((σ 7 i 6) + 1)) (rgM (lyM (insM σ i (hU σ i t) t v) i ((σ 7 i 6) + 1)) i) (by omega)  (by omega)  (by rw [hE]; rfl) (by rw [hE]; exact LI.en ⟨hn0, hF, by omega⟩) (by have q : (rgM (lyM (insM σ i (hU σ i t) t v) i ((σ 7 i 6) + 1)) i) 7 i 6 = ((σ 7 i 6) + 1) := ((rgM_ne (by omega)).trans ((lyM_ne (by omega)).trans (insM_6.trans (congrArg (· + 1) (rfl))))); omega)
  · refine r_iconst hC dX5_place_17 rfl ?_
    refine r_goto (tgt := 22) hC dX5_place_18 rfl ?_
    refine r_istore hC dX5_place_22 rfl ?_
    refine r_aload_n hC dX5_place_24 rfl ?_
    refine r_iload hC dX5_place_25 rfl ?_
    refine r_iload_n hC dX5_place_27 rfl ?_
    refine r_iload_n hC dX5_place_28 rfl ?_
    refine z_inv3 hM dX5_place_29 vl_RX5_185 rfl rfl rfl (Nat.le_of_ble_eq_true rfl) (Nat.le_of_ble_eq_true rfl) ?_
    have z6_29 : σ 7 i 6 = (σ 7 i 6) := (rfl)
    refine x_insert (by omega) (by omega) (by omega) (by omega) (by omega) (by omega) ?_
    refine r_iload hC dX5_place_32 rfl ?_
    refine r_if_eq (tgt := 52) hC dX5_place_34 rfl (fun h15 => by omega) (fun h15 => ?_)
    refine r_aload_n hC dX5_place_37 rfl ?_
    refine z_getR hM dX5_place_38 fl_RX5_189 rfl rfl (vld_of (n := 8) rfl (by omega) (by omega)) ?_
    refine z_inv0 hM dX5_place_41 vl_RX5_192 rfl rfl rfl (Nat.le_of_ble_eq_true rfl) (Nat.le_of_ble_eq_true rfl) ?_
    have z0_41 : (insM σ i (hU σ i t) t v) 11 i 0 = (σ 11 i 0) := ((insM_ne (by omega)).trans (rfl))
    have z1_41 : (insM σ i (hU σ i t) t v) 11 i 1 = (σ 11 i 1) := ((insM_ne (by omega)).trans (rfl))
    have z2_41 : (insM σ i (hU σ i t) t v) 11 i 2 = (σ 11 i 2) := ((insM_ne (by omega)).trans (rfl))
    have z3_41 : (insM σ i (hU σ i t) t v) 11 i 3 = (σ 11 i 3) := ((insM_ne (by omega)).trans (rfl))
    refine x_add (by omega) (by omega) ?_
    refine r_aload_n hC dX5_place_44 rfl ?_
    refine r_aload_n hC dX5_place_45 rfl ?_
    refine z_inv1 hM dX5_place_46 vl_RX5_195 rfl rfl rfl (Nat.le_of_ble_eq_true rfl) (Nat.le_of_ble_eq_true rfl) ?_
    refine x_ring (by omega) (((adM_ne (by omega)).trans ((insM_ne (by omega)).trans (rfl))).trans hn0) ?_
    refine r_goto (tgt := 57) hC dX5_place_49 rfl ?_
    have hE : (rgM (adM (insM σ i (hU σ i t) t v) i) i) = enM σ i t v := by
      unfold enM
      first | rw [if_pos (by omega)] | rw [if_neg (by omega)]
    refine r_aload_n hC dX5_place_57 rfl ?_
    refine z_getI (jz := 6) hM dX5_place_58 fl_RX5_154 rfl rfl rfl (fun v16 h_v16 o_v16 t_v16 => ?_)
    have w_v16 := ((t_v16 (Or.inl (by simp [Tb]))).trans ((rgM_ne (by omega)).trans ((adM_ne (by omega)).trans (insM_6.trans (congrArg (· + 1) (rfl)))))).symm
    subst w_v16
    have q_v16 : 0 ≤ ((σ 7 i 6) + 1) ∧ ((σ 7 i 6) + 1) ≤ 121 := o_v16.1 rfl
    refine r_istore hC dX5_place_61 rfl ?_
    have L63 : ∀ (n63 : Nat) (w17 : Int) (ρ18 : Mm), 0 ≤ w17 ∧ w17 ≤ 121 → w17 - 0 < (n63 : Int) → (drps i ((w17)).toNat ρ18 = plM σ i t v) → (LI ρ18 i) → (ρ18 7 i 6 = (w17)) → K 63 [some (vR 2 0), some (vR 7 i), some (vI t), some (vI v), some (vI (hU σ i t)), some (vI 1), some (vI w17)] [] ρ18 := by
      intro n63
      induction n63 with
      | zero => intro w17 ρ18 f_w17  hm  m0_63 m1_63 m2_63; omega
      | succ n63 ih63 =>
        intro w17 ρ18 f_w17  hm63  m0_63 m1_63 m2_63
        refine r_iload hC dX5_place_63 rfl ?_
        refine r_if_le (tgt := 100) hC dX5_place_65 rfl (fun h19 => ?_) (fun h19 => ?_)
        · refine y_vret hK rfl dX5_place_100 ?_
          have hm : plM σ i t v = ρ18 := by rw [← m0_63]; first | exact drps_no (by omega) | (rw [show (w17).toNat = 0 from by omega]; rfl)
          rw [hm] at k
          exact k
        · refine r_aload_n hC dX5_place_68 rfl ?_
          refine r_aload_n hC dX5_place_69 rfl ?_
          refine z_getI (jz := 6) hM dX5_place_70 fl_RX5_154 rfl rfl rfl (fun v20 h_v20 o_v20 t_v20 => ?_)
          have w_v20 := ((t_v20 (Or.inl (by simp [Tb]))).trans (rfl)).symm
          subst w_v20
          have q_v20 : 0 ≤ (ρ18 7 i 6) ∧ (ρ18 7 i 6) ≤ 121 := o_v20.1 rfl
          refine r_aload_n hC dX5_place_73 rfl ?_
          refine z_getR hM dX5_place_74 fl_RX5_198 rfl rfl (vld_of (n := 7) rfl (by omega) (by omega)) ?_
          refine r_iconst hC dX5_place_77 rfl ?_
          refine z_iald hM dX5_place_78 rfl (by omega) (by omega) (fun v21 h_v21 o_v21 t_v21 => ?_)
          have w_v21 := ((t_v21 (Or.inl (by simp [Tb]))).trans (rfl)).symm
          subst w_v21
          refine r_aload_n hC dX5_place_79 rfl ?_
          refine z_getI (jz := 10) hM dX5_place_80 fl_RX5_157 rfl rfl rfl (fun v22 h_v22 o_v22 t_v22 => ?_)
          have w_v22 := ((t_v22 (Or.inl (by simp [Tb]))).trans (rfl)).symm
          subst w_v22
          refine z_inv3 hM dX5_place_83 vl_RX5_201 rfl rfl rfl (Nat.le_of_ble_eq_true rfl) (Nat.le_of_ble_eq_true rfl) ?_
          refine x_goes (by omega) (fun h23 => ?_) (fun h23 => ?_)
          · have y3_h23 : ρ18 7 i 3 = (ρ18 7 i 3) := (rfl)
            have y4_h23 : ρ18 7 i 4 = (ρ18 7 i 4) := (rfl)
            refine r_if_eq (tgt := 100) hC dX5_place_86 rfl (fun h24 => by omega) (fun h24 => ?_)
            have hgo : goV ρ18 i := by unfold goV; omega
            refine r_aload_n hC dX5_place_89 rfl ?_
            refine r_aload_n hC dX5_place_90 rfl ?_
            refine z_inv1 hM dX5_place_91 vl_RX5_163 rfl rfl rfl (Nat.le_of_ble_eq_true rfl) (Nat.le_of_ble_eq_true rfl) ?_
            refine x_dropOldest (by omega) m1_63.1 m1_63.2.1 (by omega) (by omega) ?_
            refine r_iincE hC ((w17 - 1)) dX5_place_94 rfl rfl (by omega) (by unfold inR; omega) ?_
            refine r_goto (tgt := 63) hC dX5_place_97 rfl ?_
            exact ih63 ((w17 - 1)) (dpM ρ18 i) (by omega)  (by omega)  (by have q := m0_63; rw [show (w17).toNat = ((w17 - 1)).toNat + 1 from by omega, drps_yes hgo] at q; exact q) (m1_63.dp (by omega)) (by have q : (dpM ρ18 i) 7 i 6 = ((ρ18 7 i 6) - 1) := (dpM_6); omega)
          · have y3_h23 : ρ18 7 i 3 = (ρ18 7 i 3) := (rfl)
            have y4_h23 : ρ18 7 i 4 = (ρ18 7 i 4) := (rfl)
            refine r_if_eq (tgt := 100) hC dX5_place_86 rfl (fun h25 => ?_) (fun h25 => by omega)
            refine y_vret hK rfl dX5_place_100 ?_
            have hm : plM σ i t v = ρ18 := by rw [← m0_63]; first | exact drps_no (by omega) | (rw [show (w17).toNat = 0 from by omega]; rfl)
            rw [hm] at k
            exact k
    exact L63 123 (((σ 7 i 6) + 1)) (rgM (adM (insM σ i (hU σ i t) t v) i) i) (by omega)  (by omega)  (by rw [hE]; rfl) (by rw [hE]; exact LI.en ⟨hn0, hF, by omega⟩) (by have q : (rgM (adM (insM σ i (hU σ i t) t v) i) i) 7 i 6 = ((σ 7 i 6) + 1) := ((rgM_ne (by omega)).trans ((adM_ne (by omega)).trans (insM_6.trans (congrArg (· + 1) (rfl))))); omega)
