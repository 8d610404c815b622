-- B: the reference: WATCHES looked at
/-- what is asked of a LANE whose WATCHES are looked at -/
def LK (V : Mm) (l : Int) : Prop := (0 ≤ V 7 l 2 ∧ V 7 l 2 ≤ 9) ∧ (0 ≤ V 7 l 6 ∧ V 7 l 6 ≤ 121) ∧ (∀ j : Int, 0 ≤ j → j ≤ 120 → -1000 ≤ V 9 l j ∧ V 9 l j ≤ 1000) ∧ (∀ j : Int, 0 ≤ j → j < 16 → 0 ≤ V 15 0 j ∧ V 15 0 j ≤ 3) ∧ (∀ w : Int, 0 ≤ w → w ≤ 7 → V 12 w 0 = l → 0 ≤ V 12 w 1 ∧ V 12 w 1 < numF (V 7 l 2)) ∧ ∀ w : Int, 0 ≤ w → w ≤ 7 → V 12 w 3 = 0 ∨ V 12 w 3 = 1
theorem LK.to {V W : Mm} {l : Int} (h : LK V l) (e : ∀ (c : Nat) (x y : Int), (c = 7 ∧ x = l ∧ (y = 2 ∨ y = 6)) ∨ (c = 9 ∧ x = l) ∨ c = 15 ∨ (c = 12 ∧ (y = 0 ∨ y = 1 ∨ y = 3)) → W c x y = V c x y) : LK W l := by
  obtain ⟨h1, h2, h3, h4, h5, h6⟩ := h
  refine ⟨?_, ?_, fun j a b => ?_, fun j a b => ?_, fun w a b c => ?_, fun w a b => ?_⟩
  · rw [e _ _ _ (by omega)]; exact h1
  · rw [e _ _ _ (by omega)]; exact h2
  · rw [e _ _ _ (by omega)]; exact h3 j a b
  · rw [e _ _ _ (by omega)]; exact h4 j a b
  · rw [e _ _ _ (by omega)] at c
    rw [e _ _ _ (by omega), e _ _ _ (by omega)]; exact h5 w a b c
  · rw [e _ _ _ (by omega)]; exact h6 w a b
theorem LK_rgK {V : Mm} {l : Int} (h : LK V l) (n : Int) : LK (rgK V l n) l := by
  obtain ⟨h1, h2, h3, h4, h5, h6⟩ := h
  refine ⟨?_, ?_, fun j a b => ?_, fun j a b => ?_, fun w a b c => ?_, fun w a b => ?_⟩
  · rw [rgK_ne (by omega)]; exact h1
  · rw [rgK_ne (by omega)]; exact h2
  · rw [rgK_ne (by omega)]; exact h3 j a b
  · rw [rgK_ne (by omega)]; exact h4 j a b
  · rw [rgK_ne (by omega)] at c
    rw [rgK_ne (by omega), rgK_ne (by omega)]; exact h5 w a b c
  · unfold rgK
    split
    · rw [if_pos rfl]; exact isR_01 V l w
    · exact h6 w a b
theorem LK.rg {V : Mm} {l : Int} (h : LK V l) : LK (rgM V l) l := by rw [← rgK_8 rfl]; exact LK_rgK h 8
theorem RS.mk2 {t : Int} {σ0 V ρ ρ2 : Mm} (h1 : SB t σ0 V ρ) (h2 : KF t V ρ) (h3 : FB V ρ) (e : ∀ (c : Nat) (x y : Int), ¬ Sc c → ρ2 c x y = ρ c x y) : RS t σ0 V ρ2 := RS.sc ⟨h1, h2, h3⟩ e
theorem y_layAll {eb : Bool} {t : Int} {V : Mm} {d : Nat} {P : Option Vl → Mm → Prop} {σ : Mm} {l : Int} (b_l : 0 ≤ l ∧ l ≤ 7) {σ0 : Mm} (ht : 6 ≤ t ∧ t ≤ 7) (hR : RS t σ0 V σ) (hl : l ≤ t) (hL : LK V l)  (k : ∀ ρ : Mm, RS t σ0 V ρ → RWP ρ (V 9 l) (V 7 l 6).toNat → P none ρ) : WT (true, eb, true) (d + 3) 155 [vR 30 0, vI l] σ P := by
  refine WT_in fun K hK => ?_
  have hK : StpY (true, eb, true) cX6_layAll RX6 (none) (WT (true, eb, true) (d + 2)) P K := hK
  have hM := hK.1
  have hC := hK.1.1
  show K 0 [some (vR 30 0), some (vI l)] [] σ
  have hop := hL.1
  have h6 := hL.2.1
  refine r_aload_n hC dX6_layAll_0 rfl ?_
  refine z_inv0 hM dX6_layAll_1 vl_RX6_113 rfl rfl rfl (Nat.le_of_ble_eq_true rfl) (Nat.le_of_ble_eq_true rfl) ?_
  refine y_clearRow ?_
  obtain ⟨ρ1, e_ρ1⟩ : ∃ zz_, zz_ = mu σ 30 0 8 0 := ⟨_, rfl⟩
  rw [← e_ρ1]
  have n_ρ1 : ∀ u : Int → Int, RWP ρ1 u 0 := fun u => RWP.nil (by rw [e_ρ1]; exact mu_self _ _ _ _ _)
  have Rρ1 : RS t σ0 V ρ1 := RS.mk2 hR.1 hR.2.1 hR.2.2 (fun c p q h => by rw [e_ρ1]; exact mu_ne (by omega))
  refine r_aload_n hC dX6_layAll_4 rfl ?_
  refine r_iload_n hC dX6_layAll_5 rfl ?_
  refine r_iconst hC dX6_layAll_6 rfl ?_
  refine r_aload_n hC dX6_layAll_7 rfl ?_
  refine r_iload_n hC dX6_layAll_8 rfl ?_
  refine z_inv1 hM dX6_layAll_9 vl_RX6_116 rfl rfl rfl (Nat.le_of_ble_eq_true rfl) (Nat.le_of_ble_eq_true rfl) ?_
  refine y_heldOf (by omega) (fun o2 => ?_)
  have e3 : ρ1 31 0 (22 * l + 5) = (V 7 l 6) := (Rρ1.1.a7 (s := 6) (f := 5) (by omega) (by omega) (by omega)).trans (rfl)
  rw [e3] at o2 ⊢
  have qo2 : 0 ≤ (V 7 l 6) ∧ (V 7 l 6) ≤ 121 := o2.1 (by omega)
  refine r_iconst hC dX6_layAll_12 rfl ?_
  refine r_isubE hC (((V 7 l 6) - 1)) dX6_layAll_13 (by omega) (by unfold inR; omega) ?_
  refine z_inv3 hM dX6_layAll_14 vl_RX6_120 rfl rfl rfl (Nat.le_of_ble_eq_true rfl) (Nat.le_of_ble_eq_true rfl) ?_
  refine y_putFrom (n := 0) (u := (V 9 l)) (by omega) (by omega) (by omega) (by omega) (by omega) (n_ρ1 (V 9 l)) (fun j a b => by rw [show (((0 : Nat) : Int) + (j - 0)) = j from by omega]; exact (Rρ1.1.a9 (y := j) (by omega) (by omega) (by omega) (by omega)).symm) (fun ρ4 g_ρ4 w_ρ4 => ?_)
  have Rρ4 : RS t σ0 V ρ4 := RS.mk2 Rρ1.1 Rρ1.2.1 Rρ1.2.2 (fun c p q h => g_ρ4 c p q (by omega))
  refine y_vret hK rfl dX6_layAll_17 ?_
  have q := w_ρ4
  rw [show (0 + (((V 7 l 6) - 1) + 1 - 0).toNat) = (V 7 l 6).toNat from by omega] at q
  exact k _ ⟨Rρ4.1, Rρ4.2.1, Rρ4.2.2⟩ q
theorem y_isReached {e : Ev} {d : Nat} {P : Option Vl → Mm → Prop} {σ : Mm} {a b : Int}   (k1 : (a ≠ NO ∧ b ≤ a) → P (some (vI 1)) σ) (k0 : ¬ (a ≠ NO ∧ b ≤ a) → P (some (vI 0)) σ) : WT e (d + 1) 173 [vI a, vI b] σ P := by
  refine WT_in fun K hK => ?_
  have hK : StpY e cX6_isReached RX6 (some .boolean) (WT e (d + 0)) P K := hK
  have hM := hK.1
  have hC := hK.1.1
  show K 0 [some (vI a), some (vI b)] [] σ
  refine r_rngz hC (fun g0 => ?_)
  have r_a : -2147483648 ≤ a ∧ a ≤ 2147483647 := inR_le (g0 (vI a) (by simp))
  have r_b : -2147483648 ≤ b ∧ b ≤ 2147483647 := inR_le (g0 (vI b) (by simp))
  refine r_iload_n hC dX6_isReached_0 rfl ?_
  refine r_ldc hC dX6_isReached_1 co_RX6_160 rfl ?_
  refine r_icmp_eq (tgt := 15) hC dX6_isReached_3 rfl (fun h1 => ?_) (fun h1 => ?_)
  · refine r_iconst hC dX6_isReached_15 rfl ?_
    refine y_zret hK rfl dX6_isReached_16 (by omega) ?_
    exact k0 (by unfold NO; omega)
  · refine r_iload_n hC dX6_isReached_6 rfl ?_
    refine r_iload_n hC dX6_isReached_7 rfl ?_
    refine r_icmp_lt (tgt := 15) hC dX6_isReached_8 rfl (fun h2 => ?_) (fun h2 => ?_)
    · refine r_iconst hC dX6_isReached_15 rfl ?_
      refine y_zret hK rfl dX6_isReached_16 (by omega) ?_
      exact k0 (by unfold NO; omega)
    · refine r_iconst hC dX6_isReached_11 rfl ?_
      refine r_goto (tgt := 16) hC dX6_isReached_12 rfl ?_
      refine y_zret hK rfl dX6_isReached_16 (by omega) ?_
      exact k1 (by unfold NO; omega)
theorem y_reachedNow {eb : Bool} {t : Int} {V : Mm} {d : Nat} {P : Option Vl → Mm → Prop} {σ : Mm} {l w b : Int} (b_l : 0 ≤ l ∧ l ≤ 7) (b_w : 0 ≤ w ∧ w ≤ 6) {σ0 : Mm} (ht : 6 ≤ t ∧ t ≤ 7) (hR : RS t σ0 V σ) (hl : l ≤ t) (hL : LK V l) (hw : w < numF (V 7 l 2))  (k : ∀ ρ : Mm, RS t σ0 V ρ → P (some (vI (rc1 V l w b))) ρ) : WT (true, eb, true) (d + 5) 184 [vR 30 0, vI l, vI w, vI b] σ P := by
  refine WT_in fun K hK => ?_
  have hK : StpY (true, eb, true) cX6_reachedNow RX6 (some .int) (WT (true, eb, true) (d + 4)) P K := hK
  have hM := hK.1
  have hC := hK.1.1
  show K 0 [some (vR 30 0), some (vI l), some (vI w), some (vI b)] [] σ
  refine r_rngz hC (fun g0 => ?_)
  have r_b : -2147483648 ≤ b ∧ b ≤ 2147483647 := inR_le (g0 (vI b) (by simp))
  have hop := hL.1
  have h6 := hL.2.1
  have hBd_ : Bd (V 9 l) (V 7 l 6).toNat := fun j a b => hL.2.2.1 j a (by omega)
  refine r_aload_n hC dX6_reachedNow_0 rfl ?_
  refine r_iload_n hC dX6_reachedNow_1 rfl ?_
  refine z_inv1 hM dX6_reachedNow_2 vl_RX6_194 rfl rfl rfl (Nat.le_of_ble_eq_true rfl) (Nat.le_of_ble_eq_true rfl) ?_
  refine y_layAll (by omega) ht ⟨hR.1, hR.2.1, hR.2.2⟩ (by omega) hL (fun ρ1 Rρ1 w_ρ1 => ?_)
  refine r_aload_n hC dX6_reachedNow_5 rfl ?_
  refine r_aload_n hC dX6_reachedNow_6 rfl ?_
  refine r_iload_n hC dX6_reachedNow_7 rfl ?_
  refine r_iconst hC dX6_reachedNow_8 rfl ?_
  refine z_inv2 hM dX6_reachedNow_9 vl_RX6_80 rfl rfl rfl (Nat.le_of_ble_eq_true rfl) (Nat.le_of_ble_eq_true rfl) ?_
  refine y_of (by omega) (by omega) (by omega) (fun o2 => ?_)
  have e3 : ρ1 31 0 (22 * l + 1) = (V 7 l 2) := (Rρ1.1.a7 (s := 2) (f := 1) (by omega) (by omega) (by omega)).trans (rfl)
  rw [e3] at o2 ⊢
  refine r_iload_n hC dX6_reachedNow_12 rfl ?_
  refine z_inv2 hM dX6_reachedNow_13 vl_RX6_197 rfl rfl rfl (Nat.le_of_ble_eq_true rfl) (Nat.le_of_ble_eq_true rfl) ?_
  refine y_comes (n := (V 7 l 6).toNat) (u := (V 9 l)) (by omega) (by omega) (by omega) (by omega) w_ρ1 hBd_ (fun ρ4 g_ρ4 => ?_)
  rw [cm_t (fun j a b => Rρ1.1.t16 a b) (fun j a b => Rρ1.1.t15 a b) (fun j a b => by rw [Rρ1.1.t15 a (by omega)]; exact hL.2.2.2.1 j a b)]
  have Rρ4 : RS t σ0 V ρ4 := RS.mk2 Rρ1.1 Rρ1.2.1 Rρ1.2.2 (fun c p q h => g_ρ4 c p q (by omega))
  refine r_iload_n hC dX6_reachedNow_16 rfl ?_
  refine z_ins2 hM dX6_reachedNow_17 tl_RX6_200 rfl (Nat.le_of_ble_eq_true rfl) (Nat.le_of_ble_eq_true rfl) ?_
  refine y_isReached (fun h5 => ?_) (fun h5 => ?_)
  · refine r_if_eq (tgt := 27) hC dX6_reachedNow_20 rfl (fun h6 => by omega) (fun h6 => ?_)
    refine r_iconst hC dX6_reachedNow_23 rfl ?_
    refine r_goto (tgt := 28) hC dX6_reachedNow_24 rfl ?_
    refine y_iret hK rfl dX6_reachedNow_28 ?_
    have hv : rc1 V l w b = 1 := if_pos h5
    rw [hv] at k
    exact k _ ⟨Rρ4.1, Rρ4.2.1, Rρ4.2.2⟩
  · refine r_if_eq (tgt := 27) hC dX6_reachedNow_20 rfl (fun h7 => ?_) (fun h7 => by omega)
    refine r_iconst hC dX6_reachedNow_27 rfl ?_
    refine y_iret hK rfl dX6_reachedNow_28 ?_
    have hv : rc1 V l w b = 0 := if_neg h5
    rw [hv] at k
    exact k _ ⟨Rρ4.1, Rρ4.2.1, Rρ4.2.2⟩
theorem y_look {eb : Bool} {t : Int} {V : Mm} {d : Nat} {P : Option Vl → Mm → Prop} {σ : Mm} {l : Int} (b_l : 0 ≤ l ∧ l ≤ 7) {σ0 : Mm} (ht : 6 ≤ t ∧ t ≤ 7) (hR : RS t σ0 V σ) (hl : l ≤ t) (hL : LK V l)  (k : ∀ ρ : Mm, RS t σ0 (rgM V l) ρ → P none ρ) : WT (true, eb, true) (d + 6) 185 [vR 30 0, vI l] σ P := by
  refine WT_in fun K hK => ?_
  have hK : StpY (true, eb, true) cX6_look RX6 (none) (WT (true, eb, true) (d + 5)) P K := hK
  have hM := hK.1
  have hC := hK.1.1
  show K 0 [some (vR 30 0), some (vI l), none, none] [] σ
  refine r_iconst hC dX6_look_0 rfl ?_
  refine r_istore_n hC dX6_look_1 rfl ?_
  have L2 : ∀ (n2 : Nat) (w1 : Int) (ρ2 W2 : Mm), 0 ≤ w1 ∧ w1 ≤ 8 → 8 - w1 < (n2 : Int) → (RS t σ0 W2 ρ2) → (W2 = rgK V l (w1)) → K 2 [some (vR 30 0), some (vI l), some (vI w1), none] [] ρ2 := by
    intro n2
    induction n2 with
    | zero => intro w1 ρ2 W2 f_w1  hm  m0_2 m1_2; omega
    | succ n2 ih2 =>
      intro w1 ρ2 W2 f_w1  hm2  m0_2 m1_2
      refine r_iload_n hC dX6_look_2 rfl ?_
      refine r_bipush hC dX6_look_3 rfl ?_
      refine r_icmp_ge (tgt := 85) hC dX6_look_5 rfl (fun h3 => ?_) (fun h3 => ?_)
      · refine y_vret hK rfl dX6_look_85 ?_
        have q := m0_2
        rw [m1_2, rgK_8 (by omega)] at q
        exact k _ q
      · refine r_aload_n hC dX6_look_8 rfl ?_
        have e0 : W2 12 w1 0 = V 12 w1 0 := by rw [m1_2]; exact rgK_lo (by omega)
        have e3 : W2 12 w1 3 = V 12 w1 3 := by rw [m1_2]; exact rgK_up (by omega)
        have e10 : W2 7 l 10 = V 7 l 10 := by rw [m1_2]; exact rgK_ne (by omega)
        have e01w := hL.2.2.2.2.2 w1 (by omega) (by omega)
        refine z_getR hM dX6_look_9 fl_RX6_34 rfl rfl (vld_of (n := 1) rfl (by omega) (by omega)) ?_
        refine r_iload_n hC dX6_look_12 rfl ?_
        refine z_iald hM dX6_look_13 rfl (by omega) (by omega) (fun v4 h_v4 o_v4 t_v4 => ?_)
        have w_v4 := ((t_v4 (Or.inl (by simp [Tb]))).trans ((m0_2.1.w0 (by omega) (by omega)).trans (rfl))).symm
        subst w_v4
        refine r_iload_n hC dX6_look_14 rfl ?_
        refine r_icmp_eq (tgt := 21) hC dX6_look_15 rfl (fun h5 => ?_) (fun h5 => ?_)
        · refine r_aload_n hC dX6_look_21 rfl ?_
          refine r_iload_n hC dX6_look_22 rfl ?_
          refine r_aload_n hC dX6_look_23 rfl ?_
          refine z_getR hM dX6_look_24 fl_RX6_37 rfl rfl (vld_of (n := 1) rfl (by omega) (by omega)) ?_
          refine r_iload_n hC dX6_look_27 rfl ?_
          refine z_iald hM dX6_look_28 rfl (by omega) (by omega) (fun v6 h_v6 o_v6 t_v6 => ?_)
          have w_v6 := ((t_v6 (Or.inl (by simp [Tb]))).trans ((m0_2.1.w1 (by omega) (by omega)).trans (rfl))).symm
          subst w_v6
          have q_v6 : 0 ≤ (W2 12 w1 1) ∧ (W2 12 w1 1) ≤ 6 := o_v6
          refine r_aload_n hC dX6_look_29 rfl ?_
          refine z_getR hM dX6_look_30 fl_RX6_40 rfl rfl (vld_of (n := 1) rfl (by omega) (by omega)) ?_
          refine r_iload_n hC dX6_look_33 rfl ?_
          refine z_iald hM dX6_look_34 rfl (by omega) (by omega) (fun v7 h_v7 o_v7 t_v7 => ?_)
          have w_v7 := ((t_v7 (Or.inl (by simp [Tb]))).trans ((m0_2.1.w2 (by omega) (by omega)).trans (rfl))).symm
          subst w_v7
          refine z_inv3 hM dX6_look_35 vl_RX6_203 rfl rfl rfl (Nat.le_of_ble_eq_true rfl) (Nat.le_of_ble_eq_true rfl) ?_
          have hLW : LK W2 l := by rw [m1_2]; exact LK_rgK hL _
          have hq1 := hLW.2.2.2.2.1 w1 (by omega) (by omega) (by omega)
          have hq2 := numF_rng (W2 7 l 2)
          refine y_reachedNow (V := W2) (by omega) (by omega) ht ⟨m0_2.1, m0_2.2.1, m0_2.2.2⟩ (by omega) hLW (by omega) (fun ρ8 Rρ8 => ?_)
          have eis : rc1 W2 l (W2 12 w1 1) (W2 12 w1 2) = isR V l w1 := by
            rw [m1_2, rc1_g (V := V) (funext fun y => rgK_ne (by omega)) (funext fun y => rgK_ne (by omega)) (fun y => rgK_ne (by omega)) (funext fun y => rgK_ne (by omega)), rgK_lo (by omega), rgK_lo (by omega)]
            rfl
          have e01 := isR_01 V l w1
          rw [eis]
          refine r_istore_n hC dX6_look_38 rfl ?_
          refine r_iload_n hC dX6_look_39 rfl ?_
          refine r_aload_n hC dX6_look_40 rfl ?_
          refine z_getR hM dX6_look_41 fl_RX6_43 rfl rfl (vld_of (n := 1) rfl (by omega) (by omega)) ?_
          refine r_iload_n hC dX6_look_44 rfl ?_
          refine z_iald hM dX6_look_45 rfl (by omega) (by omega) (fun v9 h_v9 o_v9 t_v9 => ?_)
          have w_v9 := ((t_v9 (Or.inl (by simp [Tb]))).trans ((Rρ8.1.w3 (by omega) (by omega)).trans (rfl))).symm
          subst w_v9
          refine r_icmp_le (tgt := 72) hC dX6_look_46 rfl (fun h10 => ?_) (fun h10 => ?_)
          · refine r_aload_n hC dX6_look_72 rfl ?_
            refine z_getR hM dX6_look_73 fl_RX6_43 rfl rfl (vld_of (n := 1) rfl (by omega) (by omega)) ?_
            refine r_iload_n hC dX6_look_76 rfl ?_
            refine r_iload_n hC dX6_look_77 rfl ?_
            refine z_iastT hM dX6_look_78 rfl (by omega) (by omega) ⟨Or.inr (by simp [DL]), Or.inr (by simp [DF])⟩ (by first | trivial | (simp only [Okv]; omega) | (simp [Okv]; try omega)) ?_
            obtain ⟨ρ11, e_ρ11⟩ : ∃ zz_, zz_ = mu ρ8 42 0 w1 (isR V l w1) := ⟨_, rfl⟩
            rw [← e_ρ11]
            have Sρ11 : SB t σ0 (mu W2 12 w1 3 (isR V l w1)) ρ11 := by rw [e_ρ11]; exact Rρ8.1.pw3 (by omega) (by omega)
            have Kρ11 : KF t (mu W2 12 w1 3 (isR V l w1)) ρ11 := by rw [e_ρ11]; exact (Rρ8.2.1).e (fun l a b => ⟨mu_ne (by omega), mu_ne (by omega)⟩) |>.v (fun l => mu_ne (by omega))
            have Fρ11 : FB (mu W2 12 w1 3 (isR V l w1)) ρ11 := by rw [e_ρ11]; exact (Rρ8.2.2).e (fun l a b => mu_ne (by omega)) |>.v (fun l y a b c => mu_ne (by omega))
            refine r_iincE hC ((w1 + 1)) dX6_look_79 rfl rfl (by omega) (by unfold inR; omega) ?_
            refine r_goto (tgt := 2) hC dX6_look_82 rfl ?_
            refine r_forget hC (ls2 := [some (vR 30 0), some (vI l), some (vI (w1 + 1)), none]) (lsub_some (lsub_some (lsub_some (lsub_none lsub_nil)))) ?_
            exact ih2 ((w1 + 1)) ρ11 (mu W2 12 w1 3 (isR V l w1)) (by omega)  (by omega)  (⟨Sρ11, Kρ11, Fρ11⟩) (by rw [← rgK_yf (by omega) (by omega), ← m1_2, noM_0 (by omega)])
          · refine r_aload_n hC dX6_look_49 rfl ?_
            refine z_getR hM dX6_look_50 fl_RX6_46 rfl rfl (vld_of (n := 1) rfl (by omega) (by omega)) ?_
            refine r_iload_n hC dX6_look_53 rfl ?_
            refine r_dup2 hC dX6_look_54 rfl rfl ?_
            refine z_iald hM dX6_look_55 rfl (by omega) (by omega) (fun v12 h_v12 o_v12 t_v12 => ?_)
            have w_v12 := ((t_v12 (Or.inl (by simp [Tb]))).trans ((Rρ8.1.w4 (by omega) (by omega)).trans (rfl))).symm
            subst w_v12
            refine r_iconst hC dX6_look_56 rfl ?_
            refine r_iadd hC dX6_look_57 ?_
            have f13 := inR_le (inR_wr ((W2 12 w1 4) + 1))
            refine z_iastT hM dX6_look_58 rfl (by omega) (by omega) ⟨Or.inr (by simp [DL]), Or.inr (by simp [DF])⟩ (by first | trivial | (simp only [Okv]; omega) | (simp [Okv]; try omega)) ?_
            obtain ⟨ρ14, e_ρ14⟩ : ∃ zz_, zz_ = mu ρ8 43 0 w1 (wr ((W2 12 w1 4) + 1)) := ⟨_, rfl⟩
            rw [← e_ρ14]
            have Sρ14 : SB t σ0 (mu W2 12 w1 4 (wr ((W2 12 w1 4) + 1))) ρ14 := by rw [e_ρ14]; exact Rρ8.1.pw4 (by omega) (by omega)
            have Kρ14 : KF t (mu W2 12 w1 4 (wr ((W2 12 w1 4) + 1))) ρ14 := by rw [e_ρ14]; exact (Rρ8.2.1).e (fun l a b => ⟨mu_ne (by omega), mu_ne (by omega)⟩) |>.v (fun l => mu_ne (by omega))
            have Fρ14 : FB (mu W2 12 w1 4 (wr ((W2 12 w1 4) + 1))) ρ14 := by rw [e_ρ14]; exact (Rρ8.2.2).e (fun l a b => mu_ne (by omega)) |>.v (fun l y a b c => mu_ne (by omega))
            refine r_aload_n hC dX6_look_59 rfl ?_
            refine z_getR hM dX6_look_60 fl_RX6_49 rfl rfl (vld_of (n := 1) rfl (by omega) (by omega)) ?_
            refine r_iload_n hC dX6_look_63 rfl ?_
            refine r_aload_n hC dX6_look_64 rfl ?_
            refine r_iload_n hC dX6_look_65 rfl ?_
            refine r_bipush hC dX6_look_66 rfl ?_
            refine z_inv2 hM dX6_look_68 vl_RX6_80 rfl rfl rfl (Nat.le_of_ble_eq_true rfl) (Nat.le_of_ble_eq_true rfl) ?_
            refine y_of (by omega) (by omega) (by omega) (fun o15 => ?_)
            have e16 : ρ14 31 0 (22 * l + 6) = (W2 7 l 10) := (Sρ14.a7 (s := 10) (f := 6) (by omega) (by omega) (by omega)).trans ((mu_ne (by omega)).trans (rfl))
            rw [e16] at o15 ⊢
            refine z_iastT hM dX6_look_71 rfl (by omega) (by omega) ⟨Or.inr (by simp [DL]), Or.inr (by simp [DF])⟩ (by first | trivial | (simp only [Okv]; omega) | (simp [Okv]; try omega)) ?_
            obtain ⟨ρ17, e_ρ17⟩ : ∃ zz_, zz_ = mu ρ14 44 0 w1 (W2 7 l 10) := ⟨_, rfl⟩
            rw [← e_ρ17]
            have Sρ17 : SB t σ0 (mu (mu W2 12 w1 4 (wr ((W2 12 w1 4) + 1))) 12 w1 5 (W2 7 l 10)) ρ17 := by rw [e_ρ17]; exact Sρ14.pw5 (by omega) (by omega)
            have Kρ17 : KF t (mu (mu W2 12 w1 4 (wr ((W2 12 w1 4) + 1))) 12 w1 5 (W2 7 l 10)) ρ17 := by rw [e_ρ17]; exact (Kρ14).e (fun l a b => ⟨mu_ne (by omega), mu_ne (by omega)⟩) |>.v (fun l => mu_ne (by omega))
            have Fρ17 : FB (mu (mu W2 12 w1 4 (wr ((W2 12 w1 4) + 1))) 12 w1 5 (W2 7 l 10)) ρ17 := by rw [e_ρ17]; exact (Fρ14).e (fun l a b => mu_ne (by omega)) |>.v (fun l y a b c => mu_ne (by omega))
            refine r_aload_n hC dX6_look_72 rfl ?_
            refine z_getR hM dX6_look_73 fl_RX6_43 rfl rfl (vld_of (n := 1) rfl (by omega) (by omega)) ?_
            refine r_iload_n hC dX6_look_76 rfl ?_
            refine r_iload_n hC dX6_look_77 rfl ?_
            refine z_iastT hM dX6_look_78 rfl (by omega) (by omega) ⟨Or.inr (by simp [DL]), Or.inr (by simp [DF])⟩ (by first | trivial | (simp only [Okv]; omega) | (simp [Okv]; try omega)) ?_
            obtain ⟨ρ18, e_ρ18⟩ : ∃ zz_, zz_ = mu ρ17 42 0 w1 (isR V l w1) := ⟨_, rfl⟩
            rw [← e_ρ18]
            have Sρ18 : SB t σ0 (mu (mu (mu W2 12 w1 4 (wr ((W2 12 w1 4) + 1))) 12 w1 5 (W2 7 l 10)) 12 w1 3 (isR V l w1)) ρ18 := by rw [e_ρ18]; exact Sρ17.pw3 (by omega) (by omega)
            have Kρ18 : KF t (mu (mu (mu W2 12 w1 4 (wr ((W2 12 w1 4) + 1))) 12 w1 5 (W2 7 l 10)) 12 w1 3 (isR V l w1)) ρ18 := by rw [e_ρ18]; exact (Kρ17).e (fun l a b => ⟨mu_ne (by omega), mu_ne (by omega)⟩) |>.v (fun l => mu_ne (by omega))
            have Fρ18 : FB (mu (mu (mu W2 12 w1 4 (wr ((W2 12 w1 4) + 1))) 12 w1 5 (W2 7 l 10)) 12 w1 3 (isR V l w1)) ρ18 := by rw [e_ρ18]; exact (Fρ17).e (fun l a b => mu_ne (by omega)) |>.v (fun l y a b c => mu_ne (by omega))
            refine r_iincE hC ((w1 + 1)) dX6_look_79 rfl rfl (by omega) (by unfold inR; omega) ?_
            refine r_goto (tgt := 2) hC dX6_look_82 rfl ?_
            refine r_forget hC (ls2 := [some (vR 30 0), some (vI l), some (vI (w1 + 1)), none]) (lsub_some (lsub_some (lsub_some (lsub_none lsub_nil)))) ?_
            exact ih2 ((w1 + 1)) ρ18 (mu (mu (mu W2 12 w1 4 (wr ((W2 12 w1 4) + 1))) 12 w1 5 (W2 7 l 10)) 12 w1 3 (isR V l w1)) (by omega)  (by omega)  (⟨Sρ18, Kρ18, Fρ18⟩) (by rw [← rgK_yf (by omega) (by omega), ← m1_2, show isR V l w1 = 1 from by omega, noM_1 (by omega), e10])
        · refine r_goto (tgt := 79) hC dX6_look_18 rfl ?_
          refine r_iincE hC ((w1 + 1)) dX6_look_79 rfl rfl (by omega) (by unfold inR; omega) ?_
          refine r_goto (tgt := 2) hC dX6_look_82 rfl ?_
          exact ih2 ((w1 + 1)) ρ2 W2 (by omega)  (by omega)  (⟨m0_2.1, m0_2.2.1, m0_2.2.2⟩) (by rw [rgK_nf (by omega)]; exact m1_2)
  exact L2 10 (0) σ V (by omega)  (by omega)  (⟨hR.1, hR.2.1, hR.2.2⟩) (rgK_0f.symm)
