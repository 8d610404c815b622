-- B: the reference: gifts
theorem y_isLost {eb : Bool} {t : Int} {V : Mm} {d : Nat} {P : Option Vl → Mm → Prop} {σ : Mm} {l z : Int} (b_l : 0 ≤ l ∧ l ≤ 7) {σ0 : Mm} (ht : 6 ≤ t ∧ t ≤ 7) (hR : RS t σ0 V σ) (hl : l ≤ t)  (k1 : (0 ≤ V 7 l 10 ∧ z < wr (V 7 l 10 - V 7 l 5)) → P (some (vI 1)) σ) (k0 : ¬ (0 ≤ V 7 l 10 ∧ z < wr (V 7 l 10 - V 7 l 5)) → P (some (vI 0)) σ) : WT (true, eb, true) (d + 2) 202 [vR 30 0, vI l, vI z] σ P := by
  refine WT_in fun K hK => ?_
  have hK : StpY (true, eb, true) cX6_isLost RX6 (some .boolean) (WT (true, eb, true) (d + 1)) P K := hK
  have hM := hK.1
  have hC := hK.1.1
  show K 0 [some (vR 30 0), some (vI l), some (vI z)] [] σ
  refine r_rngz hC (fun g0 => ?_)
  have r_z : -2147483648 ≤ z ∧ z ≤ 2147483647 := inR_le (g0 (vI z) (by simp))
  refine r_aload_n hC dX6_isLost_0 rfl ?_
  refine r_iload_n hC dX6_isLost_1 rfl ?_
  refine r_bipush hC dX6_isLost_2 rfl ?_
  refine z_inv2 hM dX6_isLost_4 vl_RX6_80 rfl rfl rfl (Nat.le_of_ble_eq_true rfl) (Nat.le_of_ble_eq_true rfl) ?_
  refine y_of (by omega) (by omega) (by omega) (fun o1 => ?_)
  have e2 : σ 31 0 (22 * l + 6) = (V 7 l 10) := (hR.1.a7 (s := 10) (f := 6) (by omega) (by omega) (by omega)).trans (rfl)
  rw [e2] at o1 ⊢
  refine r_if_lt (tgt := 32) hC dX6_isLost_7 rfl (fun h3 => ?_) (fun h3 => ?_)
  · refine r_iconst hC dX6_isLost_32 rfl ?_
    refine y_zret hK rfl dX6_isLost_33 (by omega) ?_
    exact k0 (by omega)
  · refine r_iload_n hC dX6_isLost_10 rfl ?_
    refine r_aload_n hC dX6_isLost_11 rfl ?_
    refine r_iload_n hC dX6_isLost_12 rfl ?_
    refine r_bipush hC dX6_isLost_13 rfl ?_
    refine z_inv2 hM dX6_isLost_15 vl_RX6_80 rfl rfl rfl (Nat.le_of_ble_eq_true rfl) (Nat.le_of_ble_eq_true rfl) ?_
    refine y_of (by omega) (by omega) (by omega) (fun o4 => ?_)
    have e5 : σ 31 0 (22 * l + 6) = (V 7 l 10) := (hR.1.a7 (s := 10) (f := 6) (by omega) (by omega) (by omega)).trans (rfl)
    rw [e5] at o4 ⊢
    refine r_aload_n hC dX6_isLost_18 rfl ?_
    refine r_iload_n hC dX6_isLost_19 rfl ?_
    refine r_iconst hC dX6_isLost_20 rfl ?_
    refine z_inv2 hM dX6_isLost_21 vl_RX6_80 rfl rfl rfl (Nat.le_of_ble_eq_true rfl) (Nat.le_of_ble_eq_true rfl) ?_
    refine y_of (by omega) (by omega) (by omega) (fun o6 => ?_)
    have e7 : σ 31 0 (22 * l + 4) = (V 7 l 5) := (hR.1.a7 (s := 5) (f := 4) (by omega) (by omega) (by omega)).trans (rfl)
    rw [e7] at o6 ⊢
    refine r_isub hC dX6_isLost_24 ?_
    have f8 := inR_le (inR_wr ((V 7 l 10) - (V 7 l 5)))
    refine r_icmp_ge (tgt := 32) hC dX6_isLost_25 rfl (fun h9 => ?_) (fun h9 => ?_)
    · refine r_iconst hC dX6_isLost_32 rfl ?_
      refine y_zret hK rfl dX6_isLost_33 (by omega) ?_
      exact k0 (by omega)
    · refine r_iconst hC dX6_isLost_28 rfl ?_
      refine r_goto (tgt := 33) hC dX6_isLost_29 rfl ?_
      refine y_zret hK rfl dX6_isLost_33 (by omega) ?_
      exact k1 (by omega)
theorem y_isFull {eb : Bool} {t : Int} {V : Mm} {d : Nat} {P : Option Vl → Mm → Prop} {σ : Mm} {l : Int} (b_l : 0 ≤ l ∧ l ≤ 7) {σ0 : Mm} (ht : 6 ≤ t ∧ t ≤ 7) (hR : RS t σ0 V σ) (hl : l ≤ t)  (k1 : (V 7 l 3 ≠ 1 ∧ V 7 l 6 = 120) → P (some (vI 1)) σ) (k0 : ¬ (V 7 l 3 ≠ 1 ∧ V 7 l 6 = 120) → P (some (vI 0)) σ) : WT (true, eb, true) (d + 3) 203 [vR 30 0, vI l] σ P := by
  refine WT_in fun K hK => ?_
  have hK : StpY (true, eb, true) cX6_isFull RX6 (some .boolean) (WT (true, eb, true) (d + 2)) P K := hK
  have hM := hK.1
  have hC := hK.1.1
  show K 0 [some (vR 30 0), some (vI l)] [] σ
  refine r_aload_n hC dX6_isFull_0 rfl ?_
  refine r_iload_n hC dX6_isFull_1 rfl ?_
  refine r_iconst hC dX6_isFull_2 rfl ?_
  refine z_inv2 hM dX6_isFull_3 vl_RX6_80 rfl rfl rfl (Nat.le_of_ble_eq_true rfl) (Nat.le_of_ble_eq_true rfl) ?_
  refine y_of (by omega) (by omega) (by omega) (fun o1 => ?_)
  have e2 : σ 31 0 (22 * l + 2) = (V 7 l 3) := (hR.1.a7 (s := 3) (f := 2) (by omega) (by omega) (by omega)).trans (rfl)
  rw [e2] at o1 ⊢
  refine r_iconst hC dX6_isFull_6 rfl ?_
  refine r_icmp_eq (tgt := 24) hC dX6_isFull_7 rfl (fun h3 => ?_) (fun h3 => ?_)
  · refine r_iconst hC dX6_isFull_24 rfl ?_
    refine y_zret hK rfl dX6_isFull_25 (by omega) ?_
    exact k0 (by omega)
  · refine r_aload_n hC dX6_isFull_10 rfl ?_
    refine r_iload_n hC dX6_isFull_11 rfl ?_
    refine z_inv1 hM dX6_isFull_12 vl_RX6_116 rfl rfl rfl (Nat.le_of_ble_eq_true rfl) (Nat.le_of_ble_eq_true rfl) ?_
    refine y_heldOf (by omega) (fun o4 => ?_)
    have e5 : σ 31 0 (22 * l + 5) = (V 7 l 6) := (hR.1.a7 (s := 6) (f := 5) (by omega) (by omega) (by omega)).trans (rfl)
    rw [e5] at o4 ⊢
    have qo4 : 0 ≤ (V 7 l 6) ∧ (V 7 l 6) ≤ 121 := o4.1 (by omega)
    refine r_bipush hC dX6_isFull_15 rfl ?_
    refine r_icmp_ne (tgt := 24) hC dX6_isFull_17 rfl (fun h6 => ?_) (fun h6 => ?_)
    · refine r_iconst hC dX6_isFull_24 rfl ?_
      refine y_zret hK rfl dX6_isFull_25 (by omega) ?_
      exact k0 (by omega)
    · refine r_iconst hC dX6_isFull_20 rfl ?_
      refine r_goto (tgt := 25) hC dX6_isFull_21 rfl ?_
      refine y_zret hK rfl dX6_isFull_25 (by omega) ?_
      exact k1 (by omega)
theorem lt_neg {a b z : Int} (ha : a = -1) (hb : 0 ≤ b ∧ b ≤ 10000) (hz : 0 ≤ z) : ¬ z < wr (a - b) := by
  rw [wr_id ⟨by omega, by omega⟩]
  omega
theorem y_comesFrom {eb : Bool} {t : Int} {V : Mm} {d : Nat} {P : Option Vl → Mm → Prop} {σ : Mm} {l f z w : Int} (b_l : 0 ≤ l ∧ l ≤ 7) (b_f : 0 ≤ f ∧ f ≤ 121) (b_z : -2147483648 ≤ z ∧ z ≤ 120) (b_w : 0 ≤ w ∧ w ≤ 6) {σ0 : Mm} (ht : 6 ≤ t ∧ t ≤ 7) (hR : RS t σ0 V σ) (hl : l ≤ t) (hL : LK V l) (hw : w < numF (V 7 l 2))  (k : ∀ ρ : Mm, RS t σ0 V ρ → P (some (vI (cm (V 16 0) (V 15 0) (V 7 l 2) (fun j => V 9 l (f + j)) (z + 1 - f).toNat w))) ρ) : WT (true, eb, true) (d + 5) 213 [vR 30 0, vI l, vI f, vI z, vI w] σ P := by
  refine WT_in fun K hK => ?_
  have hK : StpY (true, eb, true) cX6_comesFrom RX6 (some .int) (WT (true, eb, true) (d + 4)) P K := hK
  have hM := hK.1
  have hC := hK.1.1
  show K 0 [some (vR 30 0), some (vI l), some (vI f), some (vI z), some (vI w)] [] σ
  have hop := hL.1
  have h6 := hL.2.1
  have hBd_ : Bd (fun j => V 9 l (f + j)) (0 + (z + 1 - f).toNat) := fun j a b => hL.2.2.1 (f + j) (by omega) (by omega)
  refine r_aload_n hC dX6_comesFrom_0 rfl ?_
  refine z_inv0 hM dX6_comesFrom_1 vl_RX6_113 rfl rfl rfl (Nat.le_of_ble_eq_true rfl) (Nat.le_of_ble_eq_true rfl) ?_
  refine y_clearRow ?_
  obtain ⟨ρ1, e_ρ1⟩ : ∃ zz_, zz_ = mu σ 30 0 8 0 := ⟨_, rfl⟩
  rw [← e_ρ1]
  have n_ρ1 : ∀ u : Int → Int, RWP ρ1 u 0 := fun u => RWP.nil (by rw [e_ρ1]; exact mu_self _ _ _ _ _)
  have Rρ1 : RS t σ0 V ρ1 := RS.mk2 hR.1 hR.2.1 hR.2.2 (fun c p q h => by rw [e_ρ1]; exact mu_ne (by omega))
  refine r_aload_n hC dX6_comesFrom_4 rfl ?_
  refine r_iload_n hC dX6_comesFrom_5 rfl ?_
  refine r_iload_n hC dX6_comesFrom_6 rfl ?_
  refine r_iload_n hC dX6_comesFrom_7 rfl ?_
  refine z_inv3 hM dX6_comesFrom_8 vl_RX6_120 rfl rfl rfl (Nat.le_of_ble_eq_true rfl) (Nat.le_of_ble_eq_true rfl) ?_
  refine y_putFrom (n := 0) (u := (fun j => V 9 l (f + j))) (by omega) (by omega) (by omega) (by omega) (by omega) (n_ρ1 (fun j => V 9 l (f + j))) (fun j a b => by show V 9 l (f + (((0 : Nat) : Int) + (j - f))) = _; rw [show f + (((0 : Nat) : Int) + (j - f)) = j from by omega]; exact (Rρ1.1.a9 (y := j) (by omega) (by omega) (by omega) (by omega)).symm) (fun ρ2 g_ρ2 w_ρ2 => ?_)
  have Rρ2 : RS t σ0 V ρ2 := RS.mk2 Rρ1.1 Rρ1.2.1 Rρ1.2.2 (fun c p q h => g_ρ2 c p q (by omega))
  refine r_aload_n hC dX6_comesFrom_11 rfl ?_
  refine r_aload_n hC dX6_comesFrom_12 rfl ?_
  refine r_iload_n hC dX6_comesFrom_13 rfl ?_
  refine r_iconst hC dX6_comesFrom_14 rfl ?_
  refine z_inv2 hM dX6_comesFrom_15 vl_RX6_80 rfl rfl rfl (Nat.le_of_ble_eq_true rfl) (Nat.le_of_ble_eq_true rfl) ?_
  refine y_of (by omega) (by omega) (by omega) (fun o3 => ?_)
  have e4 : ρ2 31 0 (22 * l + 1) = (V 7 l 2) := (Rρ2.1.a7 (s := 2) (f := 1) (by omega) (by omega) (by omega)).trans (rfl)
  rw [e4] at o3 ⊢
  refine r_iload hC dX6_comesFrom_18 rfl ?_
  refine z_inv2 hM dX6_comesFrom_20 vl_RX6_197 rfl rfl rfl (Nat.le_of_ble_eq_true rfl) (Nat.le_of_ble_eq_true rfl) ?_
  refine y_comes (n := (0 + (z + 1 - f).toNat)) (u := (fun j => V 9 l (f + j))) (by omega) (by omega) (by omega) (by omega) w_ρ2 hBd_ (fun ρ5 g_ρ5 => ?_)
  rw [cm_t (fun j a b => Rρ2.1.t16 a b) (fun j a b => Rρ2.1.t15 a b) (fun j a b => by rw [Rρ2.1.t15 a (by omega)]; exact hL.2.2.2.1 j a b)]
  have Rρ5 : RS t σ0 V ρ5 := RS.mk2 Rρ2.1 Rρ2.2.1 Rρ2.2.2 (fun c p q h => g_ρ5 c p q (by omega))
  refine y_iret hK rfl dX6_comesFrom_23 ?_
  have hv : (cm (V 16 0) (V 15 0) (V 7 l 2) (fun j => V 9 l (f + j)) (z + 1 - f).toNat w) = (cm (V 16 0) (V 15 0) (V 7 l 2) (fun j => V 9 l (f + j)) (0 + (z + 1 - f).toNat) w) := by rw [Nat.zero_add]
  rw [hv] at k
  exact k _ ⟨Rρ5.1, Rρ5.2.1, Rρ5.2.2⟩
theorem y_give {eb : Bool} {t : Int} {V : Mm} {d : Nat} {P : Option Vl → Mm → Prop} {σ : Mm} {l z : Int} (b_l : 0 ≤ l ∧ l ≤ 3) (b_z : -2147483648 ≤ z ∧ z ≤ 2147483647) {σ0 : Mm} (ht : 6 ≤ t ∧ t ≤ 7) (hR : RS t σ0 V σ) (hCI : CI V) (hJ : GJ V)  (k : ∀ ρ : Mm, RS t σ0 (gvM V l z) ρ → P none ρ) : WT (true, eb, true) (d + 10) 204 [vR 30 0, vI l, vI z] σ P := by
  refine WT_in fun K hK => ?_
  have hK : StpY (true, eb, true) cX6_give RX6 (none) (WT (true, eb, true) (d + 9)) P K := hK
  have hM := hK.1
  have hC := hK.1.1
  show K 0 [some (vR 30 0), some (vI l), some (vI z), none, none, none, none, none] [] σ
  have h6 := hCI.h7 (l := l) (by omega) (by omega)
  have hLl := hJ.lk hCI (l := l) (by omega) (by omega)
  have hlk := hJ.2.2.2.2.2.1 l (by omega) (by omega)
  unfold opV at hlk
  have hlk2 : ¬ V 13 l 0 = -1 → 0 ≤ V 13 l 2 ∧ V 13 l 2 < numF (V 7 l 2) := fun q => by rcases hlk with z | z; exact absurd z q; exact z.2.2.2.2
  refine r_aload_n hC dX6_give_0 rfl ?_
  refine z_getR hM dX6_give_1 fl_RX6_52 rfl rfl (vld_of (n := 1) rfl (by omega) (by omega)) ?_
  refine r_iload_n hC dX6_give_4 rfl ?_
  refine z_iald hM dX6_give_5 rfl (by omega) (by omega) (fun v1 h_v1 o_v1 t_v1 => ?_)
  have w_v1 := ((t_v1 (Or.inl (by simp [Tb]))).trans ((hR.1.k0 (by omega) (by omega)).trans (rfl))).symm
  subst w_v1
  have q_v1 : -1 ≤ (V 13 l 0) ∧ (V 13 l 0) ≤ 3 := o_v1
  refine r_if_lt (tgt := 17) hC dX6_give_6 rfl (fun h2 => ?_) (fun h2 => ?_)
  · refine y_vret hK rfl dX6_give_17 ?_
    have hm : gvM V l z = V := if_neg (fun q => by have q1 := q.1; have q2 := q.2.1; have q3 := q.2.2.1; have q4 := q.2.2.2.1; have q5 := q.2.2.2.2.1; have q6 := q.2.2.2.2.2; unfold fuV at *; unfold ltV at *; omega)
    rw [hm] at k
    exact k _ ⟨hR.1, hR.2.1, hR.2.2⟩
  · refine r_aload_n hC dX6_give_9 rfl ?_
    refine r_iload_n hC dX6_give_10 rfl ?_
    refine z_inv1 hM dX6_give_11 vl_RX6_116 rfl rfl rfl (Nat.le_of_ble_eq_true rfl) (Nat.le_of_ble_eq_true rfl) ?_
    refine y_heldOf (by omega) (fun o3 => ?_)
    have e4 : σ 31 0 (22 * l + 5) = (V 7 l 6) := (hR.1.a7 (s := 6) (f := 5) (by omega) (by omega) (by omega)).trans (rfl)
    rw [e4] at o3 ⊢
    have qo3 : 0 ≤ (V 7 l 6) ∧ (V 7 l 6) ≤ 121 := o3.1 (by omega)
    refine r_if_ne (tgt := 18) hC dX6_give_14 rfl (fun h5 => ?_) (fun h5 => ?_)
    · refine r_aload_n hC dX6_give_18 rfl ?_
      refine r_iload_n hC dX6_give_19 rfl ?_
      refine z_inv1 hM dX6_give_20 vl_RX6_116 rfl rfl rfl (Nat.le_of_ble_eq_true rfl) (Nat.le_of_ble_eq_true rfl) ?_
      refine y_heldOf (by omega) (fun o6 => ?_)
      have e7 : σ 31 0 (22 * l + 5) = (V 7 l 6) := (hR.1.a7 (s := 6) (f := 5) (by omega) (by omega) (by omega)).trans (rfl)
      rw [e7] at o6 ⊢
      have qo6 : 0 ≤ (V 7 l 6) ∧ (V 7 l 6) ≤ 121 := o6.1 (by omega)
      refine r_iconst hC dX6_give_23 rfl ?_
      refine r_isubE hC (((V 7 l 6) - 1)) dX6_give_24 (by omega) (by unfold inR; omega) ?_
      refine r_istore_n hC dX6_give_25 rfl ?_
      refine r_aload_n hC dX6_give_26 rfl ?_
      refine z_getR hM dX6_give_27 fl_RX6_13 rfl rfl (vld_of (n := 1) rfl (by omega) (by omega)) ?_
      refine r_bipush hC dX6_give_30 rfl ?_
      refine r_iload_n hC dX6_give_32 rfl ?_
      refine r_imulE hC ((121 * l)) dX6_give_33 (by omega) (by unfold inR; omega) ?_
      refine r_iload_n hC dX6_give_34 rfl ?_
      refine r_iaddE hC (((121 * l) + ((V 7 l 6) - 1))) dX6_give_35 (by omega) (by unfold inR; omega) ?_
      refine z_iald hM dX6_give_36 rfl (by omega) (by omega) (fun v8 h_v8 o_v8 t_v8 => ?_)
      have w_v8 := ((t_v8 (Or.inl trivial)).trans ((show σ 32 0 ((121 * l) + ((V 7 l 6) - 1)) = V 8 l ((V 7 l 6) - 1) from by rw [show ((121 * l) + ((V 7 l 6) - 1)) = 121 * l + ((V 7 l 6) - 1) from by omega]; exact hR.1.a8 (y := ((V 7 l 6) - 1)) (by omega) (by omega) (by omega) (by omega)).trans (rfl))).symm
      subst w_v8
      have hwhen := (hJ.2.2.1 l (V 7 l 6 - 1) (by omega) (by omega) (by omega) (by omega)).1
      have hbo := hJ.2.1 (V 13 l 0) (by omega) (by omega)
      have hnl : V 7 (V 13 l 0) 10 = -1 → ¬ V 8 l (V 7 l 6 - 1) < wr (V 7 (V 13 l 0) 10 - V 7 (V 13 l 0) 5) := fun q => lt_neg q (by omega) (by omega)
      refine r_istore hC dX6_give_37 rfl ?_
      refine r_iload_n hC dX6_give_39 rfl ?_
      refine r_iload hC dX6_give_40 rfl ?_
      refine r_isub hC dX6_give_42 ?_
      have f9 := inR_le (inR_wr (z - (V 8 l ((V 7 l 6) - 1))))
      refine r_aload_n hC dX6_give_43 rfl ?_
      refine z_getR hM dX6_give_44 fl_RX6_55 rfl rfl (vld_of (n := 1) rfl (by omega) (by omega)) ?_
      refine r_iload_n hC dX6_give_47 rfl ?_
      refine z_iald hM dX6_give_48 rfl (by omega) (by omega) (fun v10 h_v10 o_v10 t_v10 => ?_)
      have w_v10 := ((t_v10 (Or.inl (by simp [Tb]))).trans ((hR.1.k1 (by omega) (by omega)).trans (rfl))).symm
      subst w_v10
      refine r_icmp_gt (tgt := 53) hC dX6_give_49 rfl (fun h11 => ?_) (fun h11 => ?_)
      · refine r_iload_n hC dX6_give_53 rfl ?_
        refine r_istore hC dX6_give_54 rfl ?_
        have L56 : ∀ (n56 : Nat) (w12 : Int), 0 ≤ w12 ∧ w12 ≤ 120 → (ses (V 8 l) (V 13 l 1) ((w12)).toNat = ses (V 8 l) (V 13 l 1) (V 7 l 6 - 1).toNat) → w12 - 0 < (n56 : Int) → K 56 [some (vR 30 0), some (vI l), some (vI z), some (vI ((V 7 l 6) - 1)), some (vI (V 8 l ((V 7 l 6) - 1))), some (vI w12), none, none] [] σ := by
          intro n56
          induction n56 with
          | zero => intro w12  f_w12 i0_56 hm  ; omega
          | succ n56 ih56 =>
            intro w12  f_w12 i0_56 hm56  
            refine r_iload hC dX6_give_56 rfl ?_
            refine r_if_le (tgt := 103) hC dX6_give_58 rfl (fun h13 => ?_) (fun h13 => ?_)
            · have hs_ : ses (V 8 l) (V 13 l 1) (V 7 l 6 - 1).toNat = w12 := by rw [← i0_56]; first | exact ses_0 (by omega) | exact ses_yes (by omega) (by omega)
              refine r_aload_n hC dX6_give_103 rfl ?_
              refine r_iload_n hC dX6_give_104 rfl ?_
              refine r_iload hC dX6_give_105 rfl ?_
              refine r_iload_n hC dX6_give_107 rfl ?_
              refine r_aload_n hC dX6_give_108 rfl ?_
              refine z_getR hM dX6_give_109 fl_RX6_58 rfl rfl (vld_of (n := 1) rfl (by omega) (by omega)) ?_
              refine r_iload_n hC dX6_give_112 rfl ?_
              refine z_iald hM dX6_give_113 rfl (by omega) (by omega) (fun v14 h_v14 o_v14 t_v14 => ?_)
              have w_v14 := ((t_v14 (Or.inl (by simp [Tb]))).trans ((hR.1.k2 (by omega) (by omega)).trans (rfl))).symm
              subst w_v14
              have q_v14 : 0 ≤ (V 13 l 2) ∧ (V 13 l 2) ≤ 6 := o_v14
              refine z_inv4 hM dX6_give_114 vl_RX6_243 rfl rfl rfl (Nat.le_of_ble_eq_true rfl) (Nat.le_of_ble_eq_true rfl) ?_
              have hw_ := hlk2 (by omega)
              have hwN := numF_rng (V 7 l 2)
              refine y_comesFrom (V := V) (by omega) (by omega) (by omega) (by omega) ht ⟨hR.1, hR.2.1, hR.2.2⟩ (by omega) hLl (by omega) (fun ρ15 Rρ15 => ?_)
              refine r_istore hC dX6_give_117 rfl ?_
              refine r_iload hC dX6_give_119 rfl ?_
              refine r_ldc hC dX6_give_121 co_RX6_160 rfl ?_
              refine r_icmp_ne (tgt := 127) hC dX6_give_123 rfl (fun h16 => ?_) (fun h16 => ?_)
              · refine r_aload_n hC dX6_give_127 rfl ?_
                refine z_getR hM dX6_give_128 fl_RX6_52 rfl rfl (vld_of (n := 1) rfl (by omega) (by omega)) ?_
                refine r_iload_n hC dX6_give_131 rfl ?_
                refine z_iald hM dX6_give_132 rfl (by omega) (by omega) (fun v17 h_v17 o_v17 t_v17 => ?_)
                have w_v17 := ((t_v17 (Or.inl (by simp [Tb]))).trans ((Rρ15.1.k0 (by omega) (by omega)).trans (rfl))).symm
                subst w_v17
                have q_v17 : -1 ≤ (V 13 l 0) ∧ (V 13 l 0) ≤ 3 := o_v17
                refine r_istore hC dX6_give_133 rfl ?_
                refine r_aload_n hC dX6_give_135 rfl ?_
                refine r_iload hC dX6_give_136 rfl ?_
                refine r_iload hC dX6_give_138 rfl ?_
                refine z_inv2 hM dX6_give_140 vl_RX6_247 rfl rfl rfl (Nat.le_of_ble_eq_true rfl) (Nat.le_of_ble_eq_true rfl) ?_
                refine y_isLost (V := V) (by omega) ht ⟨Rρ15.1, Rρ15.2.1, Rρ15.2.2⟩ (by omega) (fun h18 => ?_) (fun h18 => ?_)
                · refine r_if_eq (tgt := 156) hC dX6_give_143 rfl (fun h19 => by omega) (fun h19 => ?_)
                  refine r_aload_n hC dX6_give_146 rfl ?_
                  refine r_iload hC dX6_give_147 rfl ?_
                  refine r_bipush hC dX6_give_149 rfl ?_
                  refine r_iconst hC dX6_give_151 rfl ?_
                  refine z_inv3 hM dX6_give_152 vl_RX6_188 rfl rfl rfl (Nat.le_of_ble_eq_true rfl) (Nat.le_of_ble_eq_true rfl) ?_
                  refine y_moreG (by omega) ?_
                  refine y_vret hK rfl dX6_give_155 ?_
                  have hm : gvM V l z = V := if_neg (fun q => by have q1 := q.1; have q2 := q.2.1; have q3 := q.2.2.1; have q4 := q.2.2.2.1; have q5 := q.2.2.2.2.1; have q6 := q.2.2.2.2.2; unfold gvN at q5; rw [hs_, show (V 7 l 6 - w12).toNat = (V 7 l 6 - 1 + 1 - w12).toNat from by omega] at q5; unfold NO at q5; unfold fuV at *; unfold ltV at *; omega)
                  rw [hm] at k
                  exact k _ ⟨Rρ15.1, Rρ15.2.1, Rρ15.2.2⟩
                · refine r_if_eq (tgt := 156) hC dX6_give_143 rfl (fun h20 => ?_) (fun h20 => by omega)
                  refine r_aload_n hC dX6_give_156 rfl ?_
                  refine r_iload hC dX6_give_157 rfl ?_
                  refine z_inv1 hM dX6_give_159 vl_RX6_250 rfl rfl rfl (Nat.le_of_ble_eq_true rfl) (Nat.le_of_ble_eq_true rfl) ?_
                  refine y_isFull (V := V) (by omega) ht ⟨Rρ15.1, Rρ15.2.1, Rρ15.2.2⟩ (by omega) (fun h21 => ?_) (fun h21 => ?_)
                  · refine r_if_eq (tgt := 166) hC dX6_give_162 rfl (fun h22 => by omega) (fun h22 => ?_)
                    refine y_vret hK rfl dX6_give_165 ?_
                    have hm : gvM V l z = V := if_neg (fun q => by have q1 := q.1; have q2 := q.2.1; have q3 := q.2.2.1; have q4 := q.2.2.2.1; have q5 := q.2.2.2.2.1; have q6 := q.2.2.2.2.2; unfold gvN at q5; rw [hs_, show (V 7 l 6 - w12).toNat = (V 7 l 6 - 1 + 1 - w12).toNat from by omega] at q5; unfold NO at q5; unfold fuV at *; unfold ltV at *; omega)
                    rw [hm] at k
                    exact k _ ⟨Rρ15.1, Rρ15.2.1, Rρ15.2.2⟩
                  · refine r_if_eq (tgt := 166) hC dX6_give_162 rfl (fun h23 => ?_) (fun h23 => by omega)
                    refine r_aload_n hC dX6_give_166 rfl ?_
                    refine z_getR hM dX6_give_167 fl_RX6_61 rfl rfl (vld_of (n := 1) rfl (by omega) (by omega)) ?_
                    refine r_iload_n hC dX6_give_170 rfl ?_
                    refine r_dup2 hC dX6_give_171 rfl rfl ?_
                    refine z_iald hM dX6_give_172 rfl (by omega) (by omega) (fun v24 h_v24 o_v24 t_v24 => ?_)
                    have w_v24 := ((t_v24 (Or.inl (by simp [Tb]))).trans ((Rρ15.1.k3 (by omega) (by omega)).trans (rfl))).symm
                    subst w_v24
                    refine r_iconst hC dX6_give_173 rfl ?_
                    refine r_iadd hC dX6_give_174 ?_
                    have f25 := inR_le (inR_wr ((V 13 l 3) + 1))
                    refine z_iastT hM dX6_give_175 rfl (by omega) (by omega) ⟨Or.inr (by simp [DL]), Or.inr (by simp [DF])⟩ (by first | trivial | (simp only [Okv]; omega) | (simp [Okv]; try omega)) ?_
                    obtain ⟨ρ26, e_ρ26⟩ : ∃ zz_, zz_ = mu ρ15 48 0 l (wr ((V 13 l 3) + 1)) := ⟨_, rfl⟩
                    rw [← e_ρ26]
                    have Sρ26 : SB t σ0 (mu V 13 l 3 (wr ((V 13 l 3) + 1))) ρ26 := by rw [e_ρ26]; exact Rρ15.1.pk3 (by omega) (by omega)
                    have Kρ26 : KF t (mu V 13 l 3 (wr ((V 13 l 3) + 1))) ρ26 := by rw [e_ρ26]; exact (Rρ15.2.1).e (fun l a b => ⟨mu_ne (by omega), mu_ne (by omega)⟩) |>.v (fun l => mu_ne (by omega))
                    have Fρ26 : FB (mu V 13 l 3 (wr ((V 13 l 3) + 1))) ρ26 := by rw [e_ρ26]; exact (Rρ15.2.2).e (fun l a b => mu_ne (by omega)) |>.v (fun l y a b c => mu_ne (by omega))
                    refine r_aload_n hC dX6_give_176 rfl ?_
                    refine r_iload hC dX6_give_177 rfl ?_
                    refine r_iload hC dX6_give_179 rfl ?_
                    refine r_iload hC dX6_give_181 rfl ?_
                    refine r_sipush hC dX6_give_183 rfl ?_
                    refine r_icmp_ge (tgt := 195) hC dX6_give_186 rfl (fun h27 => ?_) (fun h27 => ?_)
                    · refine r_iload hC dX6_give_195 rfl ?_
                      refine r_sipush hC dX6_give_197 rfl ?_
                      refine r_icmp_le (tgt := 209) hC dX6_give_200 rfl (fun h28 => ?_) (fun h28 => ?_)
                      · refine r_iload hC dX6_give_209 rfl ?_
                        refine z_inv3 hM dX6_give_211 vl_RX6_253 rfl rfl rfl (Nat.le_of_ble_eq_true rfl) (Nat.le_of_ble_eq_true rfl) ?_
                        have hO6 := hCI.h7 (l := (V 13 l 0)) (by omega) (by omega)
                        have eO7 : ∀ y : Int, (mu V 13 l 3 (wr ((V 13 l 3) + 1))) 7 (V 13 l 0) y = V 7 (V 13 l 0) y := fun y => mu_ne (by omega)
                        have eO11 : (mu V 13 l 3 (wr ((V 13 l 3) + 1))) 11 (V 13 l 0) = V 11 (V 13 l 0) := funext fun y => mu_ne (by omega)
                        have eO8 : (mu V 13 l 3 (wr ((V 13 l 3) + 1))) 8 (V 13 l 0) = V 8 (V 13 l 0) := funext fun y => mu_ne (by omega)
                        refine y_enter (V := (mu V 13 l 3 (wr ((V 13 l 3) + 1)))) (l := (V 13 l 0)) (z := (V 8 l ((V 7 l 6) - 1))) (v := (cm (V 16 0) (V 15 0) (V 7 l 2) (fun j => V 9 l (w12 + j)) (((V 7 l 6) - 1) + 1 - w12).toNat (V 13 l 2))) (by omega) (by omega) (by omega) ht ⟨Sρ26, Kρ26, Fρ26⟩ (by omega) ((hJ.lk hCI (l := (V 13 l 0)) (by omega) (by omega)).to (fun c2 x y h => mu_ne (by omega))) (by rw [eO11, eO7]; exact hCI.2.1 (V 13 l 0) (by omega) (by omega)) (by rw [eO8, eO7]; exact hJ.1 (V 13 l 0) (by omega) (by omega)) (by rw [eO7]; omega) (by rw [eO7, eO7]; intro q; have := hCI.size (i := (V 13 l 0)) (by omega) (by omega) q; omega) (fun ρ29 Rρ29 => ?_)
                        refine y_vret hK rfl dX6_give_214 ?_
                        have hN : gvN V l = (cm (V 16 0) (V 15 0) (V 7 l 2) (fun j => V 9 l (w12 + j)) (((V 7 l 6) - 1) + 1 - w12).toNat (V 13 l 2)) := by unfold gvN; rw [hs_, show (V 7 l 6 - w12).toNat = (V 7 l 6 - 1 + 1 - w12).toNat from by omega]
                        have hm : gvM V l z = (plM (mu V 13 l 3 (wr ((V 13 l 3) + 1))) (V 13 l 0) (V 8 l ((V 7 l 6) - 1)) (cm (V 16 0) (V 15 0) (V 7 l 2) (fun j => V 9 l (w12 + j)) (((V 7 l 6) - 1) + 1 - w12).toNat (V 13 l 2))) := by
                          unfold gvM
                          rw [if_pos ⟨by omega, by omega, by omega, by unfold fuV; omega, by rw [hN]; unfold NO; omega, by unfold ltV; omega⟩, hN]
                          rw [show max (-1000) (min 1000 (cm (V 16 0) (V 15 0) (V 7 l 2) (fun j => V 9 l (w12 + j)) (((V 7 l 6) - 1) + 1 - w12).toNat (V 13 l 2))) = (cm (V 16 0) (V 15 0) (V 7 l 2) (fun j => V 9 l (w12 + j)) (((V 7 l 6) - 1) + 1 - w12).toNat (V 13 l 2)) from by omega]
                        rw [hm] at k
                        exact k _ ⟨Rρ29.1, Rρ29.2.1, Rρ29.2.2⟩
                      · refine r_sipush hC dX6_give_203 rfl ?_
                        refine r_goto (tgt := 211) hC dX6_give_206 rfl ?_
                        refine z_inv3 hM dX6_give_211 vl_RX6_253 rfl rfl rfl (Nat.le_of_ble_eq_true rfl) (Nat.le_of_ble_eq_true rfl) ?_
                        have hO6 := hCI.h7 (l := (V 13 l 0)) (by omega) (by omega)
                        have eO7 : ∀ y : Int, (mu V 13 l 3 (wr ((V 13 l 3) + 1))) 7 (V 13 l 0) y = V 7 (V 13 l 0) y := fun y => mu_ne (by omega)
                        have eO11 : (mu V 13 l 3 (wr ((V 13 l 3) + 1))) 11 (V 13 l 0) = V 11 (V 13 l 0) := funext fun y => mu_ne (by omega)
                        have eO8 : (mu V 13 l 3 (wr ((V 13 l 3) + 1))) 8 (V 13 l 0) = V 8 (V 13 l 0) := funext fun y => mu_ne (by omega)
                        refine y_enter (V := (mu V 13 l 3 (wr ((V 13 l 3) + 1)))) (l := (V 13 l 0)) (z := (V 8 l ((V 7 l 6) - 1))) (v := 1000) (by omega) (by omega) (by omega) ht ⟨Sρ26, Kρ26, Fρ26⟩ (by omega) ((hJ.lk hCI (l := (V 13 l 0)) (by omega) (by omega)).to (fun c2 x y h => mu_ne (by omega))) (by rw [eO11, eO7]; exact hCI.2.1 (V 13 l 0) (by omega) (by omega)) (by rw [eO8, eO7]; exact hJ.1 (V 13 l 0) (by omega) (by omega)) (by rw [eO7]; omega) (by rw [eO7, eO7]; intro q; have := hCI.size (i := (V 13 l 0)) (by omega) (by omega) q; omega) (fun ρ30 Rρ30 => ?_)
                        refine y_vret hK rfl dX6_give_214 ?_
                        have hN : gvN V l = (cm (V 16 0) (V 15 0) (V 7 l 2) (fun j => V 9 l (w12 + j)) (((V 7 l 6) - 1) + 1 - w12).toNat (V 13 l 2)) := by unfold gvN; rw [hs_, show (V 7 l 6 - w12).toNat = (V 7 l 6 - 1 + 1 - w12).toNat from by omega]
                        have hm : gvM V l z = (plM (mu V 13 l 3 (wr ((V 13 l 3) + 1))) (V 13 l 0) (V 8 l ((V 7 l 6) - 1)) 1000) := by
                          unfold gvM
                          rw [if_pos ⟨by omega, by omega, by omega, by unfold fuV; omega, by rw [hN]; unfold NO; omega, by unfold ltV; omega⟩, hN]
                          rw [show max (-1000) (min 1000 (cm (V 16 0) (V 15 0) (V 7 l 2) (fun j => V 9 l (w12 + j)) (((V 7 l 6) - 1) + 1 - w12).toNat (V 13 l 2))) = 1000 from by omega]
                        rw [hm] at k
                        exact k _ ⟨Rρ30.1, Rρ30.2.1, Rρ30.2.2⟩
                    · refine r_sipush hC dX6_give_189 rfl ?_
                      refine r_goto (tgt := 211) hC dX6_give_192 rfl ?_
                      refine z_inv3 hM dX6_give_211 vl_RX6_253 rfl rfl rfl (Nat.le_of_ble_eq_true rfl) (Nat.le_of_ble_eq_true rfl) ?_
                      have hO6 := hCI.h7 (l := (V 13 l 0)) (by omega) (by omega)
                      have eO7 : ∀ y : Int, (mu V 13 l 3 (wr ((V 13 l 3) + 1))) 7 (V 13 l 0) y = V 7 (V 13 l 0) y := fun y => mu_ne (by omega)
                      have eO11 : (mu V 13 l 3 (wr ((V 13 l 3) + 1))) 11 (V 13 l 0) = V 11 (V 13 l 0) := funext fun y => mu_ne (by omega)
                      have eO8 : (mu V 13 l 3 (wr ((V 13 l 3) + 1))) 8 (V 13 l 0) = V 8 (V 13 l 0) := funext fun y => mu_ne (by omega)
                      refine y_enter (V := (mu V 13 l 3 (wr ((V 13 l 3) + 1)))) (l := (V 13 l 0)) (z := (V 8 l ((V 7 l 6) - 1))) (v := (-1000)) (by omega) (by omega) (by omega) ht ⟨Sρ26, Kρ26, Fρ26⟩ (by omega) ((hJ.lk hCI (l := (V 13 l 0)) (by omega) (by omega)).to (fun c2 x y h => mu_ne (by omega))) (by rw [eO11, eO7]; exact hCI.2.1 (V 13 l 0) (by omega) (by omega)) (by rw [eO8, eO7]; exact hJ.1 (V 13 l 0) (by omega) (by omega)) (by rw [eO7]; omega) (by rw [eO7, eO7]; intro q; have := hCI.size (i := (V 13 l 0)) (by omega) (by omega) q; omega) (fun ρ31 Rρ31 => ?_)
                      refine y_vret hK rfl dX6_give_214 ?_
                      have hN : gvN V l = (cm (V 16 0) (V 15 0) (V 7 l 2) (fun j => V 9 l (w12 + j)) (((V 7 l 6) - 1) + 1 - w12).toNat (V 13 l 2)) := by unfold gvN; rw [hs_, show (V 7 l 6 - w12).toNat = (V 7 l 6 - 1 + 1 - w12).toNat from by omega]
                      have hm : gvM V l z = (plM (mu V 13 l 3 (wr ((V 13 l 3) + 1))) (V 13 l 0) (V 8 l ((V 7 l 6) - 1)) (-1000)) := by
                        unfold gvM
                        rw [if_pos ⟨by omega, by omega, by omega, by unfold fuV; omega, by rw [hN]; unfold NO; omega, by unfold ltV; omega⟩, hN]
                        rw [show max (-1000) (min 1000 (cm (V 16 0) (V 15 0) (V 7 l 2) (fun j => V 9 l (w12 + j)) (((V 7 l 6) - 1) + 1 - w12).toNat (V 13 l 2))) = (-1000) from by omega]
                      rw [hm] at k
                      exact k _ ⟨Rρ31.1, Rρ31.2.1, Rρ31.2.2⟩
              · refine y_vret hK rfl dX6_give_126 ?_
                have hm : gvM V l z = V := if_neg (fun q => by have q1 := q.1; have q2 := q.2.1; have q3 := q.2.2.1; have q4 := q.2.2.2.1; have q5 := q.2.2.2.2.1; have q6 := q.2.2.2.2.2; unfold gvN at q5; rw [hs_, show (V 7 l 6 - w12).toNat = (V 7 l 6 - 1 + 1 - w12).toNat from by omega] at q5; unfold NO at q5; unfold fuV at *; unfold ltV at *; omega)
                rw [hm] at k
                exact k _ ⟨Rρ15.1, Rρ15.2.1, Rρ15.2.2⟩
            · refine r_aload_n hC dX6_give_61 rfl ?_
              refine z_getR hM dX6_give_62 fl_RX6_13 rfl rfl (vld_of (n := 1) rfl (by omega) (by omega)) ?_
              refine r_bipush hC dX6_give_65 rfl ?_
              refine r_iload_n hC dX6_give_67 rfl ?_
              refine r_imulE hC ((121 * l)) dX6_give_68 (by omega) (by unfold inR; omega) ?_
              refine r_iload hC dX6_give_69 rfl ?_
              refine r_iaddE hC (((121 * l) + w12)) dX6_give_71 (by omega) (by unfold inR; omega) ?_
              refine z_iald hM dX6_give_72 rfl (by omega) (by omega) (fun v32 h_v32 o_v32 t_v32 => ?_)
              have w_v32 := ((t_v32 (Or.inl trivial)).trans ((show σ 32 0 ((121 * l) + w12) = V 8 l w12 from by rw [show ((121 * l) + w12) = 121 * l + w12 from by omega]; exact hR.1.a8 (y := w12) (by omega) (by omega) (by omega) (by omega)).trans (rfl))).symm
              subst w_v32
              refine r_aload_n hC dX6_give_73 rfl ?_
              refine z_getR hM dX6_give_74 fl_RX6_13 rfl rfl (vld_of (n := 1) rfl (by omega) (by omega)) ?_
              refine r_bipush hC dX6_give_77 rfl ?_
              refine r_iload_n hC dX6_give_79 rfl ?_
              refine r_imulE hC ((121 * l)) dX6_give_80 (by omega) (by unfold inR; omega) ?_
              refine r_iload hC dX6_give_81 rfl ?_
              refine r_iaddE hC (((121 * l) + w12)) dX6_give_83 (by omega) (by unfold inR; omega) ?_
              refine r_iconst hC dX6_give_84 rfl ?_
              refine r_isubE hC ((((121 * l) + w12) - 1)) dX6_give_85 (by omega) (by unfold inR; omega) ?_
              refine z_iald hM dX6_give_86 rfl (by omega) (by omega) (fun v33 h_v33 o_v33 t_v33 => ?_)
              have w_v33 := ((t_v33 (Or.inl trivial)).trans ((show σ 32 0 (((121 * l) + w12) - 1) = V 8 l (w12 - 1) from by rw [show (((121 * l) + w12) - 1) = 121 * l + (w12 - 1) from by omega]; exact hR.1.a8 (y := (w12 - 1)) (by omega) (by omega) (by omega) (by omega)).trans (rfl))).symm
              subst w_v33
              refine r_isub hC dX6_give_87 ?_
              have f34 := inR_le (inR_wr ((V 8 l w12) - (V 8 l (w12 - 1))))
              refine r_aload_n hC dX6_give_88 rfl ?_
              refine z_getR hM dX6_give_89 fl_RX6_55 rfl rfl (vld_of (n := 1) rfl (by omega) (by omega)) ?_
              refine r_iload_n hC dX6_give_92 rfl ?_
              refine z_iald hM dX6_give_93 rfl (by omega) (by omega) (fun v35 h_v35 o_v35 t_v35 => ?_)
              have w_v35 := ((t_v35 (Or.inl (by simp [Tb]))).trans ((hR.1.k1 (by omega) (by omega)).trans (rfl))).symm
              subst w_v35
              refine r_icmp_gt (tgt := 103) hC dX6_give_94 rfl (fun h36 => ?_) (fun h36 => ?_)
              · have hs_ : ses (V 8 l) (V 13 l 1) (V 7 l 6 - 1).toNat = w12 := by rw [← i0_56]; first | exact ses_0 (by omega) | exact ses_yes (by omega) (by omega)
                refine r_aload_n hC dX6_give_103 rfl ?_
                refine r_iload_n hC dX6_give_104 rfl ?_
                refine r_iload hC dX6_give_105 rfl ?_
                refine r_iload_n hC dX6_give_107 rfl ?_
                refine r_aload_n hC dX6_give_108 rfl ?_
                refine z_getR hM dX6_give_109 fl_RX6_58 rfl rfl (vld_of (n := 1) rfl (by omega) (by omega)) ?_
                refine r_iload_n hC dX6_give_112 rfl ?_
                refine z_iald hM dX6_give_113 rfl (by omega) (by omega) (fun v37 h_v37 o_v37 t_v37 => ?_)
                have w_v37 := ((t_v37 (Or.inl (by simp [Tb]))).trans ((hR.1.k2 (by omega) (by omega)).trans (rfl))).symm
                subst w_v37
                have q_v37 : 0 ≤ (V 13 l 2) ∧ (V 13 l 2) ≤ 6 := o_v37
                refine z_inv4 hM dX6_give_114 vl_RX6_243 rfl rfl rfl (Nat.le_of_ble_eq_true rfl) (Nat.le_of_ble_eq_true rfl) ?_
                have hw_ := hlk2 (by omega)
                have hwN := numF_rng (V 7 l 2)
                refine y_comesFrom (V := V) (by omega) (by omega) (by omega) (by omega) ht ⟨hR.1, hR.2.1, hR.2.2⟩ (by omega) hLl (by omega) (fun ρ38 Rρ38 => ?_)
                refine r_istore hC dX6_give_117 rfl ?_
                refine r_iload hC dX6_give_119 rfl ?_
                refine r_ldc hC dX6_give_121 co_RX6_160 rfl ?_
                refine r_icmp_ne (tgt := 127) hC dX6_give_123 rfl (fun h39 => ?_) (fun h39 => ?_)
                · refine r_aload_n hC dX6_give_127 rfl ?_
                  refine z_getR hM dX6_give_128 fl_RX6_52 rfl rfl (vld_of (n := 1) rfl (by omega) (by omega)) ?_
                  refine r_iload_n hC dX6_give_131 rfl ?_
                  refine z_iald hM dX6_give_132 rfl (by omega) (by omega) (fun v40 h_v40 o_v40 t_v40 => ?_)
                  have w_v40 := ((t_v40 (Or.inl (by simp [Tb]))).trans ((Rρ38.1.k0 (by omega) (by omega)).trans (rfl))).symm
                  subst w_v40
                  have q_v40 : -1 ≤ (V 13 l 0) ∧ (V 13 l 0) ≤ 3 := o_v40
                  refine r_istore hC dX6_give_133 rfl ?_
                  refine r_aload_n hC dX6_give_135 rfl ?_
                  refine r_iload hC dX6_give_136 rfl ?_
                  refine r_iload hC dX6_give_138 rfl ?_
                  refine z_inv2 hM dX6_give_140 vl_RX6_247 rfl rfl rfl (Nat.le_of_ble_eq_true rfl) (Nat.le_of_ble_eq_true rfl) ?_
                  refine y_isLost (V := V) (by omega) ht ⟨Rρ38.1, Rρ38.2.1, Rρ38.2.2⟩ (by omega) (fun h41 => ?_) (fun h41 => ?_)
                  · refine r_if_eq (tgt := 156) hC dX6_give_143 rfl (fun h42 => by omega) (fun h42 => ?_)
                    refine r_aload_n hC dX6_give_146 rfl ?_
                    refine r_iload hC dX6_give_147 rfl ?_
                    refine r_bipush hC dX6_give_149 rfl ?_
                    refine r_iconst hC dX6_give_151 rfl ?_
                    refine z_inv3 hM dX6_give_152 vl_RX6_188 rfl rfl rfl (Nat.le_of_ble_eq_true rfl) (Nat.le_of_ble_eq_true rfl) ?_
                    refine y_moreG (by omega) ?_
                    refine y_vret hK rfl dX6_give_155 ?_
                    have hm : gvM V l z = V := if_neg (fun q => by have q1 := q.1; have q2 := q.2.1; have q3 := q.2.2.1; have q4 := q.2.2.2.1; have q5 := q.2.2.2.2.1; have q6 := q.2.2.2.2.2; unfold gvN at q5; rw [hs_, show (V 7 l 6 - w12).toNat = (V 7 l 6 - 1 + 1 - w12).toNat from by omega] at q5; unfold NO at q5; unfold fuV at *; unfold ltV at *; omega)
                    rw [hm] at k
                    exact k _ ⟨Rρ38.1, Rρ38.2.1, Rρ38.2.2⟩
                  · refine r_if_eq (tgt := 156) hC dX6_give_143 rfl (fun h43 => ?_) (fun h43 => by omega)
                    refine r_aload_n hC dX6_give_156 rfl ?_
                    refine r_iload hC dX6_give_157 rfl ?_
                    refine z_inv1 hM dX6_give_159 vl_RX6_250 rfl rfl rfl (Nat.le_of_ble_eq_true rfl) (Nat.le_of_ble_eq_true rfl) ?_
                    refine y_isFull (V := V) (by omega) ht ⟨Rρ38.1, Rρ38.2.1, Rρ38.2.2⟩ (by omega) (fun h44 => ?_) (fun h44 => ?_)
                    · refine r_if_eq (tgt := 166) hC dX6_give_162 rfl (fun h45 => by omega) (fun h45 => ?_)
                      refine y_vret hK rfl dX6_give_165 ?_
                      have hm : gvM V l z = V := if_neg (fun q => by have q1 := q.1; have q2 := q.2.1; have q3 := q.2.2.1; have q4 := q.2.2.2.1; have q5 := q.2.2.2.2.1; have q6 := q.2.2.2.2.2; unfold gvN at q5; rw [hs_, show (V 7 l 6 - w12).toNat = (V 7 l 6 - 1 + 1 - w12).toNat from by omega] at q5; unfold NO at q5; unfold fuV at *; unfold ltV at *; omega)
                      rw [hm] at k
                      exact k _ ⟨Rρ38.1, Rρ38.2.1, Rρ38.2.2⟩
                    · refine r_if_eq (tgt := 166) hC dX6_give_162 rfl (fun h46 => ?_) (fun h46 => by omega)
                      refine r_aload_n hC dX6_give_166 rfl ?_
                      refine z_getR hM dX6_give_167 fl_RX6_61 rfl rfl (vld_of (n := 1) rfl (by omega) (by omega)) ?_
                      refine r_iload_n hC dX6_give_170 rfl ?_
                      refine r_dup2 hC dX6_give_171 rfl rfl ?_
                      refine z_iald hM dX6_give_172 rfl (by omega) (by omega) (fun v47 h_v47 o_v47 t_v47 => ?_)
                      have w_v47 := ((t_v47 (Or.inl (by simp [Tb]))).trans ((Rρ38.1.k3 (by omega) (by omega)).trans (rfl))).symm
                      subst w_v47
                      refine r_iconst hC dX6_give_173 rfl ?_
                      refine r_iadd hC dX6_give_174 ?_
                      have f48 := inR_le (inR_wr ((V 13 l 3) + 1))
                      refine z_iastT hM dX6_give_175 rfl (by omega) (by omega) ⟨Or.inr (by simp [DL]), Or.inr (by simp [DF])⟩ (by first | trivial | (simp only [Okv]; omega) | (simp [Okv]; try omega)) ?_
                      obtain ⟨ρ49, e_ρ49⟩ : ∃ zz_, zz_ = mu ρ38 48 0 l (wr ((V 13 l 3) + 1)) := ⟨_, rfl⟩
                      rw [← e_ρ49]
                      have Sρ49 : SB t σ0 (mu V 13 l 3 (wr ((V 13 l 3) + 1))) ρ49 := by rw [e_ρ49]; exact Rρ38.1.pk3 (by omega) (by omega)
                      have Kρ49 : KF t (mu V 13 l 3 (wr ((V 13 l 3) + 1))) ρ49 := by rw [e_ρ49]; exact (Rρ38.2.1).e (fun l a b => ⟨mu_ne (by omega), mu_ne (by omega)⟩) |>.v (fun l => mu_ne (by omega))
                      have Fρ49 : FB (mu V 13 l 3 (wr ((V 13 l 3) + 1))) ρ49 := by rw [e_ρ49]; exact (Rρ38.2.2).e (fun l a b => mu_ne (by omega)) |>.v (fun l y a b c => mu_ne (by omega))
                      refine r_aload_n hC dX6_give_176 rfl ?_
                      refine r_iload hC dX6_give_177 rfl ?_
                      refine r_iload hC dX6_give_179 rfl ?_
                      refine r_iload hC dX6_give_181 rfl ?_
                      refine r_sipush hC dX6_give_183 rfl ?_
                      refine r_icmp_ge (tgt := 195) hC dX6_give_186 rfl (fun h50 => ?_) (fun h50 => ?_)
                      · refine r_iload hC dX6_give_195 rfl ?_
                        refine r_sipush hC dX6_give_197 rfl ?_
                        refine r_icmp_le (tgt := 209) hC dX6_give_200 rfl (fun h51 => ?_) (fun h51 => ?_)
                        · refine r_iload hC dX6_give_209 rfl ?_
                          refine z_inv3 hM dX6_give_211 vl_RX6_253 rfl rfl rfl (Nat.le_of_ble_eq_true rfl) (Nat.le_of_ble_eq_true rfl) ?_
                          have hO6 := hCI.h7 (l := (V 13 l 0)) (by omega) (by omega)
                          have eO7 : ∀ y : Int, (mu V 13 l 3 (wr ((V 13 l 3) + 1))) 7 (V 13 l 0) y = V 7 (V 13 l 0) y := fun y => mu_ne (by omega)
                          have eO11 : (mu V 13 l 3 (wr ((V 13 l 3) + 1))) 11 (V 13 l 0) = V 11 (V 13 l 0) := funext fun y => mu_ne (by omega)
                          have eO8 : (mu V 13 l 3 (wr ((V 13 l 3) + 1))) 8 (V 13 l 0) = V 8 (V 13 l 0) := funext fun y => mu_ne (by omega)
                          refine y_enter (V := (mu V 13 l 3 (wr ((V 13 l 3) + 1)))) (l := (V 13 l 0)) (z := (V 8 l ((V 7 l 6) - 1))) (v := (cm (V 16 0) (V 15 0) (V 7 l 2) (fun j => V 9 l (w12 + j)) (((V 7 l 6) - 1) + 1 - w12).toNat (V 13 l 2))) (by omega) (by omega) (by omega) ht ⟨Sρ49, Kρ49, Fρ49⟩ (by omega) ((hJ.lk hCI (l := (V 13 l 0)) (by omega) (by omega)).to (fun c2 x y h => mu_ne (by omega))) (by rw [eO11, eO7]; exact hCI.2.1 (V 13 l 0) (by omega) (by omega)) (by rw [eO8, eO7]; exact hJ.1 (V 13 l 0) (by omega) (by omega)) (by rw [eO7]; omega) (by rw [eO7, eO7]; intro q; have := hCI.size (i := (V 13 l 0)) (by omega) (by omega) q; omega) (fun ρ52 Rρ52 => ?_)
                          refine y_vret hK rfl dX6_give_214 ?_
                          have hN : gvN V l = (cm (V 16 0) (V 15 0) (V 7 l 2) (fun j => V 9 l (w12 + j)) (((V 7 l 6) - 1) + 1 - w12).toNat (V 13 l 2)) := by unfold gvN; rw [hs_, show (V 7 l 6 - w12).toNat = (V 7 l 6 - 1 + 1 - w12).toNat from by omega]
                          have hm : gvM V l z = (plM (mu V 13 l 3 (wr ((V 13 l 3) + 1))) (V 13 l 0) (V 8 l ((V 7 l 6) - 1)) (cm (V 16 0) (V 15 0) (V 7 l 2) (fun j => V 9 l (w12 + j)) (((V 7 l 6) - 1) + 1 - w12).toNat (V 13 l 2))) := by
                            unfold gvM
                            rw [if_pos ⟨by omega, by omega, by omega, by unfold fuV; omega, by rw [hN]; unfold NO; omega, by unfold ltV; omega⟩, hN]
                            rw [show max (-1000) (min 1000 (cm (V 16 0) (V 15 0) (V 7 l 2) (fun j => V 9 l (w12 + j)) (((V 7 l 6) - 1) + 1 - w12).toNat (V 13 l 2))) = (cm (V 16 0) (V 15 0) (V 7 l 2) (fun j => V 9 l (w12 + j)) (((V 7 l 6) - 1) + 1 - w12).toNat (V 13 l 2)) from by omega]
                          rw [hm] at k
                          exact k _ ⟨Rρ52.1, Rρ52.2.1, Rρ52.2.2⟩
                        · refine r_sipush hC dX6_give_203 rfl ?_
                          refine r_goto (tgt := 211) hC dX6_give_206 rfl ?_
                          refine z_inv3 hM dX6_give_211 vl_RX6_253 rfl rfl rfl (Nat.le_of_ble_eq_true rfl) (Nat.le_of_ble_eq_true rfl) ?_
                          have hO6 := hCI.h7 (l := (V 13 l 0)) (by omega) (by omega)
                          have eO7 : ∀ y : Int, (mu V 13 l 3 (wr ((V 13 l 3) + 1))) 7 (V 13 l 0) y = V 7 (V 13 l 0) y := fun y => mu_ne (by omega)
                          have eO11 : (mu V 13 l 3 (wr ((V 13 l 3) + 1))) 11 (V 13 l 0) = V 11 (V 13 l 0) := funext fun y => mu_ne (by omega)
                          have eO8 : (mu V 13 l 3 (wr ((V 13 l 3) + 1))) 8 (V 13 l 0) = V 8 (V 13 l 0) := funext fun y => mu_ne (by omega)
                          refine y_enter (V := (mu V 13 l 3 (wr ((V 13 l 3) + 1)))) (l := (V 13 l 0)) (z := (V 8 l ((V 7 l 6) - 1))) (v := 1000) (by omega) (by omega) (by omega) ht ⟨Sρ49, Kρ49, Fρ49⟩ (by omega) ((hJ.lk hCI (l := (V 13 l 0)) (by omega) (by omega)).to (fun c2 x y h => mu_ne (by omega))) (by rw [eO11, eO7]; exact hCI.2.1 (V 13 l 0) (by omega) (by omega)) (by rw [eO8, eO7]; exact hJ.1 (V 13 l 0) (by omega) (by omega)) (by rw [eO7]; omega) (by rw [eO7, eO7]; intro q; have := hCI.size (i := (V 13 l 0)) (by omega) (by omega) q; omega) (fun ρ53 Rρ53 => ?_)
                          refine y_vret hK rfl dX6_give_214 ?_
                          have hN : gvN V l = (cm (V 16 0) (V 15 0) (V 7 l 2) (fun j => V 9 l (w12 + j)) (((V 7 l 6) - 1) + 1 - w12).toNat (V 13 l 2)) := by unfold gvN; rw [hs_, show (V 7 l 6 - w12).toNat = (V 7 l 6 - 1 + 1 - w12).toNat from by omega]
                          have hm : gvM V l z = (plM (mu V 13 l 3 (wr ((V 13 l 3) + 1))) (V 13 l 0) (V 8 l ((V 7 l 6) - 1)) 1000) := by
                            unfold gvM
                            rw [if_pos ⟨by omega, by omega, by omega, by unfold fuV; omega, by rw [hN]; unfold NO; omega, by unfold ltV; omega⟩, hN]
                            rw [show max (-1000) (min 1000 (cm (V 16 0) (V 15 0) (V 7 l 2) (fun j => V 9 l (w12 + j)) (((V 7 l 6) - 1) + 1 - w12).toNat (V 13 l 2))) = 1000 from by omega]
                          rw [hm] at k
                          exact k _ ⟨Rρ53.1, Rρ53.2.1, Rρ53.2.2⟩
                      · refine r_sipush hC dX6_give_189 rfl ?_
                        refine r_goto (tgt := 211) hC dX6_give_192 rfl ?_
                        refine z_inv3 hM dX6_give_211 vl_RX6_253 rfl rfl rfl (Nat.le_of_ble_eq_true rfl) (Nat.le_of_ble_eq_true rfl) ?_
                        have hO6 := hCI.h7 (l := (V 13 l 0)) (by omega) (by omega)
                        have eO7 : ∀ y : Int, (mu V 13 l 3 (wr ((V 13 l 3) + 1))) 7 (V 13 l 0) y = V 7 (V 13 l 0) y := fun y => mu_ne (by omega)
                        have eO11 : (mu V 13 l 3 (wr ((V 13 l 3) + 1))) 11 (V 13 l 0) = V 11 (V 13 l 0) := funext fun y => mu_ne (by omega)
                        have eO8 : (mu V 13 l 3 (wr ((V 13 l 3) + 1))) 8 (V 13 l 0) = V 8 (V 13 l 0) := funext fun y => mu_ne (by omega)
                        refine y_enter (V := (mu V 13 l 3 (wr ((V 13 l 3) + 1)))) (l := (V 13 l 0)) (z := (V 8 l ((V 7 l 6) - 1))) (v := (-1000)) (by omega) (by omega) (by omega) ht ⟨Sρ49, Kρ49, Fρ49⟩ (by omega) ((hJ.lk hCI (l := (V 13 l 0)) (by omega) (by omega)).to (fun c2 x y h => mu_ne (by omega))) (by rw [eO11, eO7]; exact hCI.2.1 (V 13 l 0) (by omega) (by omega)) (by rw [eO8, eO7]; exact hJ.1 (V 13 l 0) (by omega) (by omega)) (by rw [eO7]; omega) (by rw [eO7, eO7]; intro q; have := hCI.size (i := (V 13 l 0)) (by omega) (by omega) q; omega) (fun ρ54 Rρ54 => ?_)
                        refine y_vret hK rfl dX6_give_214 ?_
                        have hN : gvN V l = (cm (V 16 0) (V 15 0) (V 7 l 2) (fun j => V 9 l (w12 + j)) (((V 7 l 6) - 1) + 1 - w12).toNat (V 13 l 2)) := by unfold gvN; rw [hs_, show (V 7 l 6 - w12).toNat = (V 7 l 6 - 1 + 1 - w12).toNat from by omega]
                        have hm : gvM V l z = (plM (mu V 13 l 3 (wr ((V 13 l 3) + 1))) (V 13 l 0) (V 8 l ((V 7 l 6) - 1)) (-1000)) := by
                          unfold gvM
                          rw [if_pos ⟨by omega, by omega, by omega, by unfold fuV; omega, by rw [hN]; unfold NO; omega, by unfold ltV; omega⟩, hN]
                          rw [show max (-1000) (min 1000 (cm (V 16 0) (V 15 0) (V 7 l 2) (fun j => V 9 l (w12 + j)) (((V 7 l 6) - 1) + 1 - w12).toNat (V 13 l 2))) = (-1000) from by omega]
                        rw [hm] at k
                        exact k _ ⟨Rρ54.1, Rρ54.2.1, Rρ54.2.2⟩
                · refine y_vret hK rfl dX6_give_126 ?_
                  have hm : gvM V l z = V := if_neg (fun q => by have q1 := q.1; have q2 := q.2.1; have q3 := q.2.2.1; have q4 := q.2.2.2.1; have q5 := q.2.2.2.2.1; have q6 := q.2.2.2.2.2; unfold gvN at q5; rw [hs_, show (V 7 l 6 - w12).toNat = (V 7 l 6 - 1 + 1 - w12).toNat from by omega] at q5; unfold NO at q5; unfold fuV at *; unfold ltV at *; omega)
                  rw [hm] at k
                  exact k _ ⟨Rρ38.1, Rρ38.2.1, Rρ38.2.2⟩
              · refine r_iincE hC ((w12 - 1)) dX6_give_97 rfl rfl (by omega) (by unfold inR; omega) ?_
                refine r_goto (tgt := 56) hC dX6_give_100 rfl ?_
                exact ih56 ((w12 - 1))  (by omega) (by first | rfl | (rw [← ses_no (by omega) (by omega)]; exact i0_56)) (by omega)  
        exact L56 122 (((V 7 l 6) - 1))  (by omega) (by first | rfl | (rw [← ses_no (by omega) (by omega)]; exact i0_56)) (by omega)  
      · refine y_vret hK rfl dX6_give_52 ?_
        have hm : gvM V l z = V := if_neg (fun q => by have q1 := q.1; have q2 := q.2.1; have q3 := q.2.2.1; have q4 := q.2.2.2.1; have q5 := q.2.2.2.2.1; have q6 := q.2.2.2.2.2; unfold fuV at *; unfold ltV at *; omega)
        rw [hm] at k
        exact k _ ⟨hR.1, hR.2.1, hR.2.2⟩
    · refine y_vret hK rfl dX6_give_17 ?_
      have hm : gvM V l z = V := if_neg (fun q => by have q1 := q.1; have q2 := q.2.1; have q3 := q.2.2.1; have q4 := q.2.2.2.1; have q5 := q.2.2.2.2.1; have q6 := q.2.2.2.2.2; unfold fuV at *; unfold ltV at *; omega)
      rw [hm] at k
      exact k _ ⟨hR.1, hR.2.1, hR.2.2⟩
theorem y_seeMost {eb : Bool} {t : Int} {V : Mm} {d : Nat} {P : Option Vl → Mm → Prop} {σ : Mm} {l : Int} (b_l : 0 ≤ l ∧ l ≤ 7) {σ0 : Mm} (ht : 6 ≤ t ∧ t ≤ 7) (hR : RS t σ0 V σ) (hl : l ≤ t)  (k : ∀ ρ : Mm, RS t σ0 (mu V 7 l 15 (max (V 7 l 15) (V 7 l 6))) ρ → P none ρ) : WT (true, eb, true) (d + 3) 195 [vR 30 0, vI l] σ P := by
  refine WT_in fun K hK => ?_
  have hK : StpY (true, eb, true) cX6_seeMost RX6 (none) (WT (true, eb, true) (d + 2)) P K := hK
  have hM := hK.1
  have hC := hK.1.1
  show K 0 [some (vR 30 0), some (vI l)] [] σ
  refine r_aload_n hC dX6_seeMost_0 rfl ?_
  refine r_iload_n hC dX6_seeMost_1 rfl ?_
  refine z_inv1 hM dX6_seeMost_2 vl_RX6_116 rfl rfl rfl (Nat.le_of_ble_eq_true rfl) (Nat.le_of_ble_eq_true rfl) ?_
  refine y_heldOf (by omega) (fun o1 => ?_)
  have e2 : σ 31 0 (22 * l + 5) = (V 7 l 6) := (hR.1.a7 (s := 6) (f := 5) (by omega) (by omega) (by omega)).trans (rfl)
  rw [e2] at o1 ⊢
  have qo1 : 0 ≤ (V 7 l 6) ∧ (V 7 l 6) ≤ 121 := o1.1 (by omega)
  refine r_aload_n hC dX6_seeMost_5 rfl ?_
  refine r_iload_n hC dX6_seeMost_6 rfl ?_
  refine r_bipush hC dX6_seeMost_7 rfl ?_
  refine z_inv2 hM dX6_seeMost_9 vl_RX6_80 rfl rfl rfl (Nat.le_of_ble_eq_true rfl) (Nat.le_of_ble_eq_true rfl) ?_
  refine y_of (by omega) (by omega) (by omega) (fun o3 => ?_)
  have e4 : σ 31 0 (22 * l + 11) = (V 7 l 15) := (hR.1.a7 (s := 15) (f := 11) (by omega) (by omega) (by omega)).trans (rfl)
  rw [e4] at o3 ⊢
  refine r_icmp_le (tgt := 27) hC dX6_seeMost_12 rfl (fun h5 => ?_) (fun h5 => ?_)
  · refine y_vret hK rfl dX6_seeMost_27 ?_
    have e : (mu V 7 l 15 (max (V 7 l 15) (V 7 l 6))) = V := mu_same (by omega)
    rw [e] at k
    exact k _ ⟨hR.1, hR.2.1, hR.2.2⟩
  · refine r_aload_n hC dX6_seeMost_15 rfl ?_
    refine r_iload_n hC dX6_seeMost_16 rfl ?_
    refine r_bipush hC dX6_seeMost_17 rfl ?_
    refine r_aload_n hC dX6_seeMost_19 rfl ?_
    refine r_iload_n hC dX6_seeMost_20 rfl ?_
    refine z_inv1 hM dX6_seeMost_21 vl_RX6_116 rfl rfl rfl (Nat.le_of_ble_eq_true rfl) (Nat.le_of_ble_eq_true rfl) ?_
    refine y_heldOf (by omega) (fun o6 => ?_)
    have e7 : σ 31 0 (22 * l + 5) = (V 7 l 6) := (hR.1.a7 (s := 6) (f := 5) (by omega) (by omega) (by omega)).trans (rfl)
    rw [e7] at o6 ⊢
    have qo6 : 0 ≤ (V 7 l 6) ∧ (V 7 l 6) ≤ 121 := o6.1 (by omega)
    refine z_inv3 hM dX6_seeMost_24 vl_RX6_173 rfl rfl rfl (Nat.le_of_ble_eq_true rfl) (Nat.le_of_ble_eq_true rfl) ?_
    refine y_set (by omega) (by omega) ⟨fun h => by omega, fun h => by omega⟩ ?_
    obtain ⟨ρ8, e_ρ8⟩ : ∃ zz_, zz_ = mu σ 31 0 ((22 * l) + 11) (V 7 l 6) := ⟨_, rfl⟩
    rw [← e_ρ8]
    have Sρ8 : SB t σ0 (mu V 7 l 15 (V 7 l 6)) ρ8 := by rw [e_ρ8, show ((22 * l) + 11) = 22 * l + 11 from by omega]; exact hR.1.p7 (by omega) (by omega) (by omega)
    have Kρ8 : KF t (mu V 7 l 15 (V 7 l 6)) ρ8 := by rw [e_ρ8]; exact (hR.2.1).e (fun l a b => ⟨mu_ne (by omega), mu_ne (by omega)⟩) |>.v (fun l => mu_ne (by omega))
    have Fρ8 : FB (mu V 7 l 15 (V 7 l 6)) ρ8 := by rw [e_ρ8]; exact (hR.2.2).e (fun l a b => mu_ne (by omega)) |>.v (fun l y a b c => mu_ne (by omega))
    refine y_vret hK rfl dX6_seeMost_27 ?_
    have e : (mu V 7 l 15 (max (V 7 l 15) (V 7 l 6))) = (mu V 7 l 15 (V 7 l 6)) := mu_eq (by omega)
    rw [e] at k
    exact k _ ⟨Sρ8, Kρ8, Fρ8⟩
theorem y_behindCall {eb : Bool} {t : Int} {V : Mm} {d : Nat} {P : Option Vl → Mm → Prop} {σ : Mm} {l : Int} (b_l : 0 ≤ l ∧ l ≤ 3) {σ0 : Mm} (ht : 6 ≤ t ∧ t ≤ 7) (hR : RS t σ0 V σ) (hk : -1 ≤ V 13 l 0 ∧ V 13 l 0 ≤ 3) (hkl : V 13 l 0 ≠ l) (hm : ∀ x : Int, 0 ≤ x → x ≤ 3 → x ≠ l → x ≠ V 13 l 0 → V 7 x 6 ≤ V 7 x 15)  (k : ∀ ρ : Mm, RS t σ0 (ntM V) ρ → P (some (vI (V 7 l 6))) ρ) : WT (true, eb, true) (d + 4) 196 [vR 30 0, vI l] σ P := by
  refine WT_in fun K hK => ?_
  have hK : StpY (true, eb, true) cX6_behindCall RX6 (some .int) (WT (true, eb, true) (d + 3)) P K := hK
  have hM := hK.1
  have hC := hK.1.1
  show K 0 [some (vR 30 0), some (vI l)] [] σ
  refine r_aload_n hC dX6_behindCall_0 rfl ?_
  refine r_iload_n hC dX6_behindCall_1 rfl ?_
  refine z_inv1 hM dX6_behindCall_2 vl_RX6_236 rfl rfl rfl (Nat.le_of_ble_eq_true rfl) (Nat.le_of_ble_eq_true rfl) ?_
  refine y_seeMost (V := V) (l := l) (by omega) ht ⟨hR.1, hR.2.1, hR.2.2⟩ (by omega) (fun ρ1 Rρ1 => ?_)
  refine r_aload_n hC dX6_behindCall_5 rfl ?_
  refine z_getR hM dX6_behindCall_6 fl_RX6_52 rfl rfl (vld_of (n := 1) rfl (by omega) (by omega)) ?_
  refine r_iload_n hC dX6_behindCall_9 rfl ?_
  refine z_iald hM dX6_behindCall_10 rfl (by omega) (by omega) (fun v2 h_v2 o_v2 t_v2 => ?_)
  have w_v2 := ((t_v2 (Or.inl (by simp [Tb]))).trans ((Rρ1.1.k0 (by omega) (by omega)).trans ((mu_ne (by omega)).trans (rfl)))).symm
  subst w_v2
  have q_v2 : -1 ≤ (V 13 l 0) ∧ (V 13 l 0) ≤ 3 := o_v2
  refine r_if_lt (tgt := 24) hC dX6_behindCall_11 rfl (fun h3 => ?_) (fun h3 => ?_)
  · refine r_aload_n hC dX6_behindCall_24 rfl ?_
    refine r_iload_n hC dX6_behindCall_25 rfl ?_
    refine z_inv1 hM dX6_behindCall_26 vl_RX6_116 rfl rfl rfl (Nat.le_of_ble_eq_true rfl) (Nat.le_of_ble_eq_true rfl) ?_
    refine y_heldOf (by omega) (fun o4 => ?_)
    have e5 : ρ1 31 0 (22 * l + 5) = (V 7 l 6) := (Rρ1.1.a7 (s := 6) (f := 5) (by omega) (by omega) (by omega)).trans ((mu_ne (by omega)).trans (rfl))
    rw [e5] at o4 ⊢
    have qo4 : 0 ≤ (V 7 l 6) ∧ (V 7 l 6) ≤ 121 := o4.1 (by omega)
    refine y_iret hK rfl dX6_behindCall_29 ?_
    have e : ntM V = (mu V 7 l 15 (max (V 7 l 15) (V 7 l 6))) := by
      funext c x y
      unfold ntM
      by_cases q : c = 7 ∧ (0 ≤ x ∧ x ≤ 3) ∧ y = 15
      · obtain ⟨rfl, q1, rfl⟩ := q
        rw [if_pos ⟨rfl, q1, rfl⟩]
        by_cases ex : x = l
        · subst ex
          rw [mu_self]
        · rw [mu_ne (by omega)]; have := hm x q1.1 q1.2 ex (by omega); omega
      · rw [if_neg q, mu_ne (by omega)]
    rw [e] at k
    rw [show V 7 l 6 = (V 7 l 6) from by omega] at k
    exact k _ ⟨Rρ1.1, Rρ1.2.1, Rρ1.2.2⟩
  · refine r_aload_n hC dX6_behindCall_14 rfl ?_
    refine r_aload_n hC dX6_behindCall_15 rfl ?_
    refine z_getR hM dX6_behindCall_16 fl_RX6_52 rfl rfl (vld_of (n := 1) rfl (by omega) (by omega)) ?_
    refine r_iload_n hC dX6_behindCall_19 rfl ?_
    refine z_iald hM dX6_behindCall_20 rfl (by omega) (by omega) (fun v6 h_v6 o_v6 t_v6 => ?_)
    have w_v6 := ((t_v6 (Or.inl (by simp [Tb]))).trans ((Rρ1.1.k0 (by omega) (by omega)).trans ((mu_ne (by omega)).trans (rfl)))).symm
    subst w_v6
    have q_v6 : -1 ≤ (V 13 l 0) ∧ (V 13 l 0) ≤ 3 := o_v6
    refine z_inv1 hM dX6_behindCall_21 vl_RX6_236 rfl rfl rfl (Nat.le_of_ble_eq_true rfl) (Nat.le_of_ble_eq_true rfl) ?_
    refine y_seeMost (V := (mu V 7 l 15 (max (V 7 l 15) (V 7 l 6)))) (l := (V 13 l 0)) (by omega) ht ⟨Rρ1.1, Rρ1.2.1, Rρ1.2.2⟩ (by omega) (fun ρ7 Rρ7 => ?_)
    refine r_aload_n hC dX6_behindCall_24 rfl ?_
    refine r_iload_n hC dX6_behindCall_25 rfl ?_
    refine z_inv1 hM dX6_behindCall_26 vl_RX6_116 rfl rfl rfl (Nat.le_of_ble_eq_true rfl) (Nat.le_of_ble_eq_true rfl) ?_
    refine y_heldOf (by omega) (fun o8 => ?_)
    have e9 : ρ7 31 0 (22 * l + 5) = (V 7 l 6) := (Rρ7.1.a7 (s := 6) (f := 5) (by omega) (by omega) (by omega)).trans ((mu_ne (by omega)).trans ((mu_ne (by omega)).trans (rfl)))
    rw [e9] at o8 ⊢
    have qo8 : 0 ≤ (V 7 l 6) ∧ (V 7 l 6) ≤ 121 := o8.1 (by omega)
    refine y_iret hK rfl dX6_behindCall_29 ?_
    have e : ntM V = (mu (mu V 7 l 15 (max (V 7 l 15) (V 7 l 6))) 7 (V 13 l 0) 15 (max ((mu V 7 l 15 (max (V 7 l 15) (V 7 l 6))) 7 (V 13 l 0) 15) ((mu V 7 l 15 (max (V 7 l 15) (V 7 l 6))) 7 (V 13 l 0) 6))) := by
      funext c x y
      unfold ntM
      by_cases q : c = 7 ∧ (0 ≤ x ∧ x ≤ 3) ∧ y = 15
      · obtain ⟨rfl, q1, rfl⟩ := q
        rw [if_pos ⟨rfl, q1, rfl⟩]
        by_cases ex : x = l
        · subst ex
          rw [mu_ne (by omega), mu_self]
        · by_cases eo : x = V 13 l 0
          · subst eo
            rw [mu_self, mu_ne (by omega), mu_ne (by omega)]
          · rw [mu_ne (by omega), mu_ne (by omega)]; have := hm x q1.1 q1.2 ex eo; omega
      · rw [if_neg q, mu_ne (by omega), mu_ne (by omega)]
    rw [e] at k
    rw [show V 7 l 6 = (V 7 l 6) from by omega] at k
    exact k _ ⟨Rρ7.1, Rρ7.2.1, Rρ7.2.2⟩
