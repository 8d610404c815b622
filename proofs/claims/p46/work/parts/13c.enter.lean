-- B: the reference: what enters
theorem ins_su1 {V : Mm} {l a t v : Int} (ha : 0 ≤ a ∧ a ≤ V 7 l 6) (h : V 7 l 10 < t) : mu (mu (mu (mu (mu (mu (mu (suM V l a (V 7 l 6)) 8 l a t) 9 l a v) 10 l a (V 7 l 12)) 7 l 6 (V 7 l 6 + 1)) 7 l 12 (wr (V 7 l 12 + 1))) 7 l 14 (V 7 l 6 - a)) 7 l 10 t = insM V l a t v := by
  rw [ins_su (z := 0) ha, show max (V 7 l 10) t = t from by omega]
theorem ins_su0 {V : Mm} {l a t v : Int} (ha : 0 ≤ a ∧ a ≤ V 7 l 6) (h : t ≤ V 7 l 10) : mu (mu (mu (mu (mu (mu (suM V l a (V 7 l 6)) 8 l a t) 9 l a v) 10 l a (V 7 l 12)) 7 l 6 (V 7 l 6 + 1)) 7 l 12 (wr (V 7 l 12 + 1))) 7 l 14 (V 7 l 6 - a) = insM V l a t v := by
  rw [ins_su (z := 0) ha, mu_same (a := max (V 7 l 10) t)]
  rw [mu_ne (by first | decide | exact xs_ (by decide) | exact xc_ (by decide) | omega), mu_ne (by first | decide | exact xs_ (by decide) | exact xc_ (by decide) | omega), mu_ne (by first | decide | exact xs_ (by decide) | exact xc_ (by decide) | omega), mu_ne (by first | decide | exact xs_ (by decide) | exact xc_ (by decide) | omega), mu_ne (by first | decide | exact xs_ (by decide) | exact xc_ (by decide) | omega), mu_ne (by first | decide | exact xs_ (by decide) | exact xc_ (by decide) | omega), suM_ne (by first | decide | exact xs_ (by decide) | exact xc_ (by decide) | omega)]
  omega
theorem ins_9 {V : Mm} {l a t v : Int} (ha : 0 ≤ a ∧ a ≤ V 7 l 6) (hv : -1000 ≤ v ∧ v ≤ 1000) (q : ∀ j : Int, 0 ≤ j → j ≤ 120 → -1000 ≤ V 9 l j ∧ V 9 l j ≤ 1000) (j : Int) (j0 : 0 ≤ j) (j1 : j ≤ 120) : -1000 ≤ insM V l a t v 9 l j ∧ insM V l a t v 9 l j ≤ 1000 := by
  rw [ins_su (z := 0) ha, mu_ne (by first | decide | exact xs_ (by decide) | exact xc_ (by decide) | omega), mu_ne (by first | decide | exact xs_ (by decide) | exact xc_ (by decide) | omega), mu_ne (by first | decide | exact xs_ (by decide) | exact xc_ (by decide) | omega), mu_ne (by first | decide | exact xs_ (by decide) | exact xc_ (by decide) | omega), mu_ne (by first | decide | exact xs_ (by decide) | exact xc_ (by decide) | omega)]
  by_cases e : j = a
  · subst e; rw [mu_self]; exact hv
  · rw [mu_ne (by first | decide | exact xs_ (by decide) | exact xc_ (by decide) | omega), mu_ne (by first | decide | exact xs_ (by decide) | exact xc_ (by decide) | omega)]
    exact su_9 q ha.1 j j0 j1
theorem LK_ins {V : Mm} {l a t v : Int} (h : LK V l) (ha : 0 ≤ a ∧ a ≤ V 7 l 6) (h6 : V 7 l 6 ≤ 120) (hv : -1000 ≤ v ∧ v ≤ 1000) : LK (insM V l a t v) l :=
  LK_6 h (by rw [insM_6]; omega) (ins_9 ha hv h.2.2.1) (fun c x y e => insM_ne (by first | decide | exact xs_ (by decide) | exact xc_ (by decide) | omega))
theorem rem_9 {V : Mm} {l : Int} (h1 : V 7 l 6 ≤ 121) (q : ∀ j : Int, 0 ≤ j → j ≤ 120 → -1000 ≤ V 9 l j ∧ V 9 l j ≤ 1000) (a j : Int) (j0 : 0 ≤ j) (j1 : j ≤ 120) : -1000 ≤ remM V l a 9 l j ∧ remM V l a 9 l j ≤ 1000 := by
  rw [rem_sd, mu_ne (by first | decide | exact xs_ (by decide) | exact xc_ (by decide) | omega)]
  exact sd_9 q (by first | decide | exact xs_ (by decide) | exact xc_ (by decide) | omega) j j0 j1
theorem LK_rem {V : Mm} {l a : Int} (h : LK V l) (h1 : 1 ≤ V 7 l 6) : LK (remM V l a) l :=
  LK_6 h (by rw [remM_6]; have := h.2.1; omega) (rem_9 h.2.1.2 h.2.2.1 a) (fun c x y e => remM_ne (by first | decide | exact xs_ (by decide) | exact xc_ (by decide) | omega))
theorem LK_dp {V : Mm} {l : Int} (h : LK V l) (h1 : 1 ≤ V 7 l 6) : LK (dpM V l) l := by
  unfold dpM
  exact LK.rg ((((LK_rem h h1).to (W := mu (remM V l 0) 7 l 13 (wr (V 7 l 13 + 1))) (fun c x y e => mu_ne (by first | decide | exact xs_ (by decide) | exact xc_ (by decide) | omega)))).to (fun c x y e => dfM_ne (by first | decide | exact xs_ (by decide) | exact xc_ (by decide) | omega)))
theorem LK_en {V : Mm} {l t v : Int} (h : LK V l) (h6 : V 7 l 6 ≤ 120) (hv : -1000 ≤ v ∧ v ≤ 1000) : LK (enM V l t v) l := by
  unfold enM
  have hb := hU_b (V := V) (i := l) (t := t) h.2.1.1
  split
  · exact LK.rg ((LK_ins h hb h6 hv).to (fun c x y e => adM_ne (by first | decide | exact xs_ (by decide) | exact xc_ (by decide) | omega)))
  · exact LK.rg ((LK_ins h hb h6 hv).to (fun c x y e => lyM_ne (by first | decide | exact xs_ (by decide) | exact xc_ (by decide) | omega)))
theorem FI_dp {V : Mm} {l : Int} (h : FI (V 11 l) (V 7 l 6)) (h1 : 1 ≤ V 7 l 6) : FI (dpM V l 11 l) (dpM V l 7 l 6) := by
  rw [dpM_6, show dpM V l 11 l = dfR (V 11 l) from funext fun y => by
    unfold dpM
    rw [rgM_ne (by first | decide | exact xs_ (by decide) | exact xc_ (by decide) | omega)]
    unfold dfM
    rw [su_at, show (mu (remM V l 0) 7 l 13 (wr (V 7 l 13 + 1))) 11 l = V 11 l from funext fun z => (mu_ne (by first | decide | exact xs_ (by decide) | exact xc_ (by decide) | omega)).trans (remM_ne (by first | decide | exact xs_ (by decide) | exact xc_ (by decide) | omega))]]
  exact FI_df h h1
theorem FI_en {V : Mm} {l t v : Int} (h : FI (V 11 l) (V 7 l 6)) (h0 : 0 ≤ V 7 l 6) : FI (enM V l t v 11 l) (enM V l t v 7 l 6) := by
  rw [enM_6]
  unfold enM
  rw [show ∀ X : Mm, rgM X l 11 l = X 11 l from fun X => funext fun y => rgM_ne (by first | decide | exact xs_ (by decide) | exact xc_ (by decide) | omega)]
  split
  · rw [show adM (insM V l (hU V l t) t v) l 11 l = adR (V 11 l) from funext fun y => by
      unfold adM
      rw [su_at, show (insM V l (hU V l t) t v) 11 l = V 11 l from funext fun z => insM_ne (by first | decide | exact xs_ (by decide) | exact xc_ (by decide) | omega)]]
    exact FI_ad h
  · rw [show lyM (insM V l (hU V l t) t v) l (V 7 l 6 + 1) 11 l = lyR (V 7 l 6 + 1) (V 11 l) from funext fun y => by
      unfold lyM
      rw [su_at, show (insM V l (hU V l t) t v) 11 l = V 11 l from funext fun z => insM_ne (by first | decide | exact xs_ (by decide) | exact xc_ (by decide) | omega)]]
    exact FI_ly (by first | decide | exact xs_ (by decide) | exact xc_ (by decide) | omega)
theorem y_isTooMany {eb : Bool} {t : Int} {V : Mm} {d : Nat} {P : Option Vl → Mm → Prop} {σ : Mm} {l : Int} (b_l : 0 ≤ l ∧ l ≤ 7) {σ0 : Mm} (ht : 6 ≤ t ∧ t ≤ 7) (hR : RS t σ0 V σ) (hl : l ≤ t)  (k1 : goV V l → P (some (vI 1)) σ) (k0 : ¬ goV V l → P (some (vI 0)) σ) : WT (true, eb, true) (d + 3) 193 [vR 30 0, vI l] σ P := by
  refine WT_in fun K hK => ?_
  have hK : StpY (true, eb, true) cX6_isTooMany RX6 (some .boolean) (WT (true, eb, true) (d + 2)) P K := hK
  have hM := hK.1
  have hC := hK.1.1
  show K 0 [some (vR 30 0), some (vI l)] [] σ
  refine r_aload_n hC dX6_isTooMany_0 rfl ?_
  refine r_iload_n hC dX6_isTooMany_1 rfl ?_
  refine r_iconst hC dX6_isTooMany_2 rfl ?_
  refine z_inv2 hM dX6_isTooMany_3 vl_RX6_80 rfl rfl rfl (Nat.le_of_ble_eq_true rfl) (Nat.le_of_ble_eq_true rfl) ?_
  refine y_of (by first | decide | exact xs_ (by decide) | exact xc_ (by decide) | omega) (by first | decide | exact xs_ (by decide) | exact xc_ (by decide) | omega) (by first | decide | exact xs_ (by decide) | exact xc_ (by decide) | omega) (fun o1 => ?_)
  have e2 : σ 31 0 (22 * l + 2) = (V 7 l 3) := (hR.1.a7 (s := 3) (f := 2) (by first | decide | exact xs_ (by decide) | exact xc_ (by decide) | omega) (by first | decide | exact xs_ (by decide) | exact xc_ (by decide) | omega) (by first | decide | exact xs_ (by decide) | exact xc_ (by decide) | omega)).trans (rfl)
  rw [e2] at o1 ⊢
  refine r_iconst hC dX6_isTooMany_6 rfl ?_
  refine r_icmp_ne (tgt := 30) hC dX6_isTooMany_7 rfl (fun h3 => ?_) (fun h3 => ?_)
  · refine r_aload_n hC dX6_isTooMany_30 rfl ?_
    refine r_iload_n hC dX6_isTooMany_31 rfl ?_
    refine r_iconst hC dX6_isTooMany_32 rfl ?_
    refine z_inv2 hM dX6_isTooMany_33 vl_RX6_80 rfl rfl rfl (Nat.le_of_ble_eq_true rfl) (Nat.le_of_ble_eq_true rfl) ?_
    refine y_of (by first | decide | exact xs_ (by decide) | exact xc_ (by decide) | omega) (by first | decide | exact xs_ (by decide) | exact xc_ (by decide) | omega) (by first | decide | exact xs_ (by decide) | exact xc_ (by decide) | omega) (fun o4 => ?_)
    have e5 : σ 31 0 (22 * l + 2) = (V 7 l 3) := (hR.1.a7 (s := 3) (f := 2) (by first | decide | exact xs_ (by decide) | exact xc_ (by decide) | omega) (by first | decide | exact xs_ (by decide) | exact xc_ (by decide) | omega) (by first | decide | exact xs_ (by decide) | exact xc_ (by decide) | omega)).trans (rfl)
    rw [e5] at o4 ⊢
    refine r_iconst hC dX6_isTooMany_36 rfl ?_
    refine r_icmp_ne (tgt := 78) hC dX6_isTooMany_37 rfl (fun h6 => ?_) (fun h6 => ?_)
    · refine r_iconst hC dX6_isTooMany_78 rfl ?_
      refine y_zret hK rfl dX6_isTooMany_79 (by first | decide | exact xs_ (by decide) | exact xc_ (by decide) | omega) ?_
      exact k0 (by unfold goV; omega)
    · refine r_aload_n hC dX6_isTooMany_40 rfl ?_
      refine r_iload_n hC dX6_isTooMany_41 rfl ?_
      refine z_inv1 hM dX6_isTooMany_42 vl_RX6_116 rfl rfl rfl (Nat.le_of_ble_eq_true rfl) (Nat.le_of_ble_eq_true rfl) ?_
      refine y_heldOf (by first | decide | exact xs_ (by decide) | exact xc_ (by decide) | omega) (fun o7 => ?_)
      have e8 : σ 31 0 (22 * l + 5) = (V 7 l 6) := (hR.1.a7 (s := 6) (f := 5) (by first | decide | exact xs_ (by decide) | exact xc_ (by decide) | omega) (by first | decide | exact xs_ (by decide) | exact xc_ (by decide) | omega) (by first | decide | exact xs_ (by decide) | exact xc_ (by decide) | omega)).trans (rfl)
      rw [e8] at o7 ⊢
      have qo7 : 0 ≤ (V 7 l 6) ∧ (V 7 l 6) ≤ 121 := o7.1 (by first | decide | exact xs_ (by decide) | exact xc_ (by decide) | omega)
      refine r_if_le (tgt := 78) hC dX6_isTooMany_45 rfl (fun h9 => ?_) (fun h9 => ?_)
      · refine r_iconst hC dX6_isTooMany_78 rfl ?_
        refine y_zret hK rfl dX6_isTooMany_79 (by first | decide | exact xs_ (by decide) | exact xc_ (by decide) | omega) ?_
        exact k0 (by unfold goV; omega)
      · refine r_aload_n hC dX6_isTooMany_48 rfl ?_
        refine z_getR hM dX6_isTooMany_49 fl_RX6_13 rfl rfl (vld_of (n := 1) rfl (by first | decide | exact xs_ (by decide) | exact xc_ (by decide) | omega) (by first | decide | exact xs_ (by decide) | exact xc_ (by decide) | omega)) ?_
        refine r_bipush hC dX6_isTooMany_52 rfl ?_
        refine r_iload_n hC dX6_isTooMany_54 rfl ?_
        refine r_imulE hC ((121 * l)) dX6_isTooMany_55 (by first | decide | exact xs_ (by decide) | exact xc_ (by decide) | omega) (by unfold inR; omega) ?_
        refine z_iald hM dX6_isTooMany_56 rfl (by first | decide | exact xs_ (by decide) | exact xc_ (by decide) | omega) (by first | decide | exact xs_ (by decide) | exact xc_ (by decide) | omega) (fun v10 h_v10 o_v10 t_v10 => ?_)
        have w_v10 := ((t_v10 (Or.inl trivial)).trans ((show σ 32 0 (121 * l) = V 8 l 0 from by rw [show (121 * l) = 121 * l + 0 from by omega]; exact hR.1.a8 (y := 0) (by first | decide | exact xs_ (by decide) | exact xc_ (by decide) | omega) (by first | decide | exact xs_ (by decide) | exact xc_ (by decide) | omega) (by first | decide | exact xs_ (by decide) | exact xc_ (by decide) | omega) (by first | decide | exact xs_ (by decide) | exact xc_ (by decide) | omega)).trans (rfl))).symm
        clear t_v10
        subst w_v10
        refine r_aload_n hC dX6_isTooMany_57 rfl ?_
        refine r_iload_n hC dX6_isTooMany_58 rfl ?_
        refine r_bipush hC dX6_isTooMany_59 rfl ?_
        refine z_inv2 hM dX6_isTooMany_61 vl_RX6_80 rfl rfl rfl (Nat.le_of_ble_eq_true rfl) (Nat.le_of_ble_eq_true rfl) ?_
        refine y_of (by first | decide | exact xs_ (by decide) | exact xc_ (by decide) | omega) (by first | decide | exact xs_ (by decide) | exact xc_ (by decide) | omega) (by first | decide | exact xs_ (by decide) | exact xc_ (by decide) | omega) (fun o11 => ?_)
        have e12 : σ 31 0 (22 * l + 6) = (V 7 l 10) := (hR.1.a7 (s := 10) (f := 6) (by first | decide | exact xs_ (by decide) | exact xc_ (by decide) | omega) (by first | decide | exact xs_ (by decide) | exact xc_ (by decide) | omega) (by first | decide | exact xs_ (by decide) | exact xc_ (by decide) | omega)).trans (rfl)
        rw [e12] at o11 ⊢
        refine r_aload_n hC dX6_isTooMany_64 rfl ?_
        refine r_iload_n hC dX6_isTooMany_65 rfl ?_
        refine r_iconst hC dX6_isTooMany_66 rfl ?_
        refine z_inv2 hM dX6_isTooMany_67 vl_RX6_80 rfl rfl rfl (Nat.le_of_ble_eq_true rfl) (Nat.le_of_ble_eq_true rfl) ?_
        refine y_of (by first | decide | exact xs_ (by decide) | exact xc_ (by decide) | omega) (by first | decide | exact xs_ (by decide) | exact xc_ (by decide) | omega) (by first | decide | exact xs_ (by decide) | exact xc_ (by decide) | omega) (fun o13 => ?_)
        have e14 : σ 31 0 (22 * l + 3) = (V 7 l 4) := (hR.1.a7 (s := 4) (f := 3) (by first | decide | exact xs_ (by decide) | exact xc_ (by decide) | omega) (by first | decide | exact xs_ (by decide) | exact xc_ (by decide) | omega) (by first | decide | exact xs_ (by decide) | exact xc_ (by decide) | omega)).trans (rfl)
        rw [e14] at o13 ⊢
        refine r_isub hC dX6_isTooMany_70 ?_
        have f15 := inR_le (inR_wr ((V 7 l 10) - (V 7 l 4)))
        refine r_icmp_gt (tgt := 78) hC dX6_isTooMany_71 rfl (fun h16 => ?_) (fun h16 => ?_)
        · refine r_iconst hC dX6_isTooMany_78 rfl ?_
          refine y_zret hK rfl dX6_isTooMany_79 (by first | decide | exact xs_ (by decide) | exact xc_ (by decide) | omega) ?_
          exact k0 (by unfold goV; omega)
        · refine r_iconst hC dX6_isTooMany_74 rfl ?_
          refine r_goto (tgt := 79) hC dX6_isTooMany_75 rfl ?_
          refine y_zret hK rfl dX6_isTooMany_79 (by first | decide | exact xs_ (by decide) | exact xc_ (by decide) | omega) ?_
          exact k1 (by unfold goV; omega)
  · refine r_aload_n hC dX6_isTooMany_10 rfl ?_
    refine r_iload_n hC dX6_isTooMany_11 rfl ?_
    refine z_inv1 hM dX6_isTooMany_12 vl_RX6_116 rfl rfl rfl (Nat.le_of_ble_eq_true rfl) (Nat.le_of_ble_eq_true rfl) ?_
    refine y_heldOf (by first | decide | exact xs_ (by decide) | exact xc_ (by decide) | omega) (fun o17 => ?_)
    have e18 : σ 31 0 (22 * l + 5) = (V 7 l 6) := (hR.1.a7 (s := 6) (f := 5) (by first | decide | exact xs_ (by decide) | exact xc_ (by decide) | omega) (by first | decide | exact xs_ (by decide) | exact xc_ (by decide) | omega) (by first | decide | exact xs_ (by decide) | exact xc_ (by decide) | omega)).trans (rfl)
    rw [e18] at o17 ⊢
    have qo17 : 0 ≤ (V 7 l 6) ∧ (V 7 l 6) ≤ 121 := o17.1 (by first | decide | exact xs_ (by decide) | exact xc_ (by decide) | omega)
    refine r_aload_n hC dX6_isTooMany_15 rfl ?_
    refine r_iload_n hC dX6_isTooMany_16 rfl ?_
    refine r_iconst hC dX6_isTooMany_17 rfl ?_
    refine z_inv2 hM dX6_isTooMany_18 vl_RX6_80 rfl rfl rfl (Nat.le_of_ble_eq_true rfl) (Nat.le_of_ble_eq_true rfl) ?_
    refine y_of (by first | decide | exact xs_ (by decide) | exact xc_ (by decide) | omega) (by first | decide | exact xs_ (by decide) | exact xc_ (by decide) | omega) (by first | decide | exact xs_ (by decide) | exact xc_ (by decide) | omega) (fun o19 => ?_)
    have e20 : σ 31 0 (22 * l + 3) = (V 7 l 4) := (hR.1.a7 (s := 4) (f := 3) (by first | decide | exact xs_ (by decide) | exact xc_ (by decide) | omega) (by first | decide | exact xs_ (by decide) | exact xc_ (by decide) | omega) (by first | decide | exact xs_ (by decide) | exact xc_ (by decide) | omega)).trans (rfl)
    rw [e20] at o19 ⊢
    refine r_icmp_le (tgt := 28) hC dX6_isTooMany_21 rfl (fun h21 => ?_) (fun h21 => ?_)
    · refine r_iconst hC dX6_isTooMany_28 rfl ?_
      refine y_zret hK rfl dX6_isTooMany_29 (by first | decide | exact xs_ (by decide) | exact xc_ (by decide) | omega) ?_
      exact k0 (by unfold goV; omega)
    · refine r_iconst hC dX6_isTooMany_24 rfl ?_
      refine r_goto (tgt := 29) hC dX6_isTooMany_25 rfl ?_
      refine y_zret hK rfl dX6_isTooMany_29 (by first | decide | exact xs_ (by decide) | exact xc_ (by decide) | omega) ?_
      exact k1 (by unfold goV; omega)
theorem y_enter {eb : Bool} {t : Int} {V : Mm} {d : Nat} {P : Option Vl → Mm → Prop} {σ : Mm} {l z v : Int} (b_l : 0 ≤ l ∧ l ≤ 7) (b_z : -2147483648 ≤ z ∧ z ≤ 2147483647) (b_v : -1000 ≤ v ∧ v ≤ 1000) {σ0 : Mm} (ht : 6 ≤ t ∧ t ≤ 7) (hR : RS t σ0 V σ) (hl : l ≤ t) (hL : LK V l) (hF : FI (V 11 l) (V 7 l 6)) (hSo : So (V 8 l) (V 7 l 6)) (hz6 : V 7 l 6 ≤ 120) (hsz : V 7 l 3 = 1 → 0 ≤ V 7 l 4)  (k : ∀ ρ : Mm, RS t σ0 (plM V l z v) ρ → P none ρ) : WT (true, eb, true) (d + 9) 194 [vR 30 0, vI l, vI z, vI v] σ P := by
  refine WT_in fun K hK => ?_
  have hK : StpY (true, eb, true) cX6_enter RX6 (none) (WT (true, eb, true) (d + 8)) P K := hK
  have hM := hK.1
  have hC := hK.1.1
  show K 0 [some (vR 30 0), some (vI l), some (vI z), some (vI v), none, none, none] [] σ
  have hop := hL.1
  have h6 := hL.2.1
  have hB := FIK hF (by first | decide | exact xs_ (by decide) | exact xc_ (by decide) | omega)
  have hFI := hF
  unfold FI at hFI
  refine r_aload_n hC dX6_enter_0 rfl ?_
  refine r_iload_n hC dX6_enter_1 rfl ?_
  refine r_iload_n hC dX6_enter_2 rfl ?_
  refine z_inv2 hM dX6_enter_3 vl_RX6_224 rfl rfl rfl (Nat.le_of_ble_eq_true rfl) (Nat.le_of_ble_eq_true rfl) ?_
  refine y_placeOf (by first | decide | exact xs_ (by decide) | exact xc_ (by decide) | omega) ht ⟨hR.1, hR.2.1, hR.2.2⟩ (by first | decide | exact xs_ (by decide) | exact xc_ (by decide) | omega) hSo (by first | decide | exact xs_ (by decide) | exact xc_ (by decide) | omega) (fun h1 => ?_)
  refine r_istore hC dX6_enter_6 rfl ?_
  refine r_aload_n hC dX6_enter_8 rfl ?_
  refine r_iload_n hC dX6_enter_9 rfl ?_
  refine z_inv1 hM dX6_enter_10 vl_RX6_116 rfl rfl rfl (Nat.le_of_ble_eq_true rfl) (Nat.le_of_ble_eq_true rfl) ?_
  refine y_heldOf (by first | decide | exact xs_ (by decide) | exact xc_ (by decide) | omega) (fun o2 => ?_)
  have e3 : σ 31 0 (22 * l + 5) = (V 7 l 6) := (hR.1.a7 (s := 6) (f := 5) (by first | decide | exact xs_ (by decide) | exact xc_ (by decide) | omega) (by first | decide | exact xs_ (by decide) | exact xc_ (by decide) | omega) (by first | decide | exact xs_ (by decide) | exact xc_ (by decide) | omega)).trans (rfl)
  rw [e3] at o2 ⊢
  have qo2 : 0 ≤ (V 7 l 6) ∧ (V 7 l 6) ≤ 121 := o2.1 (by first | decide | exact xs_ (by decide) | exact xc_ (by decide) | omega)
  refine r_iload hC dX6_enter_13 rfl ?_
  refine r_isubE hC (((V 7 l 6) - (hU V l z))) dX6_enter_15 (by first | decide | exact xs_ (by decide) | exact xc_ (by decide) | omega) (by unfold inR; omega) ?_
  refine r_istore hC dX6_enter_16 rfl ?_
  refine r_aload_n hC dX6_enter_18 rfl ?_
  refine r_iload_n hC dX6_enter_19 rfl ?_
  refine r_iload hC dX6_enter_20 rfl ?_
  refine r_iconst hC dX6_enter_22 rfl ?_
  refine z_inv3 hM dX6_enter_23 vl_RX6_217 rfl rfl rfl (Nat.le_of_ble_eq_true rfl) (Nat.le_of_ble_eq_true rfl) ?_
  refine y_shiftUp (V := V) (by first | decide | exact xs_ (by decide) | exact xc_ (by decide) | omega) (by first | decide | exact xs_ (by decide) | exact xc_ (by decide) | omega) ht ⟨hR.1, hR.2.1, hR.2.2⟩ (by first | decide | exact xs_ (by decide) | exact xc_ (by decide) | omega) (by first | decide | exact xs_ (by decide) | exact xc_ (by decide) | omega) (by first | decide | exact xs_ (by decide) | exact xc_ (by decide) | omega) (fun ρ4 Rρ4 => ?_)
  have k16 : ρ4 31 0 (22 * l + 16) = (if V 11 l 3 = 0 then 0 else 1) := ((Rρ4.2.1 l (by first | decide | exact xs_ (by decide) | exact xc_ (by decide) | omega) (by first | decide | exact xs_ (by decide) | exact xc_ (by decide) | omega)).1).trans (by rw [suM_ne (by first | decide | exact xs_ (by decide) | exact xc_ (by decide) | omega)])
  have k17 : ρ4 31 0 (22 * l + 17) = 0 := (Rρ4.2.1 l (by first | decide | exact xs_ (by decide) | exact xc_ (by decide) | omega) (by first | decide | exact xs_ (by decide) | exact xc_ (by decide) | omega)).2
  have kxx : KX t l (suM V l (hU V l z) (V 7 l 6)) ρ4 := (Rρ4.2.1).kx l
  obtain ⟨fl, hfl⟩ : ∃ fl : Int, fl = (if V 11 l 3 = 0 then 0 else 1) := ⟨_, rfl⟩
  rw [← hfl] at k16
  have hfl2 : (fl = 0 ∧ V 11 l 3 = 0) ∨ (fl = 1 ∧ V 11 l 3 ≠ 0) := by rw [hfl]; split <;> omega
  refine r_aload_n hC dX6_enter_26 rfl ?_
  refine z_getR hM dX6_enter_27 fl_RX6_13 rfl rfl (vld_of (n := 1) rfl (by first | decide | exact xs_ (by decide) | exact xc_ (by decide) | omega) (by first | decide | exact xs_ (by decide) | exact xc_ (by decide) | omega)) ?_
  refine r_bipush hC dX6_enter_30 rfl ?_
  refine r_iload_n hC dX6_enter_32 rfl ?_
  refine r_imulE hC ((121 * l)) dX6_enter_33 (by first | decide | exact xs_ (by decide) | exact xc_ (by decide) | omega) (by unfold inR; omega) ?_
  refine r_iload hC dX6_enter_34 rfl ?_
  refine r_iaddE hC (((121 * l) + (hU V l z))) dX6_enter_36 (by first | decide | exact xs_ (by decide) | exact xc_ (by decide) | omega) (by unfold inR; omega) ?_
  refine r_iload_n hC dX6_enter_37 rfl ?_
  refine z_iastT hM dX6_enter_38 rfl (by first | decide | exact xs_ (by decide) | exact xc_ (by decide) | omega) (by first | decide | exact xs_ (by decide) | exact xc_ (by decide) | omega) ⟨Or.inr (by simp [DL]), Or.inr (by simp [DF])⟩ (by first | trivial | (simp only [Okv]; omega) | (simp [Okv]; try omega)) ?_
  obtain ⟨ρ5, e_ρ5⟩ : ∃ zz_, zz_ = mu ρ4 32 0 ((121 * l) + (hU V l z)) z := ⟨_, rfl⟩
  rw [← e_ρ5]
  have Sρ5 : SB t σ0 (mu (suM V l (hU V l z) (V 7 l 6)) 8 l (hU V l z) z) ρ5 := by rw [e_ρ5, show ((121 * l) + (hU V l z)) = 121 * l + (hU V l z) from by omega]; exact Rρ4.1.p8 (by first | decide | exact xs_ (by decide) | exact xc_ (by decide) | omega) (by first | decide | exact xs_ (by decide) | exact xc_ (by decide) | omega) (by first | decide | exact xs_ (by decide) | exact xc_ (by decide) | omega) (by first | decide | exact xs_ (by decide) | exact xc_ (by decide) | omega)
  have r16_ρ5 : ρ5 31 0 (22 * l + 16) = fl := by rw [e_ρ5]; exact (mu_ne (by first | decide | exact xs_ (by decide) | exact xc_ (by decide) | omega)).trans k16
  have r17_ρ5 : ρ5 31 0 (22 * l + 17) = 0 := by rw [e_ρ5]; exact (mu_ne (by first | decide | exact xs_ (by decide) | exact xc_ (by decide) | omega)).trans k17
  have Xρ5 : KX t l (mu (suM V l (hU V l z) (V 7 l 6)) 8 l (hU V l z) z) ρ5 := (kxx).e (fun m a b c => by rw [e_ρ5]; exact ⟨mu_ne (by first | decide | exact xs_ (by decide) | exact xc_ (by decide) | omega), mu_ne (by first | decide | exact xs_ (by decide) | exact xc_ (by decide) | omega)⟩) (fun m c => mu_ne (by first | decide | exact xs_ (by decide) | exact xc_ (by decide) | omega))
  have Fρ5 : FB (mu (suM V l (hU V l z) (V 7 l 6)) 8 l (hU V l z) z) ρ5 := by rw [e_ρ5]; exact (Rρ4.2.2).e (fun l a b => mu_ne (by first | decide | exact xs_ (by decide) | exact xc_ (by decide) | omega)) |>.v (fun l y a b c => mu_ne (by first | decide | exact xs_ (by decide) | exact xc_ (by decide) | omega))
  clear Rρ4 e_ρ5
  refine r_aload_n hC dX6_enter_39 rfl ?_
  refine z_getR hM dX6_enter_40 fl_RX6_16 rfl rfl (vld_of (n := 1) rfl (by first | decide | exact xs_ (by decide) | exact xc_ (by decide) | omega) (by first | decide | exact xs_ (by decide) | exact xc_ (by decide) | omega)) ?_
  refine r_bipush hC dX6_enter_43 rfl ?_
  refine r_iload_n hC dX6_enter_45 rfl ?_
  refine r_imulE hC ((121 * l)) dX6_enter_46 (by first | decide | exact xs_ (by decide) | exact xc_ (by decide) | omega) (by unfold inR; omega) ?_
  refine r_iload hC dX6_enter_47 rfl ?_
  refine r_iaddE hC (((121 * l) + (hU V l z))) dX6_enter_49 (by first | decide | exact xs_ (by decide) | exact xc_ (by decide) | omega) (by unfold inR; omega) ?_
  refine r_iload_n hC dX6_enter_50 rfl ?_
  refine z_iastT hM dX6_enter_51 rfl (by first | decide | exact xs_ (by decide) | exact xc_ (by decide) | omega) (by first | decide | exact xs_ (by decide) | exact xc_ (by decide) | omega) ⟨Or.inr (by simp [DL]), Or.inr (by simp [DF])⟩ (by first | trivial | (simp only [Okv]; omega) | (simp [Okv]; try omega)) ?_
  obtain ⟨ρ6, e_ρ6⟩ : ∃ zz_, zz_ = mu ρ5 33 0 ((121 * l) + (hU V l z)) v := ⟨_, rfl⟩
  rw [← e_ρ6]
  have Sρ6 : SB t σ0 (mu (mu (suM V l (hU V l z) (V 7 l 6)) 8 l (hU V l z) z) 9 l (hU V l z) v) ρ6 := by rw [e_ρ6, show ((121 * l) + (hU V l z)) = 121 * l + (hU V l z) from by omega]; exact Sρ5.p9 (by first | decide | exact xs_ (by decide) | exact xc_ (by decide) | omega) (by first | decide | exact xs_ (by decide) | exact xc_ (by decide) | omega) (by first | decide | exact xs_ (by decide) | exact xc_ (by decide) | omega) (by first | decide | exact xs_ (by decide) | exact xc_ (by decide) | omega)
  clear Sρ5
  have r16_ρ6 : ρ6 31 0 (22 * l + 16) = fl := by rw [e_ρ6]; exact (mu_ne (by first | decide | exact xs_ (by decide) | exact xc_ (by decide) | omega)).trans r16_ρ5
  clear r16_ρ5
  have r17_ρ6 : ρ6 31 0 (22 * l + 17) = 0 := by rw [e_ρ6]; exact (mu_ne (by first | decide | exact xs_ (by decide) | exact xc_ (by decide) | omega)).trans r17_ρ5
  clear r17_ρ5
  have Xρ6 : KX t l (mu (mu (suM V l (hU V l z) (V 7 l 6)) 8 l (hU V l z) z) 9 l (hU V l z) v) ρ6 := (Xρ5).e (fun m a b c => by rw [e_ρ6]; exact ⟨mu_ne (by first | decide | exact xs_ (by decide) | exact xc_ (by decide) | omega), mu_ne (by first | decide | exact xs_ (by decide) | exact xc_ (by decide) | omega)⟩) (fun m c => mu_ne (by first | decide | exact xs_ (by decide) | exact xc_ (by decide) | omega))
  clear Xρ5
  have Fρ6 : FB (mu (mu (suM V l (hU V l z) (V 7 l 6)) 8 l (hU V l z) z) 9 l (hU V l z) v) ρ6 := by rw [e_ρ6]; exact (Fρ5).e (fun l a b => mu_ne (by first | decide | exact xs_ (by decide) | exact xc_ (by decide) | omega)) |>.v (fun l y a b c => mu_ne (by first | decide | exact xs_ (by decide) | exact xc_ (by decide) | omega))
  clear Fρ5 e_ρ6
  refine r_aload_n hC dX6_enter_52 rfl ?_
  refine z_getR hM dX6_enter_53 fl_RX6_19 rfl rfl (vld_of (n := 1) rfl (by first | decide | exact xs_ (by decide) | exact xc_ (by decide) | omega) (by first | decide | exact xs_ (by decide) | exact xc_ (by decide) | omega)) ?_
  refine r_bipush hC dX6_enter_56 rfl ?_
  refine r_iload_n hC dX6_enter_58 rfl ?_
  refine r_imulE hC ((121 * l)) dX6_enter_59 (by first | decide | exact xs_ (by decide) | exact xc_ (by decide) | omega) (by unfold inR; omega) ?_
  refine r_iload hC dX6_enter_60 rfl ?_
  refine r_iaddE hC (((121 * l) + (hU V l z))) dX6_enter_62 (by first | decide | exact xs_ (by decide) | exact xc_ (by decide) | omega) (by unfold inR; omega) ?_
  refine r_aload_n hC dX6_enter_63 rfl ?_
  refine r_iload_n hC dX6_enter_64 rfl ?_
  refine r_bipush hC dX6_enter_65 rfl ?_
  refine z_inv2 hM dX6_enter_67 vl_RX6_80 rfl rfl rfl (Nat.le_of_ble_eq_true rfl) (Nat.le_of_ble_eq_true rfl) ?_
  refine y_of (by first | decide | exact xs_ (by decide) | exact xc_ (by decide) | omega) (by first | decide | exact xs_ (by decide) | exact xc_ (by decide) | omega) (by first | decide | exact xs_ (by decide) | exact xc_ (by decide) | omega) (fun o7 => ?_)
  have e8 : ρ6 31 0 (22 * l + 8) = (V 7 l 12) := (Sρ6.a7 (s := 12) (f := 8) (by first | decide | exact xs_ (by decide) | exact xc_ (by decide) | omega) (by first | decide | exact xs_ (by decide) | exact xc_ (by decide) | omega) (by first | decide | exact xs_ (by decide) | exact xc_ (by decide) | omega)).trans ((mu_ne (by first | decide | exact xs_ (by decide) | exact xc_ (by decide) | omega)).trans ((mu_ne (by first | decide | exact xs_ (by decide) | exact xc_ (by decide) | omega)).trans ((suM_ne (by first | decide | exact xs_ (by decide) | exact xc_ (by decide) | omega)).trans (rfl))))
  rw [e8] at o7 ⊢
  refine z_iastT hM dX6_enter_70 rfl (by first | decide | exact xs_ (by decide) | exact xc_ (by decide) | omega) (by first | decide | exact xs_ (by decide) | exact xc_ (by decide) | omega) ⟨Or.inr (by simp [DL]), Or.inr (by simp [DF])⟩ (by first | trivial | (simp only [Okv]; omega) | (simp [Okv]; try omega)) ?_
  obtain ⟨ρ9, e_ρ9⟩ : ∃ zz_, zz_ = mu ρ6 34 0 ((121 * l) + (hU V l z)) (V 7 l 12) := ⟨_, rfl⟩
  rw [← e_ρ9]
  have Sρ9 : SB t σ0 (mu (mu (mu (suM V l (hU V l z) (V 7 l 6)) 8 l (hU V l z) z) 9 l (hU V l z) v) 10 l (hU V l z) (V 7 l 12)) ρ9 := by rw [e_ρ9, show ((121 * l) + (hU V l z)) = 121 * l + (hU V l z) from by omega]; exact Sρ6.p10 (by first | decide | exact xs_ (by decide) | exact xc_ (by decide) | omega) (by first | decide | exact xs_ (by decide) | exact xc_ (by decide) | omega) (by first | decide | exact xs_ (by decide) | exact xc_ (by decide) | omega) (by first | decide | exact xs_ (by decide) | exact xc_ (by decide) | omega)
  clear Sρ6
  have r16_ρ9 : ρ9 31 0 (22 * l + 16) = fl := by rw [e_ρ9]; exact (mu_ne (by first | decide | exact xs_ (by decide) | exact xc_ (by decide) | omega)).trans r16_ρ6
  clear r16_ρ6
  have r17_ρ9 : ρ9 31 0 (22 * l + 17) = 0 := by rw [e_ρ9]; exact (mu_ne (by first | decide | exact xs_ (by decide) | exact xc_ (by decide) | omega)).trans r17_ρ6
  clear r17_ρ6
  have Xρ9 : KX t l (mu (mu (mu (suM V l (hU V l z) (V 7 l 6)) 8 l (hU V l z) z) 9 l (hU V l z) v) 10 l (hU V l z) (V 7 l 12)) ρ9 := (Xρ6).e (fun m a b c => by rw [e_ρ9]; exact ⟨mu_ne (by first | decide | exact xs_ (by decide) | exact xc_ (by decide) | omega), mu_ne (by first | decide | exact xs_ (by decide) | exact xc_ (by decide) | omega)⟩) (fun m c => mu_ne (by first | decide | exact xs_ (by decide) | exact xc_ (by decide) | omega))
  clear Xρ6
  have Fρ9 : FB (mu (mu (mu (suM V l (hU V l z) (V 7 l 6)) 8 l (hU V l z) z) 9 l (hU V l z) v) 10 l (hU V l z) (V 7 l 12)) ρ9 := by rw [e_ρ9]; exact (Fρ6).e (fun l a b => mu_ne (by first | decide | exact xs_ (by decide) | exact xc_ (by decide) | omega)) |>.v (fun l y a b c => mu_ne (by first | decide | exact xs_ (by decide) | exact xc_ (by decide) | omega))
  clear Fρ6 e_ρ9
  refine r_aload_n hC dX6_enter_71 rfl ?_
  refine r_iload_n hC dX6_enter_72 rfl ?_
  refine r_iconst hC dX6_enter_73 rfl ?_
  refine r_iconst hC dX6_enter_74 rfl ?_
  refine z_inv3 hM dX6_enter_75 vl_RX6_188 rfl rfl rfl (Nat.le_of_ble_eq_true rfl) (Nat.le_of_ble_eq_true rfl) ?_
  refine y_moreE (a := (V 7 l 6)) (by first | decide | exact xs_ (by decide) | exact xc_ (by decide) | omega) (by first | decide | exact xs_ (by decide) | exact xc_ (by decide) | omega) (by first | decide | exact xs_ (by decide) | exact xc_ (by decide) | omega) ⟨fun h => by omega, by omega⟩ ((Sρ9.a7 (s := 6) (f := 5) (by first | decide | exact xs_ (by decide) | exact xc_ (by decide) | omega) (by first | decide | exact xs_ (by decide) | exact xc_ (by decide) | omega) (by first | decide | exact xs_ (by decide) | exact xc_ (by decide) | omega)).trans ((mu_ne (by first | decide | exact xs_ (by decide) | exact xc_ (by decide) | omega)).trans ((mu_ne (by first | decide | exact xs_ (by decide) | exact xc_ (by decide) | omega)).trans ((mu_ne (by first | decide | exact xs_ (by decide) | exact xc_ (by decide) | omega)).trans ((suM_ne (by first | decide | exact xs_ (by decide) | exact xc_ (by decide) | omega)).trans (rfl)))))) (by first | decide | exact xs_ (by decide) | exact xc_ (by decide) | omega) ?_
  rw [show (V 7 l 6) + 1 = ((V 7 l 6) + 1) from by omega]
  obtain ⟨ρ10, e_ρ10⟩ : ∃ zz_, zz_ = mu ρ9 31 0 ((22 * l) + 5) ((V 7 l 6) + 1) := ⟨_, rfl⟩
  rw [← e_ρ10]
  have Sρ10 : SB t σ0 (mu (mu (mu (mu (suM V l (hU V l z) (V 7 l 6)) 8 l (hU V l z) z) 9 l (hU V l z) v) 10 l (hU V l z) (V 7 l 12)) 7 l 6 ((V 7 l 6) + 1)) ρ10 := by rw [e_ρ10, show ((22 * l) + 5) = 22 * l + 5 from by omega]; exact Sρ9.p7 (by first | decide | exact xs_ (by decide) | exact xc_ (by decide) | omega) (by first | decide | exact xs_ (by decide) | exact xc_ (by decide) | omega) (by first | decide | exact xs_ (by decide) | exact xc_ (by decide) | omega)
  clear Sρ9
  have r16_ρ10 : ρ10 31 0 (22 * l + 16) = fl := by rw [e_ρ10]; exact (mu_ne (by first | decide | exact xs_ (by decide) | exact xc_ (by decide) | omega)).trans r16_ρ9
  clear r16_ρ9
  have r17_ρ10 : ρ10 31 0 (22 * l + 17) = 0 := by rw [e_ρ10]; exact (mu_ne (by first | decide | exact xs_ (by decide) | exact xc_ (by decide) | omega)).trans r17_ρ9
  clear r17_ρ9
  have Xρ10 : KX t l (mu (mu (mu (mu (suM V l (hU V l z) (V 7 l 6)) 8 l (hU V l z) z) 9 l (hU V l z) v) 10 l (hU V l z) (V 7 l 12)) 7 l 6 ((V 7 l 6) + 1)) ρ10 := (Xρ9).e (fun m a b c => by rw [e_ρ10]; exact ⟨mu_ne (by first | decide | exact xs_ (by decide) | exact xc_ (by decide) | omega), mu_ne (by first | decide | exact xs_ (by decide) | exact xc_ (by decide) | omega)⟩) (fun m c => mu_ne (by first | decide | exact xs_ (by decide) | exact xc_ (by decide) | omega))
  clear Xρ9
  have Fρ10 : FB (mu (mu (mu (mu (suM V l (hU V l z) (V 7 l 6)) 8 l (hU V l z) z) 9 l (hU V l z) v) 10 l (hU V l z) (V 7 l 12)) 7 l 6 ((V 7 l 6) + 1)) ρ10 := by rw [e_ρ10]; exact (Fρ9).e (fun l a b => mu_ne (by first | decide | exact xs_ (by decide) | exact xc_ (by decide) | omega)) |>.v (fun l y a b c => mu_ne (by first | decide | exact xs_ (by decide) | exact xc_ (by decide) | omega))
  clear Fρ9 e_ρ10
  refine r_aload_n hC dX6_enter_78 rfl ?_
  refine r_iload_n hC dX6_enter_79 rfl ?_
  refine r_bipush hC dX6_enter_80 rfl ?_
  refine r_iconst hC dX6_enter_82 rfl ?_
  refine z_inv3 hM dX6_enter_83 vl_RX6_188 rfl rfl rfl (Nat.le_of_ble_eq_true rfl) (Nat.le_of_ble_eq_true rfl) ?_
  refine y_moreW (a := (V 7 l 12)) (by first | decide | exact xs_ (by decide) | exact xc_ (by decide) | omega) (by first | decide | exact xs_ (by decide) | exact xc_ (by decide) | omega) ⟨fun h => by omega, by omega⟩ ((Sρ10.a7 (s := 12) (f := 8) (by first | decide | exact xs_ (by decide) | exact xc_ (by decide) | omega) (by first | decide | exact xs_ (by decide) | exact xc_ (by decide) | omega) (by first | decide | exact xs_ (by decide) | exact xc_ (by decide) | omega)).trans ((mu_ne (by first | decide | exact xs_ (by decide) | exact xc_ (by decide) | omega)).trans ((mu_ne (by first | decide | exact xs_ (by decide) | exact xc_ (by decide) | omega)).trans ((mu_ne (by first | decide | exact xs_ (by decide) | exact xc_ (by decide) | omega)).trans ((mu_ne (by first | decide | exact xs_ (by decide) | exact xc_ (by decide) | omega)).trans ((suM_ne (by first | decide | exact xs_ (by decide) | exact xc_ (by decide) | omega)).trans (rfl))))))) (by first | decide | exact xs_ (by decide) | exact xc_ (by decide) | omega) ?_
  obtain ⟨ρ11, e_ρ11⟩ : ∃ zz_, zz_ = mu ρ10 31 0 ((22 * l) + 8) (wr ((V 7 l 12) + 1)) := ⟨_, rfl⟩
  rw [← e_ρ11]
  have Sρ11 : SB t σ0 (mu (mu (mu (mu (mu (suM V l (hU V l z) (V 7 l 6)) 8 l (hU V l z) z) 9 l (hU V l z) v) 10 l (hU V l z) (V 7 l 12)) 7 l 6 ((V 7 l 6) + 1)) 7 l 12 (wr ((V 7 l 12) + 1))) ρ11 := by rw [e_ρ11, show ((22 * l) + 8) = 22 * l + 8 from by omega]; exact Sρ10.p7 (by first | decide | exact xs_ (by decide) | exact xc_ (by decide) | omega) (by first | decide | exact xs_ (by decide) | exact xc_ (by decide) | omega) (by first | decide | exact xs_ (by decide) | exact xc_ (by decide) | omega)
  clear Sρ10
  have r16_ρ11 : ρ11 31 0 (22 * l + 16) = fl := by rw [e_ρ11]; exact (mu_ne (by first | decide | exact xs_ (by decide) | exact xc_ (by decide) | omega)).trans r16_ρ10
  clear r16_ρ10
  have r17_ρ11 : ρ11 31 0 (22 * l + 17) = 0 := by rw [e_ρ11]; exact (mu_ne (by first | decide | exact xs_ (by decide) | exact xc_ (by decide) | omega)).trans r17_ρ10
  clear r17_ρ10
  have Xρ11 : KX t l (mu (mu (mu (mu (mu (suM V l (hU V l z) (V 7 l 6)) 8 l (hU V l z) z) 9 l (hU V l z) v) 10 l (hU V l z) (V 7 l 12)) 7 l 6 ((V 7 l 6) + 1)) 7 l 12 (wr ((V 7 l 12) + 1))) ρ11 := (Xρ10).e (fun m a b c => by rw [e_ρ11]; exact ⟨mu_ne (by first | decide | exact xs_ (by decide) | exact xc_ (by decide) | omega), mu_ne (by first | decide | exact xs_ (by decide) | exact xc_ (by decide) | omega)⟩) (fun m c => mu_ne (by first | decide | exact xs_ (by decide) | exact xc_ (by decide) | omega))
  clear Xρ10
  have Fρ11 : FB (mu (mu (mu (mu (mu (suM V l (hU V l z) (V 7 l 6)) 8 l (hU V l z) z) 9 l (hU V l z) v) 10 l (hU V l z) (V 7 l 12)) 7 l 6 ((V 7 l 6) + 1)) 7 l 12 (wr ((V 7 l 12) + 1))) ρ11 := by rw [e_ρ11]; exact (Fρ10).e (fun l a b => mu_ne (by first | decide | exact xs_ (by decide) | exact xc_ (by decide) | omega)) |>.v (fun l y a b c => mu_ne (by first | decide | exact xs_ (by decide) | exact xc_ (by decide) | omega))
  clear Fρ10 e_ρ11
  refine r_aload_n hC dX6_enter_86 rfl ?_
  refine r_iload_n hC dX6_enter_87 rfl ?_
  refine r_bipush hC dX6_enter_88 rfl ?_
  refine r_iload hC dX6_enter_90 rfl ?_
  refine z_inv3 hM dX6_enter_92 vl_RX6_173 rfl rfl rfl (Nat.le_of_ble_eq_true rfl) (Nat.le_of_ble_eq_true rfl) ?_
  refine y_set (by first | decide | exact xs_ (by decide) | exact xc_ (by decide) | omega) (by first | decide | exact xs_ (by decide) | exact xc_ (by decide) | omega) ⟨fun h => by omega, fun h => by omega⟩ ?_
  obtain ⟨ρ12, e_ρ12⟩ : ∃ zz_, zz_ = mu ρ11 31 0 ((22 * l) + 10) ((V 7 l 6) - (hU V l z)) := ⟨_, rfl⟩
  rw [← e_ρ12]
  have Sρ12 : SB t σ0 (mu (mu (mu (mu (mu (mu (suM V l (hU V l z) (V 7 l 6)) 8 l (hU V l z) z) 9 l (hU V l z) v) 10 l (hU V l z) (V 7 l 12)) 7 l 6 ((V 7 l 6) + 1)) 7 l 12 (wr ((V 7 l 12) + 1))) 7 l 14 ((V 7 l 6) - (hU V l z))) ρ12 := by rw [e_ρ12, show ((22 * l) + 10) = 22 * l + 10 from by omega]; exact Sρ11.p7 (by first | decide | exact xs_ (by decide) | exact xc_ (by decide) | omega) (by first | decide | exact xs_ (by decide) | exact xc_ (by decide) | omega) (by first | decide | exact xs_ (by decide) | exact xc_ (by decide) | omega)
  clear Sρ11
  have r16_ρ12 : ρ12 31 0 (22 * l + 16) = fl := by rw [e_ρ12]; exact (mu_ne (by first | decide | exact xs_ (by decide) | exact xc_ (by decide) | omega)).trans r16_ρ11
  clear r16_ρ11
  have r17_ρ12 : ρ12 31 0 (22 * l + 17) = 0 := by rw [e_ρ12]; exact (mu_ne (by first | decide | exact xs_ (by decide) | exact xc_ (by decide) | omega)).trans r17_ρ11
  clear r17_ρ11
  have Xρ12 : KX t l (mu (mu (mu (mu (mu (mu (suM V l (hU V l z) (V 7 l 6)) 8 l (hU V l z) z) 9 l (hU V l z) v) 10 l (hU V l z) (V 7 l 12)) 7 l 6 ((V 7 l 6) + 1)) 7 l 12 (wr ((V 7 l 12) + 1))) 7 l 14 ((V 7 l 6) - (hU V l z))) ρ12 := (Xρ11).e (fun m a b c => by rw [e_ρ12]; exact ⟨mu_ne (by first | decide | exact xs_ (by decide) | exact xc_ (by decide) | omega), mu_ne (by first | decide | exact xs_ (by decide) | exact xc_ (by decide) | omega)⟩) (fun m c => mu_ne (by first | decide | exact xs_ (by decide) | exact xc_ (by decide) | omega))
  clear Xρ11
  have Fρ12 : FB (mu (mu (mu (mu (mu (mu (suM V l (hU V l z) (V 7 l 6)) 8 l (hU V l z) z) 9 l (hU V l z) v) 10 l (hU V l z) (V 7 l 12)) 7 l 6 ((V 7 l 6) + 1)) 7 l 12 (wr ((V 7 l 12) + 1))) 7 l 14 ((V 7 l 6) - (hU V l z))) ρ12 := by rw [e_ρ12]; exact (Fρ11).e (fun l a b => mu_ne (by first | decide | exact xs_ (by decide) | exact xc_ (by decide) | omega)) |>.v (fun l y a b c => mu_ne (by first | decide | exact xs_ (by decide) | exact xc_ (by decide) | omega))
  clear Fρ11 e_ρ12
  refine r_iload_n hC dX6_enter_95 rfl ?_
  refine r_aload_n hC dX6_enter_96 rfl ?_
  refine r_iload_n hC dX6_enter_97 rfl ?_
  refine r_bipush hC dX6_enter_98 rfl ?_
  refine z_inv2 hM dX6_enter_100 vl_RX6_80 rfl rfl rfl (Nat.le_of_ble_eq_true rfl) (Nat.le_of_ble_eq_true rfl) ?_
  refine y_of (by first | decide | exact xs_ (by decide) | exact xc_ (by decide) | omega) (by first | decide | exact xs_ (by decide) | exact xc_ (by decide) | omega) (by first | decide | exact xs_ (by decide) | exact xc_ (by decide) | omega) (fun o13 => ?_)
  have e14 : ρ12 31 0 (22 * l + 6) = (V 7 l 10) := (Sρ12.a7 (s := 10) (f := 6) (by first | decide | exact xs_ (by decide) | exact xc_ (by decide) | omega) (by first | decide | exact xs_ (by decide) | exact xc_ (by decide) | omega) (by first | decide | exact xs_ (by decide) | exact xc_ (by decide) | omega)).trans ((mu_ne (by first | decide | exact xs_ (by decide) | exact xc_ (by decide) | omega)).trans ((mu_ne (by first | decide | exact xs_ (by decide) | exact xc_ (by decide) | omega)).trans ((mu_ne (by first | decide | exact xs_ (by decide) | exact xc_ (by decide) | omega)).trans ((mu_ne (by first | decide | exact xs_ (by decide) | exact xc_ (by decide) | omega)).trans ((mu_ne (by first | decide | exact xs_ (by decide) | exact xc_ (by decide) | omega)).trans ((mu_ne (by first | decide | exact xs_ (by decide) | exact xc_ (by decide) | omega)).trans ((suM_ne (by first | decide | exact xs_ (by decide) | exact xc_ (by decide) | omega)).trans (rfl))))))))
  rw [e14] at o13 ⊢
  refine r_icmp_le (tgt := 114) hC dX6_enter_103 rfl (fun h15 => ?_) (fun h15 => ?_)
  · have hIns : (mu (mu (mu (mu (mu (mu (suM V l (hU V l z) (V 7 l 6)) 8 l (hU V l z) z) 9 l (hU V l z) v) 10 l (hU V l z) (V 7 l 12)) 7 l 6 ((V 7 l 6) + 1)) 7 l 12 (wr ((V 7 l 12) + 1))) 7 l 14 ((V 7 l 6) - (hU V l z))) = (insM V l (hU V l z) z v) := ins_su0 (by first | decide | exact xs_ (by decide) | exact xc_ (by decide) | omega) (by first | decide | exact xs_ (by decide) | exact xc_ (by decide) | omega)
    have iS := Sρ12
    have iX := Xρ12
    have iF := Fρ12
    rw [hIns] at iS iX iF
    have hLI := LK_ins (t := z) (v := v) hL (a := hU V l z) (by first | decide | exact xs_ (by decide) | exact xc_ (by decide) | omega) (by first | decide | exact xs_ (by decide) | exact xc_ (by decide) | omega) (by first | decide | exact xs_ (by decide) | exact xc_ (by decide) | omega)
    refine r_iload hC dX6_enter_114 rfl ?_
    refine r_if_ne (tgt := 154) hC dX6_enter_116 rfl (fun h16 => ?_) (fun h16 => ?_)
    · refine r_aload_n hC dX6_enter_154 rfl ?_
      refine r_iload_n hC dX6_enter_155 rfl ?_
      refine z_inv1 hM dX6_enter_156 vl_RX6_227 rfl rfl rfl (Nat.le_of_ble_eq_true rfl) (Nat.le_of_ble_eq_true rfl) ?_
      refine y_layAnewX (V := (insM V l (hU V l z) z v)) (fl := fl) (by first | decide | exact xs_ (by decide) | exact xc_ (by decide) | omega) ht iS iX iF (by first | decide | exact xs_ (by decide) | exact xc_ (by decide) | omega) hLI r16_ρ12 r17_ρ12 (fun ρe Re => ?_)
      have hEn : rgM (lyM (insM V l (hU V l z) z v) l ((insM V l (hU V l z) z v) 7 l 6)) l = enM V l z v := by
        unfold enM
        rw [if_neg (by first | decide | exact xs_ (by decide) | exact xc_ (by decide) | omega), insM_6]
      rw [hEn] at Re
      have zz6 : enM V l z v 7 l 6 = V 7 l 6 + 1 := enM_6
      have L159 : ∀ (n159 : Nat) (ρ17 W17 : Mm), ((W17 7 l 6).toNat : Int) < (n159 : Int) → (RS t σ0 W17 ρ17) → (drps l (W17 7 l 6).toNat W17 = plM V l z v) → (LK W17 l) → (FI (W17 11 l) (W17 7 l 6)) → (W17 7 l 3 = V 7 l 3 ∧ W17 7 l 4 = V 7 l 4) → K 159 [some (vR 30 0), some (vI l), some (vI z), some (vI v), some (vI (hU V l z)), some (vI ((V 7 l 6) - (hU V l z))), none] [] ρ17 := by
        intro n159
        induction n159 with
        | zero => intro  ρ17 W17   hm  m0_159 m1_159 m2_159 m3_159 m4_159; omega
        | succ n159 ih159 =>
          intro  ρ17 W17   hm159  m0_159 m1_159 m2_159 m3_159 m4_159
          refine r_aload_n hC dX6_enter_159 rfl ?_
          refine r_iload_n hC dX6_enter_160 rfl ?_
          refine z_inv1 hM dX6_enter_161 vl_RX6_230 rfl rfl rfl (Nat.le_of_ble_eq_true rfl) (Nat.le_of_ble_eq_true rfl) ?_
          refine y_isTooMany (V := W17) (by first | decide | exact xs_ (by decide) | exact xc_ (by decide) | omega) ht ⟨m0_159.1, m0_159.2.1, m0_159.2.2⟩ (by first | decide | exact xs_ (by decide) | exact xc_ (by decide) | omega) (fun hgo => ?_) (fun hgo => ?_)
          · refine r_if_eq (tgt := 175) hC dX6_enter_164 rfl (fun h18 => by omega) (fun h18 => ?_)
            refine r_aload_n hC dX6_enter_167 rfl ?_
            refine r_iload_n hC dX6_enter_168 rfl ?_
            refine z_inv1 hM dX6_enter_169 vl_RX6_233 rfl rfl rfl (Nat.le_of_ble_eq_true rfl) (Nat.le_of_ble_eq_true rfl) ?_
            have hW1 : 1 ≤ W17 7 l 6 := by have := hgo; unfold goV at this; omega
            have hW6 := m2_159.2.1
            refine y_drop (V := W17) (by first | decide | exact xs_ (by decide) | exact xc_ (by decide) | omega) ht ⟨m0_159.1, m0_159.2.1, m0_159.2.2⟩ (by first | decide | exact xs_ (by decide) | exact xc_ (by decide) | omega) m2_159 m3_159 hW1 (fun ρ19 Rρ19 => ?_)
            have d6 : dpM W17 l 7 l 6 = W17 7 l 6 - 1 := dpM_6
            refine r_goto (tgt := 159) hC dX6_enter_172 rfl ?_
            exact ih159  ρ19 (dpM W17 l)   (by first | decide | exact xs_ (by decide) | exact xc_ (by decide) | omega)  (⟨Rρ19.1, Rρ19.2.1, Rρ19.2.2⟩) (by rw [dpM_6]; have q := m1_159; rw [show (W17 7 l 6).toNat = (W17 7 l 6 - 1).toNat + 1 from by omega, drps_yes hgo] at q; exact q) (LK_dp m2_159 hW1) (FI_dp m3_159 hW1) (⟨(dpM_ne (by first | decide | exact xs_ (by decide) | exact xc_ (by decide) | omega)).trans m4_159.1, (dpM_ne (by first | decide | exact xs_ (by decide) | exact xc_ (by decide) | omega)).trans m4_159.2⟩)
          · refine r_if_eq (tgt := 175) hC dX6_enter_164 rfl (fun h20 => ?_) (fun h20 => by omega)
            refine y_vret hK rfl dX6_enter_175 ?_
            have q := m0_159
            have e := m1_159
            rw [drps_no hgo] at e
            rw [e] at q
            exact k _ q
      exact L159 125  ρe (enM V l z v)   (by first | decide | exact xs_ (by decide) | exact xc_ (by decide) | omega)  (⟨Re.1, Re.2.1, Re.2.2⟩) (by rw [enM_6]; rfl) (LK_en hL (by first | decide | exact xs_ (by decide) | exact xc_ (by decide) | omega) (by first | decide | exact xs_ (by decide) | exact xc_ (by decide) | omega)) (FI_en hF (by first | decide | exact xs_ (by decide) | exact xc_ (by decide) | omega)) (⟨enM_nx (by unfold PS; omega), enM_nx (by unfold PS; omega)⟩)
    · refine r_aload_n hC dX6_enter_119 rfl ?_
      refine r_iload_n hC dX6_enter_120 rfl ?_
      refine r_bipush hC dX6_enter_121 rfl ?_
      refine z_inv2 hM dX6_enter_123 vl_RX6_80 rfl rfl rfl (Nat.le_of_ble_eq_true rfl) (Nat.le_of_ble_eq_true rfl) ?_
      refine y_of (by first | decide | exact xs_ (by decide) | exact xc_ (by decide) | omega) (by first | decide | exact xs_ (by decide) | exact xc_ (by decide) | omega) (by first | decide | exact xs_ (by decide) | exact xc_ (by decide) | omega) (fun o21 => ?_)
      have e22 : ρ12 31 0 (22 * l + 14) = (V 11 l 2) := (iS.a11 (s := 2) (f := 14) (by first | decide | exact xs_ (by decide) | exact xc_ (by decide) | omega) (by first | decide | exact xs_ (by decide) | exact xc_ (by decide) | omega) (by first | decide | exact xs_ (by decide) | exact xc_ (by decide) | omega)).trans ((insM_ne (by first | decide | exact xs_ (by decide) | exact xc_ (by decide) | omega)).trans (rfl))
      rw [e22] at o21 ⊢
      refine r_if_le (tgt := 133) hC dX6_enter_126 rfl (fun h23 => ?_) (fun h23 => ?_)
      · refine r_iconst hC dX6_enter_133 rfl ?_
        refine r_istore hC dX6_enter_134 rfl ?_
        refine r_aload_n hC dX6_enter_136 rfl ?_
        refine r_iload_n hC dX6_enter_137 rfl ?_
        refine r_bipush hC dX6_enter_138 rfl ?_
        refine r_iconst hC dX6_enter_140 rfl ?_
        refine z_inv3 hM dX6_enter_141 vl_RX6_188 rfl rfl rfl (Nat.le_of_ble_eq_true rfl) (Nat.le_of_ble_eq_true rfl) ?_
        refine y_moreE (a := (V 11 l 2)) (by first | decide | exact xs_ (by decide) | exact xc_ (by decide) | omega) (by first | decide | exact xs_ (by decide) | exact xc_ (by decide) | omega) (by first | decide | exact xs_ (by decide) | exact xc_ (by decide) | omega) ⟨fun h => by omega, by omega⟩ ((iS.a11 (s := 2) (f := 14) (by first | decide | exact xs_ (by decide) | exact xc_ (by decide) | omega) (by first | decide | exact xs_ (by decide) | exact xc_ (by decide) | omega) (by first | decide | exact xs_ (by decide) | exact xc_ (by decide) | omega)).trans ((insM_ne (by first | decide | exact xs_ (by decide) | exact xc_ (by decide) | omega)).trans (rfl))) (by first | decide | exact xs_ (by decide) | exact xc_ (by decide) | omega) ?_
        rw [show (V 11 l 2) + 1 = ((V 11 l 2) + 1) from by omega]
        obtain ⟨ρ24, e_ρ24⟩ : ∃ zz_, zz_ = mu ρ12 31 0 ((22 * l) + 14) ((V 11 l 2) + 1) := ⟨_, rfl⟩
        rw [← e_ρ24]
        have Sρ24 : SB t σ0 (mu (insM V l (hU V l z) z v) 11 l 2 ((V 11 l 2) + 1)) ρ24 := by rw [e_ρ24, show ((22 * l) + 14) = 22 * l + 14 from by omega]; exact iS.p11 (by first | decide | exact xs_ (by decide) | exact xc_ (by decide) | omega) (by first | decide | exact xs_ (by decide) | exact xc_ (by decide) | omega) (by first | decide | exact xs_ (by decide) | exact xc_ (by decide) | omega)
        have r16_ρ24 : ρ24 31 0 (22 * l + 16) = fl := by rw [e_ρ24]; exact (mu_ne (by first | decide | exact xs_ (by decide) | exact xc_ (by decide) | omega)).trans r16_ρ12
        have r17_ρ24 : ρ24 31 0 (22 * l + 17) = 0 := by rw [e_ρ24]; exact (mu_ne (by first | decide | exact xs_ (by decide) | exact xc_ (by decide) | omega)).trans r17_ρ12
        have Xρ24 : KX t l (mu (insM V l (hU V l z) z v) 11 l 2 ((V 11 l 2) + 1)) ρ24 := (iX).e (fun m a b c => by rw [e_ρ24]; exact ⟨mu_ne (by first | decide | exact xs_ (by decide) | exact xc_ (by decide) | omega), mu_ne (by first | decide | exact xs_ (by decide) | exact xc_ (by decide) | omega)⟩) (fun m c => mu_ne (by first | decide | exact xs_ (by decide) | exact xc_ (by decide) | omega))
        have Fρ24 : FB (mu (insM V l (hU V l z) z v) 11 l 2 ((V 11 l 2) + 1)) ρ24 := by rw [e_ρ24]; exact (iF).e (fun l a b => mu_ne (by first | decide | exact xs_ (by decide) | exact xc_ (by decide) | omega)) |>.v (fun l y a b c => mu_ne (by first | decide | exact xs_ (by decide) | exact xc_ (by decide) | omega))
        clear e_ρ24
        refine r_aload_n hC dX6_enter_144 rfl ?_
        refine r_iload_n hC dX6_enter_145 rfl ?_
        refine r_iload hC dX6_enter_146 rfl ?_
        refine z_inv2 hM dX6_enter_148 vl_RX6_221 rfl rfl rfl (Nat.le_of_ble_eq_true rfl) (Nat.le_of_ble_eq_true rfl) ?_
        have z0 : (mu (insM V l (hU V l z) z v) 11 l 2 ((V 11 l 2) + 1)) 11 l 0 = (V 11 l 0) := ((mu_ne (by first | decide | exact xs_ (by decide) | exact xc_ (by decide) | omega)).trans ((insM_ne (by first | decide | exact xs_ (by decide) | exact xc_ (by decide) | omega)).trans (rfl)))
        have z1 : (mu (insM V l (hU V l z) z v) 11 l 2 ((V 11 l 2) + 1)) 11 l 1 = (V 11 l 1) := ((mu_ne (by first | decide | exact xs_ (by decide) | exact xc_ (by decide) | omega)).trans ((insM_ne (by first | decide | exact xs_ (by decide) | exact xc_ (by decide) | omega)).trans (rfl)))
        have z2 : (mu (insM V l (hU V l z) z v) 11 l 2 ((V 11 l 2) + 1)) 11 l 2 = ((V 11 l 2) + 1) := (mu_self _ _ _ _ _)
        have z3 : (mu (insM V l (hU V l z) z v) 11 l 2 ((V 11 l 2) + 1)) 11 l 3 = (V 11 l 3) := ((mu_ne (by first | decide | exact xs_ (by decide) | exact xc_ (by decide) | omega)).trans ((insM_ne (by first | decide | exact xs_ (by decide) | exact xc_ (by decide) | omega)).trans (rfl)))
        have qL : LK (mu (insM V l (hU V l z) z v) 11 l 2 ((V 11 l 2) + 1)) l := hLI.to (fun c2 x y h => mu_ne (by first | decide | exact xs_ (by decide) | exact xc_ (by decide) | omega))
        refine y_endMove (V := (mu (insM V l (hU V l z) z v) 11 l 2 ((V 11 l 2) + 1))) (fl := fl) (fr := 0) (by first | decide | exact xs_ (by decide) | exact xc_ (by decide) | omega) (by first | decide | exact xs_ (by decide) | exact xc_ (by decide) | omega) ht Sρ24 Xρ24 Fρ24 (by first | decide | exact xs_ (by decide) | exact xc_ (by decide) | omega) qL (by first | decide | exact xs_ (by decide) | exact xc_ (by decide) | omega) (by first | decide | exact xs_ (by decide) | exact xc_ (by decide) | omega) r16_ρ24 r17_ρ24 (fun ρe Re => ?_)
        clear Sρ24 r16_ρ24 r17_ρ24 Xρ24 Fρ24
        have hEn : rgM (su (mu (insM V l (hU V l z) z v) 11 l 2 ((V 11 l 2) + 1)) 11 l (emR 0 ((mu (insM V l (hU V l z) z v) 11 l 2 ((V 11 l 2) + 1)) 11 l))) l = enM V l z v := by
          unfold enM
          rw [if_pos (by first | decide | exact xs_ (by decide) | exact xc_ (by decide) | omega), adM_0 (V := (insM V l (hU V l z) z v)) (by rw [insM_ne (by first | decide | exact xs_ (by decide) | exact xc_ (by decide) | omega)]; omega)]
          rw [show (insM V l (hU V l z) z v) 11 l 2 = V 11 l 2 from insM_ne (by first | decide | exact xs_ (by decide) | exact xc_ (by decide) | omega)]
        rw [hEn] at Re
        have zz6 : enM V l z v 7 l 6 = V 7 l 6 + 1 := enM_6
        refine r_goto (tgt := 159) hC dX6_enter_151 rfl ?_
        have L159 : ∀ (n159 : Nat) (ρ25 W25 : Mm), ((W25 7 l 6).toNat : Int) < (n159 : Int) → (RS t σ0 W25 ρ25) → (drps l (W25 7 l 6).toNat W25 = plM V l z v) → (LK W25 l) → (FI (W25 11 l) (W25 7 l 6)) → (W25 7 l 3 = V 7 l 3 ∧ W25 7 l 4 = V 7 l 4) → K 159 [some (vR 30 0), some (vI l), some (vI z), some (vI v), some (vI (hU V l z)), some (vI ((V 7 l 6) - (hU V l z))), some (vI 0)] [] ρ25 := by
          intro n159
          induction n159 with
          | zero => intro  ρ25 W25   hm  m0_159 m1_159 m2_159 m3_159 m4_159; omega
          | succ n159 ih159 =>
            intro  ρ25 W25   hm159  m0_159 m1_159 m2_159 m3_159 m4_159
            refine r_aload_n hC dX6_enter_159 rfl ?_
            refine r_iload_n hC dX6_enter_160 rfl ?_
            refine z_inv1 hM dX6_enter_161 vl_RX6_230 rfl rfl rfl (Nat.le_of_ble_eq_true rfl) (Nat.le_of_ble_eq_true rfl) ?_
            refine y_isTooMany (V := W25) (by first | decide | exact xs_ (by decide) | exact xc_ (by decide) | omega) ht ⟨m0_159.1, m0_159.2.1, m0_159.2.2⟩ (by first | decide | exact xs_ (by decide) | exact xc_ (by decide) | omega) (fun hgo => ?_) (fun hgo => ?_)
            · refine r_if_eq (tgt := 175) hC dX6_enter_164 rfl (fun h26 => by omega) (fun h26 => ?_)
              refine r_aload_n hC dX6_enter_167 rfl ?_
              refine r_iload_n hC dX6_enter_168 rfl ?_
              refine z_inv1 hM dX6_enter_169 vl_RX6_233 rfl rfl rfl (Nat.le_of_ble_eq_true rfl) (Nat.le_of_ble_eq_true rfl) ?_
              have hW1 : 1 ≤ W25 7 l 6 := by have := hgo; unfold goV at this; omega
              have hW6 := m2_159.2.1
              refine y_drop (V := W25) (by first | decide | exact xs_ (by decide) | exact xc_ (by decide) | omega) ht ⟨m0_159.1, m0_159.2.1, m0_159.2.2⟩ (by first | decide | exact xs_ (by decide) | exact xc_ (by decide) | omega) m2_159 m3_159 hW1 (fun ρ27 Rρ27 => ?_)
              have d6 : dpM W25 l 7 l 6 = W25 7 l 6 - 1 := dpM_6
              refine r_goto (tgt := 159) hC dX6_enter_172 rfl ?_
              exact ih159  ρ27 (dpM W25 l)   (by first | decide | exact xs_ (by decide) | exact xc_ (by decide) | omega)  (⟨Rρ27.1, Rρ27.2.1, Rρ27.2.2⟩) (by rw [dpM_6]; have q := m1_159; rw [show (W25 7 l 6).toNat = (W25 7 l 6 - 1).toNat + 1 from by omega, drps_yes hgo] at q; exact q) (LK_dp m2_159 hW1) (FI_dp m3_159 hW1) (⟨(dpM_ne (by first | decide | exact xs_ (by decide) | exact xc_ (by decide) | omega)).trans m4_159.1, (dpM_ne (by first | decide | exact xs_ (by decide) | exact xc_ (by decide) | omega)).trans m4_159.2⟩)
            · refine r_if_eq (tgt := 175) hC dX6_enter_164 rfl (fun h28 => ?_) (fun h28 => by omega)
              refine y_vret hK rfl dX6_enter_175 ?_
              have q := m0_159
              have e := m1_159
              rw [drps_no hgo] at e
              rw [e] at q
              exact k _ q
        exact L159 125  ρe (enM V l z v)   (by first | decide | exact xs_ (by decide) | exact xc_ (by decide) | omega)  (⟨Re.1, Re.2.1, Re.2.2⟩) (by rw [enM_6]; rfl) (LK_en hL (by first | decide | exact xs_ (by decide) | exact xc_ (by decide) | omega) (by first | decide | exact xs_ (by decide) | exact xc_ (by decide) | omega)) (FI_en hF (by first | decide | exact xs_ (by decide) | exact xc_ (by decide) | omega)) (⟨enM_nx (by unfold PS; omega), enM_nx (by unfold PS; omega)⟩)
      · refine r_iconst hC dX6_enter_129 rfl ?_
        refine r_goto (tgt := 134) hC dX6_enter_130 rfl ?_
        refine r_istore hC dX6_enter_134 rfl ?_
        refine r_aload_n hC dX6_enter_136 rfl ?_
        refine r_iload_n hC dX6_enter_137 rfl ?_
        refine r_bipush hC dX6_enter_138 rfl ?_
        refine r_iconst hC dX6_enter_140 rfl ?_
        refine z_inv3 hM dX6_enter_141 vl_RX6_188 rfl rfl rfl (Nat.le_of_ble_eq_true rfl) (Nat.le_of_ble_eq_true rfl) ?_
        refine y_moreE (a := (V 11 l 2)) (by first | decide | exact xs_ (by decide) | exact xc_ (by decide) | omega) (by first | decide | exact xs_ (by decide) | exact xc_ (by decide) | omega) (by first | decide | exact xs_ (by decide) | exact xc_ (by decide) | omega) ⟨fun h => by omega, by omega⟩ ((iS.a11 (s := 2) (f := 14) (by first | decide | exact xs_ (by decide) | exact xc_ (by decide) | omega) (by first | decide | exact xs_ (by decide) | exact xc_ (by decide) | omega) (by first | decide | exact xs_ (by decide) | exact xc_ (by decide) | omega)).trans ((insM_ne (by first | decide | exact xs_ (by decide) | exact xc_ (by decide) | omega)).trans (rfl))) (by first | decide | exact xs_ (by decide) | exact xc_ (by decide) | omega) ?_
        rw [show (V 11 l 2) + 1 = ((V 11 l 2) + 1) from by omega]
        obtain ⟨ρ29, e_ρ29⟩ : ∃ zz_, zz_ = mu ρ12 31 0 ((22 * l) + 14) ((V 11 l 2) + 1) := ⟨_, rfl⟩
        rw [← e_ρ29]
        have Sρ29 : SB t σ0 (mu (insM V l (hU V l z) z v) 11 l 2 ((V 11 l 2) + 1)) ρ29 := by rw [e_ρ29, show ((22 * l) + 14) = 22 * l + 14 from by omega]; exact iS.p11 (by first | decide | exact xs_ (by decide) | exact xc_ (by decide) | omega) (by first | decide | exact xs_ (by decide) | exact xc_ (by decide) | omega) (by first | decide | exact xs_ (by decide) | exact xc_ (by decide) | omega)
        have r16_ρ29 : ρ29 31 0 (22 * l + 16) = fl := by rw [e_ρ29]; exact (mu_ne (by first | decide | exact xs_ (by decide) | exact xc_ (by decide) | omega)).trans r16_ρ12
        have r17_ρ29 : ρ29 31 0 (22 * l + 17) = 0 := by rw [e_ρ29]; exact (mu_ne (by first | decide | exact xs_ (by decide) | exact xc_ (by decide) | omega)).trans r17_ρ12
        have Xρ29 : KX t l (mu (insM V l (hU V l z) z v) 11 l 2 ((V 11 l 2) + 1)) ρ29 := (iX).e (fun m a b c => by rw [e_ρ29]; exact ⟨mu_ne (by first | decide | exact xs_ (by decide) | exact xc_ (by decide) | omega), mu_ne (by first | decide | exact xs_ (by decide) | exact xc_ (by decide) | omega)⟩) (fun m c => mu_ne (by first | decide | exact xs_ (by decide) | exact xc_ (by decide) | omega))
        have Fρ29 : FB (mu (insM V l (hU V l z) z v) 11 l 2 ((V 11 l 2) + 1)) ρ29 := by rw [e_ρ29]; exact (iF).e (fun l a b => mu_ne (by first | decide | exact xs_ (by decide) | exact xc_ (by decide) | omega)) |>.v (fun l y a b c => mu_ne (by first | decide | exact xs_ (by decide) | exact xc_ (by decide) | omega))
        clear e_ρ29
        refine r_aload_n hC dX6_enter_144 rfl ?_
        refine r_iload_n hC dX6_enter_145 rfl ?_
        refine r_iload hC dX6_enter_146 rfl ?_
        refine z_inv2 hM dX6_enter_148 vl_RX6_221 rfl rfl rfl (Nat.le_of_ble_eq_true rfl) (Nat.le_of_ble_eq_true rfl) ?_
        have z0 : (mu (insM V l (hU V l z) z v) 11 l 2 ((V 11 l 2) + 1)) 11 l 0 = (V 11 l 0) := ((mu_ne (by first | decide | exact xs_ (by decide) | exact xc_ (by decide) | omega)).trans ((insM_ne (by first | decide | exact xs_ (by decide) | exact xc_ (by decide) | omega)).trans (rfl)))
        have z1 : (mu (insM V l (hU V l z) z v) 11 l 2 ((V 11 l 2) + 1)) 11 l 1 = (V 11 l 1) := ((mu_ne (by first | decide | exact xs_ (by decide) | exact xc_ (by decide) | omega)).trans ((insM_ne (by first | decide | exact xs_ (by decide) | exact xc_ (by decide) | omega)).trans (rfl)))
        have z2 : (mu (insM V l (hU V l z) z v) 11 l 2 ((V 11 l 2) + 1)) 11 l 2 = ((V 11 l 2) + 1) := (mu_self _ _ _ _ _)
        have z3 : (mu (insM V l (hU V l z) z v) 11 l 2 ((V 11 l 2) + 1)) 11 l 3 = (V 11 l 3) := ((mu_ne (by first | decide | exact xs_ (by decide) | exact xc_ (by decide) | omega)).trans ((insM_ne (by first | decide | exact xs_ (by decide) | exact xc_ (by decide) | omega)).trans (rfl)))
        have qL : LK (mu (insM V l (hU V l z) z v) 11 l 2 ((V 11 l 2) + 1)) l := hLI.to (fun c2 x y h => mu_ne (by first | decide | exact xs_ (by decide) | exact xc_ (by decide) | omega))
        refine y_endMove (V := (mu (insM V l (hU V l z) z v) 11 l 2 ((V 11 l 2) + 1))) (fl := fl) (fr := 0) (by first | decide | exact xs_ (by decide) | exact xc_ (by decide) | omega) (by first | decide | exact xs_ (by decide) | exact xc_ (by decide) | omega) ht Sρ29 Xρ29 Fρ29 (by first | decide | exact xs_ (by decide) | exact xc_ (by decide) | omega) qL (by first | decide | exact xs_ (by decide) | exact xc_ (by decide) | omega) (by first | decide | exact xs_ (by decide) | exact xc_ (by decide) | omega) r16_ρ29 r17_ρ29 (fun ρe Re => ?_)
        clear Sρ29 r16_ρ29 r17_ρ29 Xρ29 Fρ29
        have hEn : rgM (su (mu (insM V l (hU V l z) z v) 11 l 2 ((V 11 l 2) + 1)) 11 l (emR 1 ((mu (insM V l (hU V l z) z v) 11 l 2 ((V 11 l 2) + 1)) 11 l))) l = enM V l z v := by
          unfold enM
          rw [if_pos (by first | decide | exact xs_ (by decide) | exact xc_ (by decide) | omega), adM_1 (V := (insM V l (hU V l z) z v)) (by rw [insM_ne (by first | decide | exact xs_ (by decide) | exact xc_ (by decide) | omega)]; omega)]
          rw [show (insM V l (hU V l z) z v) 11 l 2 = V 11 l 2 from insM_ne (by first | decide | exact xs_ (by decide) | exact xc_ (by decide) | omega)]
        rw [hEn] at Re
        have zz6 : enM V l z v 7 l 6 = V 7 l 6 + 1 := enM_6
        refine r_goto (tgt := 159) hC dX6_enter_151 rfl ?_
        have L159 : ∀ (n159 : Nat) (ρ30 W30 : Mm), ((W30 7 l 6).toNat : Int) < (n159 : Int) → (RS t σ0 W30 ρ30) → (drps l (W30 7 l 6).toNat W30 = plM V l z v) → (LK W30 l) → (FI (W30 11 l) (W30 7 l 6)) → (W30 7 l 3 = V 7 l 3 ∧ W30 7 l 4 = V 7 l 4) → K 159 [some (vR 30 0), some (vI l), some (vI z), some (vI v), some (vI (hU V l z)), some (vI ((V 7 l 6) - (hU V l z))), some (vI 1)] [] ρ30 := by
          intro n159
          induction n159 with
          | zero => intro  ρ30 W30   hm  m0_159 m1_159 m2_159 m3_159 m4_159; omega
          | succ n159 ih159 =>
            intro  ρ30 W30   hm159  m0_159 m1_159 m2_159 m3_159 m4_159
            refine r_aload_n hC dX6_enter_159 rfl ?_
            refine r_iload_n hC dX6_enter_160 rfl ?_
            refine z_inv1 hM dX6_enter_161 vl_RX6_230 rfl rfl rfl (Nat.le_of_ble_eq_true rfl) (Nat.le_of_ble_eq_true rfl) ?_
            refine y_isTooMany (V := W30) (by first | decide | exact xs_ (by decide) | exact xc_ (by decide) | omega) ht ⟨m0_159.1, m0_159.2.1, m0_159.2.2⟩ (by first | decide | exact xs_ (by decide) | exact xc_ (by decide) | omega) (fun hgo => ?_) (fun hgo => ?_)
            · refine r_if_eq (tgt := 175) hC dX6_enter_164 rfl (fun h31 => by omega) (fun h31 => ?_)
              refine r_aload_n hC dX6_enter_167 rfl ?_
              refine r_iload_n hC dX6_enter_168 rfl ?_
              refine z_inv1 hM dX6_enter_169 vl_RX6_233 rfl rfl rfl (Nat.le_of_ble_eq_true rfl) (Nat.le_of_ble_eq_true rfl) ?_
              have hW1 : 1 ≤ W30 7 l 6 := by have := hgo; unfold goV at this; omega
              have hW6 := m2_159.2.1
              refine y_drop (V := W30) (by first | decide | exact xs_ (by decide) | exact xc_ (by decide) | omega) ht ⟨m0_159.1, m0_159.2.1, m0_159.2.2⟩ (by first | decide | exact xs_ (by decide) | exact xc_ (by decide) | omega) m2_159 m3_159 hW1 (fun ρ32 Rρ32 => ?_)
              have d6 : dpM W30 l 7 l 6 = W30 7 l 6 - 1 := dpM_6
              refine r_goto (tgt := 159) hC dX6_enter_172 rfl ?_
              exact ih159  ρ32 (dpM W30 l)   (by first | decide | exact xs_ (by decide) | exact xc_ (by decide) | omega)  (⟨Rρ32.1, Rρ32.2.1, Rρ32.2.2⟩) (by rw [dpM_6]; have q := m1_159; rw [show (W30 7 l 6).toNat = (W30 7 l 6 - 1).toNat + 1 from by omega, drps_yes hgo] at q; exact q) (LK_dp m2_159 hW1) (FI_dp m3_159 hW1) (⟨(dpM_ne (by first | decide | exact xs_ (by decide) | exact xc_ (by decide) | omega)).trans m4_159.1, (dpM_ne (by first | decide | exact xs_ (by decide) | exact xc_ (by decide) | omega)).trans m4_159.2⟩)
            · refine r_if_eq (tgt := 175) hC dX6_enter_164 rfl (fun h33 => ?_) (fun h33 => by omega)
              refine y_vret hK rfl dX6_enter_175 ?_
              have q := m0_159
              have e := m1_159
              rw [drps_no hgo] at e
              rw [e] at q
              exact k _ q
        exact L159 125  ρe (enM V l z v)   (by first | decide | exact xs_ (by decide) | exact xc_ (by decide) | omega)  (⟨Re.1, Re.2.1, Re.2.2⟩) (by rw [enM_6]; rfl) (LK_en hL (by first | decide | exact xs_ (by decide) | exact xc_ (by decide) | omega) (by first | decide | exact xs_ (by decide) | exact xc_ (by decide) | omega)) (FI_en hF (by first | decide | exact xs_ (by decide) | exact xc_ (by decide) | omega)) (⟨enM_nx (by unfold PS; omega), enM_nx (by unfold PS; omega)⟩)
  · refine r_aload_n hC dX6_enter_106 rfl ?_
    refine r_iload_n hC dX6_enter_107 rfl ?_
    refine r_bipush hC dX6_enter_108 rfl ?_
    refine r_iload_n hC dX6_enter_110 rfl ?_
    refine z_inv3 hM dX6_enter_111 vl_RX6_173 rfl rfl rfl (Nat.le_of_ble_eq_true rfl) (Nat.le_of_ble_eq_true rfl) ?_
    refine y_set (by first | decide | exact xs_ (by decide) | exact xc_ (by decide) | omega) (by first | decide | exact xs_ (by decide) | exact xc_ (by decide) | omega) ⟨fun h => by omega, fun h => by omega⟩ ?_
    obtain ⟨ρ34, e_ρ34⟩ : ∃ zz_, zz_ = mu ρ12 31 0 ((22 * l) + 6) z := ⟨_, rfl⟩
    rw [← e_ρ34]
    have Sρ34 : SB t σ0 (mu (mu (mu (mu (mu (mu (mu (suM V l (hU V l z) (V 7 l 6)) 8 l (hU V l z) z) 9 l (hU V l z) v) 10 l (hU V l z) (V 7 l 12)) 7 l 6 ((V 7 l 6) + 1)) 7 l 12 (wr ((V 7 l 12) + 1))) 7 l 14 ((V 7 l 6) - (hU V l z))) 7 l 10 z) ρ34 := by rw [e_ρ34, show ((22 * l) + 6) = 22 * l + 6 from by omega]; exact Sρ12.p7 (by first | decide | exact xs_ (by decide) | exact xc_ (by decide) | omega) (by first | decide | exact xs_ (by decide) | exact xc_ (by decide) | omega) (by first | decide | exact xs_ (by decide) | exact xc_ (by decide) | omega)
    clear Sρ12
    have r16_ρ34 : ρ34 31 0 (22 * l + 16) = fl := by rw [e_ρ34]; exact (mu_ne (by first | decide | exact xs_ (by decide) | exact xc_ (by decide) | omega)).trans r16_ρ12
    clear r16_ρ12
    have r17_ρ34 : ρ34 31 0 (22 * l + 17) = 0 := by rw [e_ρ34]; exact (mu_ne (by first | decide | exact xs_ (by decide) | exact xc_ (by decide) | omega)).trans r17_ρ12
    clear r17_ρ12
    have Xρ34 : KX t l (mu (mu (mu (mu (mu (mu (mu (suM V l (hU V l z) (V 7 l 6)) 8 l (hU V l z) z) 9 l (hU V l z) v) 10 l (hU V l z) (V 7 l 12)) 7 l 6 ((V 7 l 6) + 1)) 7 l 12 (wr ((V 7 l 12) + 1))) 7 l 14 ((V 7 l 6) - (hU V l z))) 7 l 10 z) ρ34 := (Xρ12).e (fun m a b c => by rw [e_ρ34]; exact ⟨mu_ne (by first | decide | exact xs_ (by decide) | exact xc_ (by decide) | omega), mu_ne (by first | decide | exact xs_ (by decide) | exact xc_ (by decide) | omega)⟩) (fun m c => mu_ne (by first | decide | exact xs_ (by decide) | exact xc_ (by decide) | omega))
    clear Xρ12
    have Fρ34 : FB (mu (mu (mu (mu (mu (mu (mu (suM V l (hU V l z) (V 7 l 6)) 8 l (hU V l z) z) 9 l (hU V l z) v) 10 l (hU V l z) (V 7 l 12)) 7 l 6 ((V 7 l 6) + 1)) 7 l 12 (wr ((V 7 l 12) + 1))) 7 l 14 ((V 7 l 6) - (hU V l z))) 7 l 10 z) ρ34 := by rw [e_ρ34]; exact (Fρ12).e (fun l a b => mu_ne (by first | decide | exact xs_ (by decide) | exact xc_ (by decide) | omega)) |>.v (fun l y a b c => mu_ne (by first | decide | exact xs_ (by decide) | exact xc_ (by decide) | omega))
    clear Fρ12 e_ρ34
    have hIns : (mu (mu (mu (mu (mu (mu (mu (suM V l (hU V l z) (V 7 l 6)) 8 l (hU V l z) z) 9 l (hU V l z) v) 10 l (hU V l z) (V 7 l 12)) 7 l 6 ((V 7 l 6) + 1)) 7 l 12 (wr ((V 7 l 12) + 1))) 7 l 14 ((V 7 l 6) - (hU V l z))) 7 l 10 z) = (insM V l (hU V l z) z v) := ins_su1 (by first | decide | exact xs_ (by decide) | exact xc_ (by decide) | omega) (by first | decide | exact xs_ (by decide) | exact xc_ (by decide) | omega)
    have iS := Sρ34
    clear Sρ34
    have iX := Xρ34
    clear Xρ34
    have iF := Fρ34
    clear Fρ34
    rw [hIns] at iS iX iF
    have hLI := LK_ins (t := z) (v := v) hL (a := hU V l z) (by first | decide | exact xs_ (by decide) | exact xc_ (by decide) | omega) (by first | decide | exact xs_ (by decide) | exact xc_ (by decide) | omega) (by first | decide | exact xs_ (by decide) | exact xc_ (by decide) | omega)
    refine r_iload hC dX6_enter_114 rfl ?_
    refine r_if_ne (tgt := 154) hC dX6_enter_116 rfl (fun h35 => ?_) (fun h35 => ?_)
    · refine r_aload_n hC dX6_enter_154 rfl ?_
      refine r_iload_n hC dX6_enter_155 rfl ?_
      refine z_inv1 hM dX6_enter_156 vl_RX6_227 rfl rfl rfl (Nat.le_of_ble_eq_true rfl) (Nat.le_of_ble_eq_true rfl) ?_
      refine y_layAnewX (V := (insM V l (hU V l z) z v)) (fl := fl) (by first | decide | exact xs_ (by decide) | exact xc_ (by decide) | omega) ht iS iX iF (by first | decide | exact xs_ (by decide) | exact xc_ (by decide) | omega) hLI r16_ρ34 r17_ρ34 (fun ρe Re => ?_)
      have hEn : rgM (lyM (insM V l (hU V l z) z v) l ((insM V l (hU V l z) z v) 7 l 6)) l = enM V l z v := by
        unfold enM
        rw [if_neg (by first | decide | exact xs_ (by decide) | exact xc_ (by decide) | omega), insM_6]
      rw [hEn] at Re
      have zz6 : enM V l z v 7 l 6 = V 7 l 6 + 1 := enM_6
      have L159 : ∀ (n159 : Nat) (ρ36 W36 : Mm), ((W36 7 l 6).toNat : Int) < (n159 : Int) → (RS t σ0 W36 ρ36) → (drps l (W36 7 l 6).toNat W36 = plM V l z v) → (LK W36 l) → (FI (W36 11 l) (W36 7 l 6)) → (W36 7 l 3 = V 7 l 3 ∧ W36 7 l 4 = V 7 l 4) → K 159 [some (vR 30 0), some (vI l), some (vI z), some (vI v), some (vI (hU V l z)), some (vI ((V 7 l 6) - (hU V l z))), none] [] ρ36 := by
        intro n159
        induction n159 with
        | zero => intro  ρ36 W36   hm  m0_159 m1_159 m2_159 m3_159 m4_159; omega
        | succ n159 ih159 =>
          intro  ρ36 W36   hm159  m0_159 m1_159 m2_159 m3_159 m4_159
          refine r_aload_n hC dX6_enter_159 rfl ?_
          refine r_iload_n hC dX6_enter_160 rfl ?_
          refine z_inv1 hM dX6_enter_161 vl_RX6_230 rfl rfl rfl (Nat.le_of_ble_eq_true rfl) (Nat.le_of_ble_eq_true rfl) ?_
          refine y_isTooMany (V := W36) (by first | decide | exact xs_ (by decide) | exact xc_ (by decide) | omega) ht ⟨m0_159.1, m0_159.2.1, m0_159.2.2⟩ (by first | decide | exact xs_ (by decide) | exact xc_ (by decide) | omega) (fun hgo => ?_) (fun hgo => ?_)
          · refine r_if_eq (tgt := 175) hC dX6_enter_164 rfl (fun h37 => by omega) (fun h37 => ?_)
            refine r_aload_n hC dX6_enter_167 rfl ?_
            refine r_iload_n hC dX6_enter_168 rfl ?_
            refine z_inv1 hM dX6_enter_169 vl_RX6_233 rfl rfl rfl (Nat.le_of_ble_eq_true rfl) (Nat.le_of_ble_eq_true rfl) ?_
            have hW1 : 1 ≤ W36 7 l 6 := by have := hgo; unfold goV at this; omega
            have hW6 := m2_159.2.1
            refine y_drop (V := W36) (by first | decide | exact xs_ (by decide) | exact xc_ (by decide) | omega) ht ⟨m0_159.1, m0_159.2.1, m0_159.2.2⟩ (by first | decide | exact xs_ (by decide) | exact xc_ (by decide) | omega) m2_159 m3_159 hW1 (fun ρ38 Rρ38 => ?_)
            have d6 : dpM W36 l 7 l 6 = W36 7 l 6 - 1 := dpM_6
            refine r_goto (tgt := 159) hC dX6_enter_172 rfl ?_
            exact ih159  ρ38 (dpM W36 l)   (by first | decide | exact xs_ (by decide) | exact xc_ (by decide) | omega)  (⟨Rρ38.1, Rρ38.2.1, Rρ38.2.2⟩) (by rw [dpM_6]; have q := m1_159; rw [show (W36 7 l 6).toNat = (W36 7 l 6 - 1).toNat + 1 from by omega, drps_yes hgo] at q; exact q) (LK_dp m2_159 hW1) (FI_dp m3_159 hW1) (⟨(dpM_ne (by first | decide | exact xs_ (by decide) | exact xc_ (by decide) | omega)).trans m4_159.1, (dpM_ne (by first | decide | exact xs_ (by decide) | exact xc_ (by decide) | omega)).trans m4_159.2⟩)
          · refine r_if_eq (tgt := 175) hC dX6_enter_164 rfl (fun h39 => ?_) (fun h39 => by omega)
            refine y_vret hK rfl dX6_enter_175 ?_
            have q := m0_159
            have e := m1_159
            rw [drps_no hgo] at e
            rw [e] at q
            exact k _ q
      exact L159 125  ρe (enM V l z v)   (by first | decide | exact xs_ (by decide) | exact xc_ (by decide) | omega)  (⟨Re.1, Re.2.1, Re.2.2⟩) (by rw [enM_6]; rfl) (LK_en hL (by first | decide | exact xs_ (by decide) | exact xc_ (by decide) | omega) (by first | decide | exact xs_ (by decide) | exact xc_ (by decide) | omega)) (FI_en hF (by first | decide | exact xs_ (by decide) | exact xc_ (by decide) | omega)) (⟨enM_nx (by unfold PS; omega), enM_nx (by unfold PS; omega)⟩)
    · refine r_aload_n hC dX6_enter_119 rfl ?_
      refine r_iload_n hC dX6_enter_120 rfl ?_
      refine r_bipush hC dX6_enter_121 rfl ?_
      refine z_inv2 hM dX6_enter_123 vl_RX6_80 rfl rfl rfl (Nat.le_of_ble_eq_true rfl) (Nat.le_of_ble_eq_true rfl) ?_
      refine y_of (by first | decide | exact xs_ (by decide) | exact xc_ (by decide) | omega) (by first | decide | exact xs_ (by decide) | exact xc_ (by decide) | omega) (by first | decide | exact xs_ (by decide) | exact xc_ (by decide) | omega) (fun o40 => ?_)
      have e41 : ρ34 31 0 (22 * l + 14) = (V 11 l 2) := (iS.a11 (s := 2) (f := 14) (by first | decide | exact xs_ (by decide) | exact xc_ (by decide) | omega) (by first | decide | exact xs_ (by decide) | exact xc_ (by decide) | omega) (by first | decide | exact xs_ (by decide) | exact xc_ (by decide) | omega)).trans ((insM_ne (by first | decide | exact xs_ (by decide) | exact xc_ (by decide) | omega)).trans (rfl))
      rw [e41] at o40 ⊢
      refine r_if_le (tgt := 133) hC dX6_enter_126 rfl (fun h42 => ?_) (fun h42 => ?_)
      · refine r_iconst hC dX6_enter_133 rfl ?_
        refine r_istore hC dX6_enter_134 rfl ?_
        refine r_aload_n hC dX6_enter_136 rfl ?_
        refine r_iload_n hC dX6_enter_137 rfl ?_
        refine r_bipush hC dX6_enter_138 rfl ?_
        refine r_iconst hC dX6_enter_140 rfl ?_
        refine z_inv3 hM dX6_enter_141 vl_RX6_188 rfl rfl rfl (Nat.le_of_ble_eq_true rfl) (Nat.le_of_ble_eq_true rfl) ?_
        refine y_moreE (a := (V 11 l 2)) (by first | decide | exact xs_ (by decide) | exact xc_ (by decide) | omega) (by first | decide | exact xs_ (by decide) | exact xc_ (by decide) | omega) (by first | decide | exact xs_ (by decide) | exact xc_ (by decide) | omega) ⟨fun h => by omega, by omega⟩ ((iS.a11 (s := 2) (f := 14) (by first | decide | exact xs_ (by decide) | exact xc_ (by decide) | omega) (by first | decide | exact xs_ (by decide) | exact xc_ (by decide) | omega) (by first | decide | exact xs_ (by decide) | exact xc_ (by decide) | omega)).trans ((insM_ne (by first | decide | exact xs_ (by decide) | exact xc_ (by decide) | omega)).trans (rfl))) (by first | decide | exact xs_ (by decide) | exact xc_ (by decide) | omega) ?_
        rw [show (V 11 l 2) + 1 = ((V 11 l 2) + 1) from by omega]
        obtain ⟨ρ43, e_ρ43⟩ : ∃ zz_, zz_ = mu ρ34 31 0 ((22 * l) + 14) ((V 11 l 2) + 1) := ⟨_, rfl⟩
        rw [← e_ρ43]
        have Sρ43 : SB t σ0 (mu (insM V l (hU V l z) z v) 11 l 2 ((V 11 l 2) + 1)) ρ43 := by rw [e_ρ43, show ((22 * l) + 14) = 22 * l + 14 from by omega]; exact iS.p11 (by first | decide | exact xs_ (by decide) | exact xc_ (by decide) | omega) (by first | decide | exact xs_ (by decide) | exact xc_ (by decide) | omega) (by first | decide | exact xs_ (by decide) | exact xc_ (by decide) | omega)
        have r16_ρ43 : ρ43 31 0 (22 * l + 16) = fl := by rw [e_ρ43]; exact (mu_ne (by first | decide | exact xs_ (by decide) | exact xc_ (by decide) | omega)).trans r16_ρ34
        have r17_ρ43 : ρ43 31 0 (22 * l + 17) = 0 := by rw [e_ρ43]; exact (mu_ne (by first | decide | exact xs_ (by decide) | exact xc_ (by decide) | omega)).trans r17_ρ34
        have Xρ43 : KX t l (mu (insM V l (hU V l z) z v) 11 l 2 ((V 11 l 2) + 1)) ρ43 := (iX).e (fun m a b c => by rw [e_ρ43]; exact ⟨mu_ne (by first | decide | exact xs_ (by decide) | exact xc_ (by decide) | omega), mu_ne (by first | decide | exact xs_ (by decide) | exact xc_ (by decide) | omega)⟩) (fun m c => mu_ne (by first | decide | exact xs_ (by decide) | exact xc_ (by decide) | omega))
        have Fρ43 : FB (mu (insM V l (hU V l z) z v) 11 l 2 ((V 11 l 2) + 1)) ρ43 := by rw [e_ρ43]; exact (iF).e (fun l a b => mu_ne (by first | decide | exact xs_ (by decide) | exact xc_ (by decide) | omega)) |>.v (fun l y a b c => mu_ne (by first | decide | exact xs_ (by decide) | exact xc_ (by decide) | omega))
        clear e_ρ43
        refine r_aload_n hC dX6_enter_144 rfl ?_
        refine r_iload_n hC dX6_enter_145 rfl ?_
        refine r_iload hC dX6_enter_146 rfl ?_
        refine z_inv2 hM dX6_enter_148 vl_RX6_221 rfl rfl rfl (Nat.le_of_ble_eq_true rfl) (Nat.le_of_ble_eq_true rfl) ?_
        have z0 : (mu (insM V l (hU V l z) z v) 11 l 2 ((V 11 l 2) + 1)) 11 l 0 = (V 11 l 0) := ((mu_ne (by first | decide | exact xs_ (by decide) | exact xc_ (by decide) | omega)).trans ((insM_ne (by first | decide | exact xs_ (by decide) | exact xc_ (by decide) | omega)).trans (rfl)))
        have z1 : (mu (insM V l (hU V l z) z v) 11 l 2 ((V 11 l 2) + 1)) 11 l 1 = (V 11 l 1) := ((mu_ne (by first | decide | exact xs_ (by decide) | exact xc_ (by decide) | omega)).trans ((insM_ne (by first | decide | exact xs_ (by decide) | exact xc_ (by decide) | omega)).trans (rfl)))
        have z2 : (mu (insM V l (hU V l z) z v) 11 l 2 ((V 11 l 2) + 1)) 11 l 2 = ((V 11 l 2) + 1) := (mu_self _ _ _ _ _)
        have z3 : (mu (insM V l (hU V l z) z v) 11 l 2 ((V 11 l 2) + 1)) 11 l 3 = (V 11 l 3) := ((mu_ne (by first | decide | exact xs_ (by decide) | exact xc_ (by decide) | omega)).trans ((insM_ne (by first | decide | exact xs_ (by decide) | exact xc_ (by decide) | omega)).trans (rfl)))
        have qL : LK (mu (insM V l (hU V l z) z v) 11 l 2 ((V 11 l 2) + 1)) l := hLI.to (fun c2 x y h => mu_ne (by first | decide | exact xs_ (by decide) | exact xc_ (by decide) | omega))
        refine y_endMove (V := (mu (insM V l (hU V l z) z v) 11 l 2 ((V 11 l 2) + 1))) (fl := fl) (fr := 0) (by first | decide | exact xs_ (by decide) | exact xc_ (by decide) | omega) (by first | decide | exact xs_ (by decide) | exact xc_ (by decide) | omega) ht Sρ43 Xρ43 Fρ43 (by first | decide | exact xs_ (by decide) | exact xc_ (by decide) | omega) qL (by first | decide | exact xs_ (by decide) | exact xc_ (by decide) | omega) (by first | decide | exact xs_ (by decide) | exact xc_ (by decide) | omega) r16_ρ43 r17_ρ43 (fun ρe Re => ?_)
        clear Sρ43 r16_ρ43 r17_ρ43 Xρ43 Fρ43
        have hEn : rgM (su (mu (insM V l (hU V l z) z v) 11 l 2 ((V 11 l 2) + 1)) 11 l (emR 0 ((mu (insM V l (hU V l z) z v) 11 l 2 ((V 11 l 2) + 1)) 11 l))) l = enM V l z v := by
          unfold enM
          rw [if_pos (by first | decide | exact xs_ (by decide) | exact xc_ (by decide) | omega), adM_0 (V := (insM V l (hU V l z) z v)) (by rw [insM_ne (by first | decide | exact xs_ (by decide) | exact xc_ (by decide) | omega)]; omega)]
          rw [show (insM V l (hU V l z) z v) 11 l 2 = V 11 l 2 from insM_ne (by first | decide | exact xs_ (by decide) | exact xc_ (by decide) | omega)]
        rw [hEn] at Re
        have zz6 : enM V l z v 7 l 6 = V 7 l 6 + 1 := enM_6
        refine r_goto (tgt := 159) hC dX6_enter_151 rfl ?_
        have L159 : ∀ (n159 : Nat) (ρ44 W44 : Mm), ((W44 7 l 6).toNat : Int) < (n159 : Int) → (RS t σ0 W44 ρ44) → (drps l (W44 7 l 6).toNat W44 = plM V l z v) → (LK W44 l) → (FI (W44 11 l) (W44 7 l 6)) → (W44 7 l 3 = V 7 l 3 ∧ W44 7 l 4 = V 7 l 4) → K 159 [some (vR 30 0), some (vI l), some (vI z), some (vI v), some (vI (hU V l z)), some (vI ((V 7 l 6) - (hU V l z))), some (vI 0)] [] ρ44 := by
          intro n159
          induction n159 with
          | zero => intro  ρ44 W44   hm  m0_159 m1_159 m2_159 m3_159 m4_159; omega
          | succ n159 ih159 =>
            intro  ρ44 W44   hm159  m0_159 m1_159 m2_159 m3_159 m4_159
            refine r_aload_n hC dX6_enter_159 rfl ?_
            refine r_iload_n hC dX6_enter_160 rfl ?_
            refine z_inv1 hM dX6_enter_161 vl_RX6_230 rfl rfl rfl (Nat.le_of_ble_eq_true rfl) (Nat.le_of_ble_eq_true rfl) ?_
            refine y_isTooMany (V := W44) (by first | decide | exact xs_ (by decide) | exact xc_ (by decide) | omega) ht ⟨m0_159.1, m0_159.2.1, m0_159.2.2⟩ (by first | decide | exact xs_ (by decide) | exact xc_ (by decide) | omega) (fun hgo => ?_) (fun hgo => ?_)
            · refine r_if_eq (tgt := 175) hC dX6_enter_164 rfl (fun h45 => by omega) (fun h45 => ?_)
              refine r_aload_n hC dX6_enter_167 rfl ?_
              refine r_iload_n hC dX6_enter_168 rfl ?_
              refine z_inv1 hM dX6_enter_169 vl_RX6_233 rfl rfl rfl (Nat.le_of_ble_eq_true rfl) (Nat.le_of_ble_eq_true rfl) ?_
              have hW1 : 1 ≤ W44 7 l 6 := by have := hgo; unfold goV at this; omega
              have hW6 := m2_159.2.1
              refine y_drop (V := W44) (by first | decide | exact xs_ (by decide) | exact xc_ (by decide) | omega) ht ⟨m0_159.1, m0_159.2.1, m0_159.2.2⟩ (by first | decide | exact xs_ (by decide) | exact xc_ (by decide) | omega) m2_159 m3_159 hW1 (fun ρ46 Rρ46 => ?_)
              have d6 : dpM W44 l 7 l 6 = W44 7 l 6 - 1 := dpM_6
              refine r_goto (tgt := 159) hC dX6_enter_172 rfl ?_
              exact ih159  ρ46 (dpM W44 l)   (by first | decide | exact xs_ (by decide) | exact xc_ (by decide) | omega)  (⟨Rρ46.1, Rρ46.2.1, Rρ46.2.2⟩) (by rw [dpM_6]; have q := m1_159; rw [show (W44 7 l 6).toNat = (W44 7 l 6 - 1).toNat + 1 from by omega, drps_yes hgo] at q; exact q) (LK_dp m2_159 hW1) (FI_dp m3_159 hW1) (⟨(dpM_ne (by first | decide | exact xs_ (by decide) | exact xc_ (by decide) | omega)).trans m4_159.1, (dpM_ne (by first | decide | exact xs_ (by decide) | exact xc_ (by decide) | omega)).trans m4_159.2⟩)
            · refine r_if_eq (tgt := 175) hC dX6_enter_164 rfl (fun h47 => ?_) (fun h47 => by omega)
              refine y_vret hK rfl dX6_enter_175 ?_
              have q := m0_159
              have e := m1_159
              rw [drps_no hgo] at e
              rw [e] at q
              exact k _ q
        exact L159 125  ρe (enM V l z v)   (by first | decide | exact xs_ (by decide) | exact xc_ (by decide) | omega)  (⟨Re.1, Re.2.1, Re.2.2⟩) (by rw [enM_6]; rfl) (LK_en hL (by first | decide | exact xs_ (by decide) | exact xc_ (by decide) | omega) (by first | decide | exact xs_ (by decide) | exact xc_ (by decide) | omega)) (FI_en hF (by first | decide | exact xs_ (by decide) | exact xc_ (by decide) | omega)) (⟨enM_nx (by unfold PS; omega), enM_nx (by unfold PS; omega)⟩)
      · refine r_iconst hC dX6_enter_129 rfl ?_
        refine r_goto (tgt := 134) hC dX6_enter_130 rfl ?_
        refine r_istore hC dX6_enter_134 rfl ?_
        refine r_aload_n hC dX6_enter_136 rfl ?_
        refine r_iload_n hC dX6_enter_137 rfl ?_
        refine r_bipush hC dX6_enter_138 rfl ?_
        refine r_iconst hC dX6_enter_140 rfl ?_
        refine z_inv3 hM dX6_enter_141 vl_RX6_188 rfl rfl rfl (Nat.le_of_ble_eq_true rfl) (Nat.le_of_ble_eq_true rfl) ?_
        refine y_moreE (a := (V 11 l 2)) (by first | decide | exact xs_ (by decide) | exact xc_ (by decide) | omega) (by first | decide | exact xs_ (by decide) | exact xc_ (by decide) | omega) (by first | decide | exact xs_ (by decide) | exact xc_ (by decide) | omega) ⟨fun h => by omega, by omega⟩ ((iS.a11 (s := 2) (f := 14) (by first | decide | exact xs_ (by decide) | exact xc_ (by decide) | omega) (by first | decide | exact xs_ (by decide) | exact xc_ (by decide) | omega) (by first | decide | exact xs_ (by decide) | exact xc_ (by decide) | omega)).trans ((insM_ne (by first | decide | exact xs_ (by decide) | exact xc_ (by decide) | omega)).trans (rfl))) (by first | decide | exact xs_ (by decide) | exact xc_ (by decide) | omega) ?_
        rw [show (V 11 l 2) + 1 = ((V 11 l 2) + 1) from by omega]
        obtain ⟨ρ48, e_ρ48⟩ : ∃ zz_, zz_ = mu ρ34 31 0 ((22 * l) + 14) ((V 11 l 2) + 1) := ⟨_, rfl⟩
        rw [← e_ρ48]
        have Sρ48 : SB t σ0 (mu (insM V l (hU V l z) z v) 11 l 2 ((V 11 l 2) + 1)) ρ48 := by rw [e_ρ48, show ((22 * l) + 14) = 22 * l + 14 from by omega]; exact iS.p11 (by first | decide | exact xs_ (by decide) | exact xc_ (by decide) | omega) (by first | decide | exact xs_ (by decide) | exact xc_ (by decide) | omega) (by first | decide | exact xs_ (by decide) | exact xc_ (by decide) | omega)
        have r16_ρ48 : ρ48 31 0 (22 * l + 16) = fl := by rw [e_ρ48]; exact (mu_ne (by first | decide | exact xs_ (by decide) | exact xc_ (by decide) | omega)).trans r16_ρ34
        clear r16_ρ34
        have r17_ρ48 : ρ48 31 0 (22 * l + 17) = 0 := by rw [e_ρ48]; exact (mu_ne (by first | decide | exact xs_ (by decide) | exact xc_ (by decide) | omega)).trans r17_ρ34
        clear r17_ρ34
        have Xρ48 : KX t l (mu (insM V l (hU V l z) z v) 11 l 2 ((V 11 l 2) + 1)) ρ48 := (iX).e (fun m a b c => by rw [e_ρ48]; exact ⟨mu_ne (by first | decide | exact xs_ (by decide) | exact xc_ (by decide) | omega), mu_ne (by first | decide | exact xs_ (by decide) | exact xc_ (by decide) | omega)⟩) (fun m c => mu_ne (by first | decide | exact xs_ (by decide) | exact xc_ (by decide) | omega))
        have Fρ48 : FB (mu (insM V l (hU V l z) z v) 11 l 2 ((V 11 l 2) + 1)) ρ48 := by rw [e_ρ48]; exact (iF).e (fun l a b => mu_ne (by first | decide | exact xs_ (by decide) | exact xc_ (by decide) | omega)) |>.v (fun l y a b c => mu_ne (by first | decide | exact xs_ (by decide) | exact xc_ (by decide) | omega))
        clear e_ρ48
        refine r_aload_n hC dX6_enter_144 rfl ?_
        refine r_iload_n hC dX6_enter_145 rfl ?_
        refine r_iload hC dX6_enter_146 rfl ?_
        refine z_inv2 hM dX6_enter_148 vl_RX6_221 rfl rfl rfl (Nat.le_of_ble_eq_true rfl) (Nat.le_of_ble_eq_true rfl) ?_
        have z0 : (mu (insM V l (hU V l z) z v) 11 l 2 ((V 11 l 2) + 1)) 11 l 0 = (V 11 l 0) := ((mu_ne (by first | decide | exact xs_ (by decide) | exact xc_ (by decide) | omega)).trans ((insM_ne (by first | decide | exact xs_ (by decide) | exact xc_ (by decide) | omega)).trans (rfl)))
        have z1 : (mu (insM V l (hU V l z) z v) 11 l 2 ((V 11 l 2) + 1)) 11 l 1 = (V 11 l 1) := ((mu_ne (by first | decide | exact xs_ (by decide) | exact xc_ (by decide) | omega)).trans ((insM_ne (by first | decide | exact xs_ (by decide) | exact xc_ (by decide) | omega)).trans (rfl)))
        have z2 : (mu (insM V l (hU V l z) z v) 11 l 2 ((V 11 l 2) + 1)) 11 l 2 = ((V 11 l 2) + 1) := (mu_self _ _ _ _ _)
        have z3 : (mu (insM V l (hU V l z) z v) 11 l 2 ((V 11 l 2) + 1)) 11 l 3 = (V 11 l 3) := ((mu_ne (by first | decide | exact xs_ (by decide) | exact xc_ (by decide) | omega)).trans ((insM_ne (by first | decide | exact xs_ (by decide) | exact xc_ (by decide) | omega)).trans (rfl)))
        have qL : LK (mu (insM V l (hU V l z) z v) 11 l 2 ((V 11 l 2) + 1)) l := hLI.to (fun c2 x y h => mu_ne (by first | decide | exact xs_ (by decide) | exact xc_ (by decide) | omega))
        refine y_endMove (V := (mu (insM V l (hU V l z) z v) 11 l 2 ((V 11 l 2) + 1))) (fl := fl) (fr := 0) (by first | decide | exact xs_ (by decide) | exact xc_ (by decide) | omega) (by first | decide | exact xs_ (by decide) | exact xc_ (by decide) | omega) ht Sρ48 Xρ48 Fρ48 (by first | decide | exact xs_ (by decide) | exact xc_ (by decide) | omega) qL (by first | decide | exact xs_ (by decide) | exact xc_ (by decide) | omega) (by first | decide | exact xs_ (by decide) | exact xc_ (by decide) | omega) r16_ρ48 r17_ρ48 (fun ρe Re => ?_)
        clear Sρ48 r16_ρ48 r17_ρ48 Xρ48 Fρ48
        have hEn : rgM (su (mu (insM V l (hU V l z) z v) 11 l 2 ((V 11 l 2) + 1)) 11 l (emR 1 ((mu (insM V l (hU V l z) z v) 11 l 2 ((V 11 l 2) + 1)) 11 l))) l = enM V l z v := by
          unfold enM
          rw [if_pos (by first | decide | exact xs_ (by decide) | exact xc_ (by decide) | omega), adM_1 (V := (insM V l (hU V l z) z v)) (by rw [insM_ne (by first | decide | exact xs_ (by decide) | exact xc_ (by decide) | omega)]; omega)]
          rw [show (insM V l (hU V l z) z v) 11 l 2 = V 11 l 2 from insM_ne (by first | decide | exact xs_ (by decide) | exact xc_ (by decide) | omega)]
        rw [hEn] at Re
        have zz6 : enM V l z v 7 l 6 = V 7 l 6 + 1 := enM_6
        refine r_goto (tgt := 159) hC dX6_enter_151 rfl ?_
        have L159 : ∀ (n159 : Nat) (ρ49 W49 : Mm), ((W49 7 l 6).toNat : Int) < (n159 : Int) → (RS t σ0 W49 ρ49) → (drps l (W49 7 l 6).toNat W49 = plM V l z v) → (LK W49 l) → (FI (W49 11 l) (W49 7 l 6)) → (W49 7 l 3 = V 7 l 3 ∧ W49 7 l 4 = V 7 l 4) → K 159 [some (vR 30 0), some (vI l), some (vI z), some (vI v), some (vI (hU V l z)), some (vI ((V 7 l 6) - (hU V l z))), some (vI 1)] [] ρ49 := by
          intro n159
          induction n159 with
          | zero => intro  ρ49 W49   hm  m0_159 m1_159 m2_159 m3_159 m4_159; omega
          | succ n159 ih159 =>
            intro  ρ49 W49   hm159  m0_159 m1_159 m2_159 m3_159 m4_159
            refine r_aload_n hC dX6_enter_159 rfl ?_
            refine r_iload_n hC dX6_enter_160 rfl ?_
            refine z_inv1 hM dX6_enter_161 vl_RX6_230 rfl rfl rfl (Nat.le_of_ble_eq_true rfl) (Nat.le_of_ble_eq_true rfl) ?_
            refine y_isTooMany (V := W49) (by first | decide | exact xs_ (by decide) | exact xc_ (by decide) | omega) ht ⟨m0_159.1, m0_159.2.1, m0_159.2.2⟩ (by first | decide | exact xs_ (by decide) | exact xc_ (by decide) | omega) (fun hgo => ?_) (fun hgo => ?_)
            · refine r_if_eq (tgt := 175) hC dX6_enter_164 rfl (fun h50 => by omega) (fun h50 => ?_)
              refine r_aload_n hC dX6_enter_167 rfl ?_
              refine r_iload_n hC dX6_enter_168 rfl ?_
              refine z_inv1 hM dX6_enter_169 vl_RX6_233 rfl rfl rfl (Nat.le_of_ble_eq_true rfl) (Nat.le_of_ble_eq_true rfl) ?_
              have hW1 : 1 ≤ W49 7 l 6 := by have := hgo; unfold goV at this; omega
              have hW6 := m2_159.2.1
              refine y_drop (V := W49) (by first | decide | exact xs_ (by decide) | exact xc_ (by decide) | omega) ht ⟨m0_159.1, m0_159.2.1, m0_159.2.2⟩ (by first | decide | exact xs_ (by decide) | exact xc_ (by decide) | omega) m2_159 m3_159 hW1 (fun ρ51 Rρ51 => ?_)
              have d6 : dpM W49 l 7 l 6 = W49 7 l 6 - 1 := dpM_6
              refine r_goto (tgt := 159) hC dX6_enter_172 rfl ?_
              exact ih159  ρ51 (dpM W49 l)   (by first | decide | exact xs_ (by decide) | exact xc_ (by decide) | omega)  (⟨Rρ51.1, Rρ51.2.1, Rρ51.2.2⟩) (by rw [dpM_6]; have q := m1_159; rw [show (W49 7 l 6).toNat = (W49 7 l 6 - 1).toNat + 1 from by omega, drps_yes hgo] at q; exact q) (LK_dp m2_159 hW1) (FI_dp m3_159 hW1) (⟨(dpM_ne (by first | decide | exact xs_ (by decide) | exact xc_ (by decide) | omega)).trans m4_159.1, (dpM_ne (by first | decide | exact xs_ (by decide) | exact xc_ (by decide) | omega)).trans m4_159.2⟩)
            · refine r_if_eq (tgt := 175) hC dX6_enter_164 rfl (fun h52 => ?_) (fun h52 => by omega)
              refine y_vret hK rfl dX6_enter_175 ?_
              have q := m0_159
              have e := m1_159
              rw [drps_no hgo] at e
              rw [e] at q
              exact k _ q
        exact L159 125  ρe (enM V l z v)   (by first | decide | exact xs_ (by decide) | exact xc_ (by decide) | omega)  (⟨Re.1, Re.2.1, Re.2.2⟩) (by rw [enM_6]; rfl) (LK_en hL (by first | decide | exact xs_ (by decide) | exact xc_ (by decide) | omega) (by first | decide | exact xs_ (by decide) | exact xc_ (by decide) | omega)) (FI_en hF (by first | decide | exact xs_ (by decide) | exact xc_ (by decide) | omega)) (⟨enM_nx (by unfold PS; omega), enM_nx (by unfold PS; omega)⟩)
