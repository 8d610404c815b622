-- B: the class: watch, table, letter
theorem x_Wbegin {e : Ev} {d : Nat} {P : Option Vl → Mm → Prop} {σ : Mm} {v l w b z : Int} (b_v : 0 ≤ v ∧ v ≤ 7) (b_z : 0 ≤ z ∧ z ≤ 1)  (k : P none (mu (mu (mu (mu (mu (mu σ 12 v 0 l) 12 v 1 w) 12 v 2 b) 12 v 3 z) 12 v 4 0) 12 v 5 (-1))) : WT e (d + 1) 43 [vR 12 v, vI l, vI w, vI b, vI z] σ P := by
  refine WT_in fun K hK => ?_
  have hK : StpY e cX4_begin RX4 (none) (WT e (d + 0)) P K := hK
  have hM := hK.1
  have hC := hK.1.1
  show K 0 [some (vR 12 v), some (vI l), some (vI w), some (vI b), some (vI z)] [] σ
  refine r_rngz hC (fun g0 => ?_)
  have r_l : -2147483648 ≤ l ∧ l ≤ 2147483647 := inR_le (g0 (vI l) (by simp))
  have r_w : -2147483648 ≤ w ∧ w ≤ 2147483647 := inR_le (g0 (vI w) (by simp))
  have r_b : -2147483648 ≤ b ∧ b ≤ 2147483647 := inR_le (g0 (vI b) (by simp))
  refine r_aload_n hC dX4_begin_0 rfl ?_
  refine r_iload_n hC dX4_begin_1 rfl ?_
  refine z_putIT (jz := 0) hM dX4_begin_2 fw_RX4_9 rfl rfl rfl ⟨Or.inr (by simp [DL]), Or.inr (by simp [DF])⟩ (by first | trivial | (simp only [Okv]; omega) | (simp [Okv]; try omega)) ?_
  refine r_aload_n hC dX4_begin_5 rfl ?_
  refine r_iload_n hC dX4_begin_6 rfl ?_
  refine z_putIT (jz := 1) hM dX4_begin_7 fw_RX4_15 rfl rfl rfl ⟨Or.inr (by simp [DL]), Or.inr (by simp [DF])⟩ (by first | trivial | (simp only [Okv]; omega) | (simp [Okv]; try omega)) ?_
  refine r_aload_n hC dX4_begin_10 rfl ?_
  refine r_iload_n hC dX4_begin_11 rfl ?_
  refine z_putIT (jz := 2) hM dX4_begin_12 fw_RX4_18 rfl rfl rfl ⟨Or.inr (by simp [DL]), Or.inr (by simp [DF])⟩ (by first | trivial | (simp only [Okv]; omega) | (simp [Okv]; try omega)) ?_
  refine r_aload_n hC dX4_begin_15 rfl ?_
  refine r_iload hC dX4_begin_16 rfl ?_
  refine z_putZT (jz := 3) hM dX4_begin_18 fw_RX4_21 rfl rfl rfl (by omega) ⟨Or.inr (by simp [DL]), Or.inr (by simp [DF])⟩ (by first | trivial | (simp only [Okv]; omega) | (simp [Okv]; try omega)) ?_
  refine r_aload_n hC dX4_begin_21 rfl ?_
  refine r_iconst hC dX4_begin_22 rfl ?_
  refine z_putIT (jz := 4) hM dX4_begin_23 fw_RX4_25 rfl rfl rfl ⟨Or.inr (by simp [DL]), Or.inr (by simp [DF])⟩ (by first | trivial | (simp only [Okv]; omega) | (simp [Okv]; try omega)) ?_
  refine r_aload_n hC dX4_begin_26 rfl ?_
  refine r_iconst hC dX4_begin_27 rfl ?_
  refine z_putIT (jz := 5) hM dX4_begin_28 fw_RX4_28 rfl rfl rfl ⟨Or.inr (by simp [DL]), Or.inr (by simp [DF])⟩ (by first | trivial | (simp only [Okv]; omega) | (simp [Okv]; try omega)) ?_
  refine y_vret hK rfl dX4_begin_31 ?_
  exact k
theorem x_watch_S {eb : Bool} {d : Nat} {P : Option Vl → Mm → Prop} {σ : Mm} {v l w b : Int}  (hI : InF σ) (hhL : ∀ l : Int, 0 ≤ l → l ≤ 3 → 0 ≤ σ 7 l 6 ∧ σ 7 l 6 ≤ 120)  (k : ∀ ρ : Mm, (∀ (c : Nat) (x y : Int), ¬ Fo c → ρ c x y = wtM σ v l w b c x y) → InF ρ → P (some (vI (wtR σ v l w b))) ρ) : WT (true, true, eb) (d + 5) 98 [vR 2 0, vI v, vI l, vI w, vI b] σ P := by
  refine WT_in fun K hK => ?_
  have hK : StpY (true, true, eb) cX5_watch RX5 (some .int) (WT (true, true, eb) (d + 4)) P K := hK
  have hM := hK.1
  have hC := hK.1.1
  show K 0 [some (vR 2 0), some (vI v), some (vI l), some (vI w), some (vI b), none, none] [] σ
  refine z_ok hM (fun hok => ?_)
  refine r_rngz hC (fun g0 => ?_)
  have r_v : -2147483648 ≤ v ∧ v ≤ 2147483647 := inR_le (g0 (vI v) (by simp))
  have r_l : -2147483648 ≤ l ∧ l ≤ 2147483647 := inR_le (g0 (vI l) (by simp))
  have r_w : -2147483648 ≤ w ∧ w ≤ 2147483647 := inR_le (g0 (vI w) (by simp))
  have r_b : -2147483648 ≤ b ∧ b ≤ 2147483647 := inR_le (g0 (vI b) (by simp))
  have h6L := hhL l
  refine r_aload_n hC dX5_watch_0 rfl ?_
  refine r_iload_n hC dX5_watch_1 rfl ?_
  refine r_iload_n hC dX5_watch_2 rfl ?_
  refine z_inv2 hM dX5_watch_3 vl_RX5_248 rfl rfl rfl (Nat.le_of_ble_eq_true rfl) (Nat.le_of_ble_eq_true rfl) ?_
  refine x_laneWith (fun h1 => ?_) (fun h1 => ?_)
  · refine r_astore hC dX5_watch_6 rfl ?_
    refine r_aload hC dX5_watch_8 rfl ?_
    refine r_ifnullR hC dX5_watch_10 ?_
    refine r_iload_n hC dX5_watch_13 rfl ?_
    refine r_iconst hC dX5_watch_14 rfl ?_
    refine r_bipush hC dX5_watch_15 rfl ?_
    refine z_ins3 hM dX5_watch_17 tl_RX5_59 rfl (Nat.le_of_ble_eq_true rfl) (Nat.le_of_ble_eq_true rfl) ?_
    refine s_within (fun h3 => ?_) (fun h3 => ?_)
    · refine r_if_ne (tgt := 25) hC dX5_watch_20 rfl (fun h4 => ?_) (fun h4 => by omega)
      refine r_aload_n hC dX5_watch_25 rfl ?_
      refine r_aload hC dX5_watch_26 rfl ?_
      refine r_iconst hC dX5_watch_28 rfl ?_
      refine r_aload hC dX5_watch_29 rfl ?_
      refine z_getI (jz := 6) hM dX5_watch_31 fl_RX5_154 rfl rfl rfl (fun v5 h_v5 o_v5 t_v5 => ?_)
      have w_v5 := ((t_v5 (Or.inl (by simp [Tb]))).trans (rfl)).symm
      subst w_v5
      have q_v5 : 0 ≤ (σ 7 l 6) ∧ (σ 7 l 6) ≤ 121 := o_v5.1 rfl
      refine z_inv3 hM dX5_watch_34 vl_RX5_259 rfl rfl rfl (Nat.le_of_ble_eq_true rfl) (Nat.le_of_ble_eq_true rfl) ?_
      refine x_foldPart (by omega) (by omega) (by omega) (fun ρ6 g_ρ6 r_ρ6 => ?_)
      have t_ρ6 : ∀ (c : Nat) (p q : Int), ¬ Fo c → ρ6 c p q = σ c p q := fun c p q hc => (g_ρ6 c p q (by omega))
      rw [fun0, show (((σ 7 l 6)) - 0).toNat = (σ 7 l 6).toNat from by omega] at r_ρ6
      refine r_aload_n hC dX5_watch_37 rfl ?_
      refine z_getR hM dX5_watch_38 fl_RX5_40 rfl rfl (vld_of (n := 1) rfl (by omega) (by omega)) ?_
      refine r_iload_n hC dX5_watch_41 rfl ?_
      refine r_iload hC dX5_watch_42 rfl ?_
      refine z_inv2 hM dX5_watch_44 vl_RX5_256 rfl rfl rfl (Nat.le_of_ble_eq_true rfl) (Nat.le_of_ble_eq_true rfl) ?_
      refine x_reaches (o := σ 7 l 2) (u := σ 9 l) (n := (σ 7 l 6).toNat) (by have := hok 7 l 2 (Or.inl (by simp [Tb])); exact this.2.2 rfl) (by omega) r_ρ6 (fun h7 => ?_) (fun h7 => ?_)
      · have hz : rc1 σ l w b = 1 := by
          unfold rc1 nmV
          rw [show ρ6 16 0 = σ 16 0 from funext fun y => t_ρ6 16 0 y (by omega), show ρ6 15 0 = σ 15 0 from funext fun y => t_ρ6 15 0 y (by omega)] at h7
          exact if_pos h7
        refine r_istore hC dX5_watch_47 rfl ?_
        refine r_aload_n hC dX5_watch_49 rfl ?_
        refine z_getR hM dX5_watch_50 fl_RX5_32 rfl rfl (vld_of (n := 1) rfl (by omega) (by omega)) ?_
        refine r_iload_n hC dX5_watch_53 rfl ?_
        refine z_aald hM dX5_watch_54 rfl (by decide) (by omega) (by omega) (vld_of (n := 8) rfl (by omega) (by omega)) ?_
        refine r_iload_n hC dX5_watch_55 rfl ?_
        refine r_iload_n hC dX5_watch_56 rfl ?_
        refine r_iload hC dX5_watch_57 rfl ?_
        refine r_iload hC dX5_watch_59 rfl ?_
        refine z_inv4 hM dX5_watch_61 vl_RX5_309 rfl rfl rfl (Nat.le_of_ble_eq_true rfl) (Nat.le_of_ble_eq_true rfl) ?_
        refine x_Wbegin (by omega) (by omega) ?_
        refine r_iload hC dX5_watch_64 rfl ?_
        refine r_if_eq (tgt := 73) hC dX5_watch_66 rfl (fun h8 => by omega) (fun h8 => ?_)
        refine r_iconst hC dX5_watch_69 rfl ?_
        refine r_goto (tgt := 74) hC dX5_watch_70 rfl ?_
        refine y_iret hK rfl dX5_watch_74 ?_
        have hM : wtM σ v l w b = mu (mu (mu (mu (mu (mu σ 12 v 0 l) 12 v 1 w) 12 v 2 b) 12 v 3 (rc1 σ l w b)) 12 v 4 0) 12 v 5 (-1) := if_pos (by omega)
        have hR : wtR σ v l w b = rc1 σ l w b := if_pos (by omega)
        rw [hM, hR, hz] at k
        refine k _ (fun c p q hc => ?_) (InF.to (FRc.inF r_ρ6 (fun j h0 h1 => by rw [t_ρ6 15 0 j (by omega)]; exact hok 15 0 j (Or.inl trivial))) (fun c p q hD => ?_))
        · unfold mu
          rw [t_ρ6 c p q hc]
        · have hk := DF_k hD
          rw [mu_ne (by omega), mu_ne (by omega), mu_ne (by omega), mu_ne (by omega), mu_ne (by omega), mu_ne (by omega)]
      · have hz : rc1 σ l w b = 0 := by
          unfold rc1 nmV
          rw [show ρ6 16 0 = σ 16 0 from funext fun y => t_ρ6 16 0 y (by omega), show ρ6 15 0 = σ 15 0 from funext fun y => t_ρ6 15 0 y (by omega)] at h7
          exact if_neg h7
        refine r_istore hC dX5_watch_47 rfl ?_
        refine r_aload_n hC dX5_watch_49 rfl ?_
        refine z_getR hM dX5_watch_50 fl_RX5_32 rfl rfl (vld_of (n := 1) rfl (by omega) (by omega)) ?_
        refine r_iload_n hC dX5_watch_53 rfl ?_
        refine z_aald hM dX5_watch_54 rfl (by decide) (by omega) (by omega) (vld_of (n := 8) rfl (by omega) (by omega)) ?_
        refine r_iload_n hC dX5_watch_55 rfl ?_
        refine r_iload_n hC dX5_watch_56 rfl ?_
        refine r_iload hC dX5_watch_57 rfl ?_
        refine r_iload hC dX5_watch_59 rfl ?_
        refine z_inv4 hM dX5_watch_61 vl_RX5_309 rfl rfl rfl (Nat.le_of_ble_eq_true rfl) (Nat.le_of_ble_eq_true rfl) ?_
        refine x_Wbegin (by omega) (by omega) ?_
        refine r_iload hC dX5_watch_64 rfl ?_
        refine r_if_eq (tgt := 73) hC dX5_watch_66 rfl (fun h9 => ?_) (fun h9 => by omega)
        refine r_iconst hC dX5_watch_73 rfl ?_
        refine y_iret hK rfl dX5_watch_74 ?_
        have hM : wtM σ v l w b = mu (mu (mu (mu (mu (mu σ 12 v 0 l) 12 v 1 w) 12 v 2 b) 12 v 3 (rc1 σ l w b)) 12 v 4 0) 12 v 5 (-1) := if_pos (by omega)
        have hR : wtR σ v l w b = rc1 σ l w b := if_pos (by omega)
        rw [hM, hR, hz] at k
        refine k _ (fun c p q hc => ?_) (InF.to (FRc.inF r_ρ6 (fun j h0 h1 => by rw [t_ρ6 15 0 j (by omega)]; exact hok 15 0 j (Or.inl trivial))) (fun c p q hD => ?_))
        · unfold mu
          rw [t_ρ6 c p q hc]
        · have hk := DF_k hD
          rw [mu_ne (by omega), mu_ne (by omega), mu_ne (by omega), mu_ne (by omega), mu_ne (by omega), mu_ne (by omega)]
    · refine r_if_ne (tgt := 25) hC dX5_watch_20 rfl (fun h10 => by omega) (fun h10 => ?_)
      refine r_iconst hC dX5_watch_23 rfl ?_
      refine y_iret hK rfl dX5_watch_24 ?_
      have hM : wtM σ v l w b = σ := if_neg (by omega)
      have hR : wtR σ v l w b = -1 := if_neg (by omega)
      rw [hM, hR] at k
      exact k σ (fun _ _ _ _ => rfl) hI
  · refine r_astoreN hC dX5_watch_6 rfl ?_
    refine r_aloadN hC dX5_watch_8 rfl ?_
    refine r_ifnullN (tgt := 23) hC dX5_watch_10 rfl ?_
    refine r_iconst hC dX5_watch_23 rfl ?_
    refine y_iret hK rfl dX5_watch_24 ?_
    have hM : wtM σ v l w b = σ := if_neg (by omega)
    have hR : wtR σ v l w b = -1 := if_neg (by omega)
    rw [hM, hR] at k
    exact k σ (fun _ _ _ _ => rfl) hI
theorem wtC_c {V W : Mm} {v l w : Int} (h : W 7 = V 7) : wtC W v l w ↔ wtC V v l w := by
  unfold wtC lwC opV
  rw [h]
theorem rc1_c {V W : Mm} {l w b : Int} (h : ∀ c : Nat, ¬ Fo c → W c = V c) : rc1 W l w b = rc1 V l w b := by
  unfold rc1
  rw [nmV_c (h 16 (by decide)) (h 15 (by decide)) (h 7 (by decide)) (h 9 (by decide))]
theorem wtM_c {V W : Mm} {v l w b : Int} (h : ∀ c : Nat, ¬ Fo c → W c = V c) {c : Nat} (hc : ¬ Fo c) (x y : Int) : wtM W v l w b c x y = wtM V v l w b c x y := by
  unfold wtM
  have hw := wtC_c (v := v) (l := l) (w := w) (h 7 (by decide))
  by_cases q : wtC V v l w
  · rw [if_pos q, if_pos (hw.mpr q), rc1_c h]
    unfold mu
    rw [h c hc]
  · rw [if_neg q, if_neg (fun z => q (hw.mp z)), h c hc]
theorem wtR_c {V W : Mm} {v l w b : Int} (h : ∀ c : Nat, ¬ Fo c → W c = V c) : wtR W v l w b = wtR V v l w b := by
  unfold wtR
  have hw := wtC_c (v := v) (l := l) (w := w) (h 7 (by decide))
  by_cases q : wtC V v l w
  · rw [if_pos q, if_pos (hw.mpr q), rc1_c h]
  · rw [if_neg q, if_neg (fun z => q (hw.mp z))]
theorem x_watch {eb : Bool} {d : Nat} {P : Option Vl → Mm → Prop} {σ : Mm} {v l w b : Int} (hhL : ∀ l : Int, 0 ≤ l → l ≤ 3 → 0 ≤ σ 7 l 6 ∧ σ 7 l 6 ≤ 120) (k : P (some (vI (wtR σ v l w b))) (wtM σ v l w b)) : WT (true, false, eb) (d + 5) 98 [vR 2 0, vI v, vI l, vI w, vI b] σ P := WT_fold fun ρ e hI => x_watch_S hI (by rw [e 7 (by decide)]; exact hhL) (fun ρ2 g hI2 => ⟨hI2, wtM σ v l w b, by rw [wtR_c e]; exact k, fun c x y hc => (g c x y hc).trans (wtM_c e hc x y)⟩)
theorem x_isUsed {e : Ev} {d : Nat} {P : Option Vl → Mm → Prop} {σ : Mm} {o : Int}   (k1 : usV σ o → P (some (vI 1)) σ) (k0 : ¬ usV σ o → P (some (vI 0)) σ) : WT e (d + 1) 57 [vR 2 0, vI o] σ P := by
  refine WT_in fun K hK => ?_
  have hK : StpY e cX5_isUsed RX5 (some .boolean) (WT e (d + 0)) P K := hK
  have hM := hK.1
  have hC := hK.1.1
  show K 0 [some (vR 2 0), some (vI o), none] [] σ
  refine r_rngz hC (fun g0 => ?_)
  have r_o : -2147483648 ≤ o ∧ o ≤ 2147483647 := inR_le (g0 (vI o) (by simp))
  refine r_iconst hC dX5_isUsed_0 rfl ?_
  refine r_istore_n hC dX5_isUsed_1 rfl ?_
  have L2 : ∀ (n2 : Nat) (w1 : Int), 0 ≤ w1 ∧ w1 ≤ 4 → (∀ j : Int, 0 ≤ j → j < (w1) → ¬ (σ 7 j 1 = 1 ∧ σ 7 j 2 = o)) → 4 - w1 < (n2 : Int) → K 2 [some (vR 2 0), some (vI o), some (vI w1)] [] σ := by
    intro n2
    induction n2 with
    | zero => intro w1  f_w1 i0_2 hm  ; omega
    | succ n2 ih2 =>
      intro w1  f_w1 i0_2 hm2  
      refine r_iload_n hC dX5_isUsed_2 rfl ?_
      refine r_iconst hC dX5_isUsed_3 rfl ?_
      refine r_icmp_ge (tgt := 40) hC dX5_isUsed_4 rfl (fun h2 => ?_) (fun h2 => ?_)
      · refine r_iconst hC dX5_isUsed_40 rfl ?_
        refine r_istore_n hC dX5_isUsed_41 rfl ?_
        have L42 : ∀ (n42 : Nat) (w3 : Int), 0 ≤ w3 ∧ w3 ≤ 3 → (∀ j : Int, 0 ≤ j → j < (w3) + 4 → ¬ (σ 7 j 1 = 1 ∧ σ 7 j 2 = o)) → 3 - w3 < (n42 : Int) → K 42 [some (vR 2 0), some (vI o), some (vI w3)] [] σ := by
          intro n42
          induction n42 with
          | zero => intro w3  f_w3 i0_42 hm  ; omega
          | succ n42 ih42 =>
            intro w3  f_w3 i0_42 hm42  
            refine r_iload_n hC dX5_isUsed_42 rfl ?_
            refine r_iconst hC dX5_isUsed_43 rfl ?_
            refine r_icmp_ge (tgt := 80) hC dX5_isUsed_44 rfl (fun h4 => ?_) (fun h4 => ?_)
            · refine r_iconst hC dX5_isUsed_80 rfl ?_
              refine y_zret hK rfl dX5_isUsed_81 (by omega) ?_
              exact k0 (by rintro ⟨j, j0, j1, j2⟩; exact i0_42 j j0.1 (by omega) ⟨j1, j2⟩)
            · refine r_aload_n hC dX5_isUsed_47 rfl ?_
              refine z_getR hM dX5_isUsed_48 fl_RX5_27 rfl rfl (vld_of (n := 1) rfl (by omega) (by omega)) ?_
              refine r_iload_n hC dX5_isUsed_51 rfl ?_
              refine z_aald hM dX5_isUsed_52 rfl (by decide) (by omega) (by omega) (vld_of (n := 7) rfl (by omega) (by omega)) ?_
              rw [show rfa 4 w3 = (7, (w3 + 4)) from by simp [rfa]; try omega]
              refine z_getI (jz := 1) hM dX5_isUsed_53 fl_RX5_94 rfl rfl rfl (fun v5 h_v5 o_v5 t_v5 => ?_)
              have w_v5 := ((t_v5 (Or.inl (by simp [Tb]))).trans (rfl)).symm
              subst w_v5
              have q_v5 : 0 ≤ (σ 7 (w3 + 4) 1) ∧ (σ 7 (w3 + 4) 1) ≤ 1 := by have := o_v5.2.1 rfl; omega
              refine r_if_eq (tgt := 74) hC dX5_isUsed_56 rfl (fun h6 => ?_) (fun h6 => ?_)
              · refine r_iincE hC ((w3 + 1)) dX5_isUsed_74 rfl rfl (by omega) (by unfold inR; omega) ?_
                refine r_goto (tgt := 42) hC dX5_isUsed_77 rfl ?_
                exact ih42 ((w3 + 1))  (by omega) (by intro j h0 h1; first | exact i0_2 j h0 (by omega) | (rcases (by omega : j < w3 + 4 ∨ j = w3 + 4) with h | h; exact i0_42 j h0 h; subst h; omega)) (by omega)  
              · refine r_aload_n hC dX5_isUsed_59 rfl ?_
                refine z_getR hM dX5_isUsed_60 fl_RX5_27 rfl rfl (vld_of (n := 1) rfl (by omega) (by omega)) ?_
                refine r_iload_n hC dX5_isUsed_63 rfl ?_
                refine z_aald hM dX5_isUsed_64 rfl (by decide) (by omega) (by omega) (vld_of (n := 7) rfl (by omega) (by omega)) ?_
                rw [show rfa 4 w3 = (7, (w3 + 4)) from by simp [rfa]; try omega]
                refine z_getI (jz := 2) hM dX5_isUsed_65 fl_RX5_98 rfl rfl rfl (fun v7 h_v7 o_v7 t_v7 => ?_)
                have w_v7 := ((t_v7 (Or.inl (by simp [Tb]))).trans (rfl)).symm
                subst w_v7
                have q_v7 : 0 ≤ (σ 7 (w3 + 4) 2) ∧ (σ 7 (w3 + 4) 2) ≤ 9 := o_v7.2.2 rfl
                refine r_iload_n hC dX5_isUsed_68 rfl ?_
                refine r_icmp_ne (tgt := 74) hC dX5_isUsed_69 rfl (fun h8 => ?_) (fun h8 => ?_)
                · refine r_iincE hC ((w3 + 1)) dX5_isUsed_74 rfl rfl (by omega) (by unfold inR; omega) ?_
                  refine r_goto (tgt := 42) hC dX5_isUsed_77 rfl ?_
                  exact ih42 ((w3 + 1))  (by omega) (by intro j h0 h1; first | exact i0_2 j h0 (by omega) | (rcases (by omega : j < w3 + 4 ∨ j = w3 + 4) with h | h; exact i0_42 j h0 h; subst h; omega)) (by omega)  
                · refine r_iconst hC dX5_isUsed_72 rfl ?_
                  refine y_zret hK rfl dX5_isUsed_73 (by omega) ?_
                  exact k1 ⟨w3 + 4, by omega, by omega, by omega⟩
        exact L42 5 (0)  (by omega) (by intro j h0 h1; first | exact i0_2 j h0 (by omega) | (rcases (by omega : j < w3 + 4 ∨ j = w3 + 4) with h | h; exact i0_42 j h0 h; subst h; omega)) (by omega)  
      · refine r_aload_n hC dX5_isUsed_7 rfl ?_
        refine z_getR hM dX5_isUsed_8 fl_RX5_13 rfl rfl (vld_of (n := 1) rfl (by omega) (by omega)) ?_
        refine r_iload_n hC dX5_isUsed_11 rfl ?_
        refine z_aald hM dX5_isUsed_12 rfl (by decide) (by omega) (by omega) (vld_of (n := 7) rfl (by omega) (by omega)) ?_
        refine z_getI (jz := 1) hM dX5_isUsed_13 fl_RX5_94 rfl rfl rfl (fun v9 h_v9 o_v9 t_v9 => ?_)
        have w_v9 := ((t_v9 (Or.inl (by simp [Tb]))).trans (rfl)).symm
        subst w_v9
        have q_v9 : 0 ≤ (σ 7 w1 1) ∧ (σ 7 w1 1) ≤ 1 := by have := o_v9.2.1 rfl; omega
        refine r_if_eq (tgt := 34) hC dX5_isUsed_16 rfl (fun h10 => ?_) (fun h10 => ?_)
        · refine r_iincE hC ((w1 + 1)) dX5_isUsed_34 rfl rfl (by omega) (by unfold inR; omega) ?_
          refine r_goto (tgt := 2) hC dX5_isUsed_37 rfl ?_
          exact ih2 ((w1 + 1))  (by omega) (by intro j h0 h1; first | omega | (rcases (by omega : j < w1 ∨ j = w1) with h | h; exact i0_2 j h0 h; subst h; omega)) (by omega)  
        · refine r_aload_n hC dX5_isUsed_19 rfl ?_
          refine z_getR hM dX5_isUsed_20 fl_RX5_13 rfl rfl (vld_of (n := 1) rfl (by omega) (by omega)) ?_
          refine r_iload_n hC dX5_isUsed_23 rfl ?_
          refine z_aald hM dX5_isUsed_24 rfl (by decide) (by omega) (by omega) (vld_of (n := 7) rfl (by omega) (by omega)) ?_
          refine z_getI (jz := 2) hM dX5_isUsed_25 fl_RX5_98 rfl rfl rfl (fun v11 h_v11 o_v11 t_v11 => ?_)
          have w_v11 := ((t_v11 (Or.inl (by simp [Tb]))).trans (rfl)).symm
          subst w_v11
          have q_v11 : 0 ≤ (σ 7 w1 2) ∧ (σ 7 w1 2) ≤ 9 := o_v11.2.2 rfl
          refine r_iload_n hC dX5_isUsed_28 rfl ?_
          refine r_icmp_ne (tgt := 34) hC dX5_isUsed_29 rfl (fun h12 => ?_) (fun h12 => ?_)
          · refine r_iincE hC ((w1 + 1)) dX5_isUsed_34 rfl rfl (by omega) (by unfold inR; omega) ?_
            refine r_goto (tgt := 2) hC dX5_isUsed_37 rfl ?_
            exact ih2 ((w1 + 1))  (by omega) (by intro j h0 h1; first | omega | (rcases (by omega : j < w1 ∨ j = w1) with h | h; exact i0_2 j h0 h; subst h; omega)) (by omega)  
          · refine r_iconst hC dX5_isUsed_32 rfl ?_
            refine y_zret hK rfl dX5_isUsed_33 (by omega) ?_
            exact k1 ⟨w1, by omega, by omega, by omega⟩
  exact L2 6 (0)  (by omega) (by intro j h0 h1; first | omega | (rcases (by omega : j < w1 ∨ j = w1) with h | h; exact i0_2 j h0 h; subst h; omega)) (by omega)  
theorem x_table {ec : Bool} {d : Nat} {P : Option Vl → Mm → Prop} {σ : Mm} {x y : Int}   (k1 : ((0 ≤ x ∧ x ≤ 15) ∧ 0 ≤ y ∧ y ≤ 3) ∧ ¬ usV σ 9 → P (some (vI 1)) (mu σ 15 0 x y)) (k0 : ¬ (((0 ≤ x ∧ x ≤ 15) ∧ 0 ≤ y ∧ y ≤ 3) ∧ ¬ usV σ 9) → P (some (vI 0)) σ) : WT (true, false, ec) (d + 2) 47 [vR 2 0, vI x, vI y] σ P := by
  refine WT_in fun K hK => ?_
  have hK : StpY (true, false, ec) cX5_table RX5 (some .boolean) (WT (true, false, ec) (d + 1)) P K := hK
  have hM := hK.1
  have hC := hK.1.1
  show K 0 [some (vR 2 0), some (vI x), some (vI y)] [] σ
  refine r_rngz hC (fun g0 => ?_)
  have r_x : -2147483648 ≤ x ∧ x ≤ 2147483647 := inR_le (g0 (vI x) (by simp))
  have r_y : -2147483648 ≤ y ∧ y ≤ 2147483647 := inR_le (g0 (vI y) (by simp))
  refine r_iload_n hC dX5_table_0 rfl ?_
  refine r_iconst hC dX5_table_1 rfl ?_
  refine r_bipush hC dX5_table_2 rfl ?_
  refine z_ins3 hM dX5_table_4 tl_RX5_59 rfl (Nat.le_of_ble_eq_true rfl) (Nat.le_of_ble_eq_true rfl) ?_
  refine s_within (fun h2 => ?_) (fun h2 => ?_)
  · refine r_if_eq (tgt := 28) hC dX5_table_7 rfl (fun h3 => by omega) (fun h3 => ?_)
    refine r_iload_n hC dX5_table_10 rfl ?_
    refine r_iconst hC dX5_table_11 rfl ?_
    refine r_iconst hC dX5_table_12 rfl ?_
    refine z_ins3 hM dX5_table_13 tl_RX5_59 rfl (Nat.le_of_ble_eq_true rfl) (Nat.le_of_ble_eq_true rfl) ?_
    refine s_within (fun h5 => ?_) (fun h5 => ?_)
    · refine r_if_eq (tgt := 28) hC dX5_table_16 rfl (fun h6 => by omega) (fun h6 => ?_)
      refine r_aload_n hC dX5_table_19 rfl ?_
      refine r_bipush hC dX5_table_20 rfl ?_
      refine z_inv1 hM dX5_table_22 vl_RX5_63 rfl rfl rfl (Nat.le_of_ble_eq_true rfl) (Nat.le_of_ble_eq_true rfl) ?_
      refine x_isUsed (fun hus => ?_) (fun hus => ?_)
      · refine r_if_eq (tgt := 30) hC dX5_table_25 rfl (fun h7 => by omega) (fun h7 => ?_)
        refine r_iconst hC dX5_table_28 rfl ?_
        refine y_zret hK rfl dX5_table_29 (by omega) ?_
        exact k0 (fun q => by have q1 := q.1; first | omega | exact q.2 hus)
      · refine r_if_eq (tgt := 30) hC dX5_table_25 rfl (fun h8 => ?_) (fun h8 => by omega)
        refine r_aload_n hC dX5_table_30 rfl ?_
        refine z_getR hM dX5_table_31 fl_RX5_40 rfl rfl (vld_of (n := 1) rfl (by omega) (by omega)) ?_
        refine z_getR hM dX5_table_34 fl_RX5_67 rfl rfl (vld_of (n := 1) rfl (by omega) (by omega)) ?_
        refine r_iload_n hC dX5_table_37 rfl ?_
        refine r_iload_n hC dX5_table_38 rfl ?_
        refine z_iastT hM dX5_table_39 rfl (by omega) (by omega) ⟨Or.inr (by simp [DL]), Or.inr (by simp [DF])⟩ (by first | trivial | (simp only [Okv]; omega) | (simp [Okv]; try omega)) ?_
        refine r_iconst hC dX5_table_40 rfl ?_
        refine y_zret hK rfl dX5_table_41 (by omega) ?_
        exact k1 ⟨by omega, hus⟩
    · refine r_if_eq (tgt := 28) hC dX5_table_16 rfl (fun h9 => ?_) (fun h9 => by omega)
      refine r_iconst hC dX5_table_28 rfl ?_
      refine y_zret hK rfl dX5_table_29 (by omega) ?_
      exact k0 (fun q => by have q1 := q.1; first | omega | exact q.2 hus)
  · refine r_if_eq (tgt := 28) hC dX5_table_7 rfl (fun h10 => ?_) (fun h10 => by omega)
    refine r_iconst hC dX5_table_28 rfl ?_
    refine y_zret hK rfl dX5_table_29 (by omega) ?_
    exact k0 (fun q => by have q1 := q.1; first | omega | exact q.2 hus)
theorem x_letter {ec : Bool} {d : Nat} {P : Option Vl → Mm → Prop} {σ : Mm} {x y : Int}   (k1 : ((0 ≤ x ∧ x ≤ 7) ∧ 0 ≤ y ∧ y ≤ 255) ∧ ¬ usV σ 4 → P (some (vI 1)) (mu σ 16 0 x y)) (k0 : ¬ (((0 ≤ x ∧ x ≤ 7) ∧ 0 ≤ y ∧ y ≤ 255) ∧ ¬ usV σ 4) → P (some (vI 0)) σ) : WT (true, false, ec) (d + 2) 48 [vR 2 0, vI x, vI y] σ P := by
  refine WT_in fun K hK => ?_
  have hK : StpY (true, false, ec) cX5_letter RX5 (some .boolean) (WT (true, false, ec) (d + 1)) P K := hK
  have hM := hK.1
  have hC := hK.1.1
  show K 0 [some (vR 2 0), some (vI x), some (vI y)] [] σ
  refine r_rngz hC (fun g0 => ?_)
  have r_x : -2147483648 ≤ x ∧ x ≤ 2147483647 := inR_le (g0 (vI x) (by simp))
  have r_y : -2147483648 ≤ y ∧ y ≤ 2147483647 := inR_le (g0 (vI y) (by simp))
  refine r_iload_n hC dX5_letter_0 rfl ?_
  refine r_iconst hC dX5_letter_1 rfl ?_
  refine r_bipush hC dX5_letter_2 rfl ?_
  refine z_ins3 hM dX5_letter_4 tl_RX5_59 rfl (Nat.le_of_ble_eq_true rfl) (Nat.le_of_ble_eq_true rfl) ?_
  refine s_within (fun h2 => ?_) (fun h2 => ?_)
  · refine r_if_eq (tgt := 29) hC dX5_letter_7 rfl (fun h3 => by omega) (fun h3 => ?_)
    refine r_iload_n hC dX5_letter_10 rfl ?_
    refine r_iconst hC dX5_letter_11 rfl ?_
    refine r_sipush hC dX5_letter_12 rfl ?_
    refine z_ins3 hM dX5_letter_15 tl_RX5_59 rfl (Nat.le_of_ble_eq_true rfl) (Nat.le_of_ble_eq_true rfl) ?_
    refine s_within (fun h5 => ?_) (fun h5 => ?_)
    · refine r_if_eq (tgt := 29) hC dX5_letter_18 rfl (fun h6 => by omega) (fun h6 => ?_)
      refine r_aload_n hC dX5_letter_21 rfl ?_
      refine r_iconst hC dX5_letter_22 rfl ?_
      refine z_inv1 hM dX5_letter_23 vl_RX5_63 rfl rfl rfl (Nat.le_of_ble_eq_true rfl) (Nat.le_of_ble_eq_true rfl) ?_
      refine x_isUsed (fun hus => ?_) (fun hus => ?_)
      · refine r_if_eq (tgt := 31) hC dX5_letter_26 rfl (fun h7 => by omega) (fun h7 => ?_)
        refine r_iconst hC dX5_letter_29 rfl ?_
        refine y_zret hK rfl dX5_letter_30 (by omega) ?_
        exact k0 (fun q => by have q1 := q.1; first | omega | exact q.2 hus)
      · refine r_if_eq (tgt := 31) hC dX5_letter_26 rfl (fun h8 => ?_) (fun h8 => by omega)
        refine r_aload_n hC dX5_letter_31 rfl ?_
        refine z_getR hM dX5_letter_32 fl_RX5_40 rfl rfl (vld_of (n := 1) rfl (by omega) (by omega)) ?_
        refine z_getR hM dX5_letter_35 fl_RX5_71 rfl rfl (vld_of (n := 1) rfl (by omega) (by omega)) ?_
        refine r_iload_n hC dX5_letter_38 rfl ?_
        refine r_iload_n hC dX5_letter_39 rfl ?_
        refine z_iastT hM dX5_letter_40 rfl (by omega) (by omega) ⟨Or.inr (by simp [DL]), Or.inr (by simp [DF])⟩ (by first | trivial | (simp only [Okv]; omega) | (simp [Okv]; try omega)) ?_
        refine r_iconst hC dX5_letter_41 rfl ?_
        refine y_zret hK rfl dX5_letter_42 (by omega) ?_
        exact k1 ⟨by omega, hus⟩
    · refine r_if_eq (tgt := 29) hC dX5_letter_18 rfl (fun h9 => ?_) (fun h9 => by omega)
      refine r_iconst hC dX5_letter_29 rfl ?_
      refine y_zret hK rfl dX5_letter_30 (by omega) ?_
      exact k0 (fun q => by have q1 := q.1; first | omega | exact q.2 hus)
  · refine r_if_eq (tgt := 29) hC dX5_letter_7 rfl (fun h10 => ?_) (fun h10 => by omega)
    refine r_iconst hC dX5_letter_29 rfl ?_
    refine y_zret hK rfl dX5_letter_30 (by omega) ?_
    exact k0 (fun q => by have q1 := q.1; first | omega | exact q.2 hus)
