-- B: rings
theorem noM_eq {V ρ : Mm} {w z t : Int} (g : ∀ (c : Nat) (x y : Int), ¬ (c = 12 ∧ x = w ∧ 3 ≤ y ∧ y ≤ 5) → ρ c x y = V c x y) (h3 : ρ 12 w 3 = z) (h4 : ρ 12 w 4 = if z = 1 ∧ V 12 w 3 = 0 then wr (V 12 w 4 + 1) else V 12 w 4) (h5 : ρ 12 w 5 = if z = 1 ∧ V 12 w 3 = 0 then t else V 12 w 5) : noM V w z t = ρ := by
  funext c x y
  by_cases hq : c = 12 ∧ x = w ∧ 3 ≤ y ∧ y ≤ 5
  · obtain ⟨rfl, rfl, hy⟩ := hq
    unfold noM
    rw [if_pos ⟨rfl, rfl⟩]
    rcases (by omega : y = 3 ∨ y = 4 ∨ y = 5) with rfl | rfl | rfl
    · rw [if_pos rfl, h3]
    · rw [if_neg (by omega), if_pos rfl, h4]
    · rw [if_neg (by omega), if_neg (by omega), if_pos rfl, h5]
  · rw [noM_ne hq, g c x y hq]
theorem x_note {e : Ev} {d : Nat} {P : Option Vl → Mm → Prop} {σ : Mm} {i z t : Int} (b_i : 0 ≤ i ∧ i ≤ 7) (b_z : 0 ≤ z ∧ z ≤ 1)  (k : P none (noM σ i z t)) : WT e (d + 1) 44 [vR 12 i, vI z, vI t] σ P := by
  refine WT_in fun K hK => ?_
  have hK : StpY e cX4_note RX4 (none) (WT e (d + 0)) P K := hK
  have hM := hK.1
  have hC := hK.1.1
  show K 0 [some (vR 12 i), some (vI z), some (vI t)] [] σ
  refine r_rngz hC (fun g0 => ?_)
  have r_t : -2147483648 ≤ t ∧ t ≤ 2147483647 := inR_le (g0 (vI t) (by simp))
  refine r_iload_n hC dX4_note_0 rfl ?_
  refine r_if_eq (tgt := 26) hC dX4_note_1 rfl (fun h1 => ?_) (fun h1 => ?_)
  · refine r_aload_n hC dX4_note_26 rfl ?_
    refine r_iload_n hC dX4_note_27 rfl ?_
    refine z_putZT (jz := 3) hM dX4_note_28 fw_RX4_21 rfl rfl rfl (by omega) ⟨Or.inr (by simp [DL]), Or.inr (by simp [DF])⟩ (by first | trivial | (simp only [Okv]; omega) | (simp [Okv]; try omega)) ?_
    refine y_vret hK rfl dX4_note_31 ?_
    have hm : noM σ i z t = (mu σ 12 i 3 z) := noM_eq (fun c x y h => (mu_ne (by omega)).trans (rfl)) ((mu_self _ _ _ _ _).trans (by first | rfl | exact (if_pos (by omega)).symm | exact (if_neg (by omega)).symm)) (((mu_ne (by omega)).trans (rfl)).trans (by first | rfl | exact (if_pos (by omega)).symm | exact (if_neg (by omega)).symm)) (((mu_ne (by omega)).trans (rfl)).trans (by first | rfl | exact (if_pos (by omega)).symm | exact (if_neg (by omega)).symm))
    rw [hm] at k
    exact k
  · refine r_aload_n hC dX4_note_4 rfl ?_
    refine z_getI (jz := 3) hM dX4_note_5 fl_RX4_21 rfl rfl rfl (fun v2 h_v2 o_v2 t_v2 => ?_)
    have w_v2 := ((t_v2 (Or.inl (by simp [Tb]))).trans (rfl)).symm
    subst w_v2
    refine r_if_ne (tgt := 26) hC dX4_note_8 rfl (fun h3 => ?_) (fun h3 => ?_)
    · refine r_aload_n hC dX4_note_26 rfl ?_
      refine r_iload_n hC dX4_note_27 rfl ?_
      refine z_putZT (jz := 3) hM dX4_note_28 fw_RX4_21 rfl rfl rfl (by omega) ⟨Or.inr (by simp [DL]), Or.inr (by simp [DF])⟩ (by first | trivial | (simp only [Okv]; omega) | (simp [Okv]; try omega)) ?_
      refine y_vret hK rfl dX4_note_31 ?_
      have hm : noM σ i z t = (mu σ 12 i 3 z) := noM_eq (fun c x y h => (mu_ne (by omega)).trans (rfl)) ((mu_self _ _ _ _ _).trans (by first | rfl | exact (if_pos (by omega)).symm | exact (if_neg (by omega)).symm)) (((mu_ne (by omega)).trans (rfl)).trans (by first | rfl | exact (if_pos (by omega)).symm | exact (if_neg (by omega)).symm)) (((mu_ne (by omega)).trans (rfl)).trans (by first | rfl | exact (if_pos (by omega)).symm | exact (if_neg (by omega)).symm))
      rw [hm] at k
      exact k
    · refine r_aload_n hC dX4_note_11 rfl ?_
      refine r_dup hC dX4_note_12 rfl ?_
      refine z_getI (jz := 4) hM dX4_note_13 fl_RX4_25 rfl rfl rfl (fun v4 h_v4 o_v4 t_v4 => ?_)
      have w_v4 := ((t_v4 (Or.inl (by simp [Tb]))).trans (rfl)).symm
      subst w_v4
      refine r_iconst hC dX4_note_16 rfl ?_
      refine r_iadd hC dX4_note_17 ?_
      have f5 := inR_le (inR_wr ((σ 12 i 4) + 1))
      refine z_putIT (jz := 4) hM dX4_note_18 fw_RX4_25 rfl rfl rfl ⟨Or.inr (by simp [DL]), Or.inr (by simp [DF])⟩ (by first | trivial | (simp only [Okv]; omega) | (simp [Okv]; try omega)) ?_
      refine r_aload_n hC dX4_note_21 rfl ?_
      refine r_iload_n hC dX4_note_22 rfl ?_
      refine z_putIT (jz := 5) hM dX4_note_23 fw_RX4_28 rfl rfl rfl ⟨Or.inr (by simp [DL]), Or.inr (by simp [DF])⟩ (by first | trivial | (simp only [Okv]; omega) | (simp [Okv]; try omega)) ?_
      refine r_aload_n hC dX4_note_26 rfl ?_
      refine r_iload_n hC dX4_note_27 rfl ?_
      refine z_putZT (jz := 3) hM dX4_note_28 fw_RX4_21 rfl rfl rfl (by omega) ⟨Or.inr (by simp [DL]), Or.inr (by simp [DF])⟩ (by first | trivial | (simp only [Okv]; omega) | (simp [Okv]; try omega)) ?_
      refine y_vret hK rfl dX4_note_31 ?_
      have hm : noM σ i z t = (mu (mu (mu σ 12 i 4 (wr ((σ 12 i 4) + 1))) 12 i 5 t) 12 i 3 z) := noM_eq (fun c x y h => (mu_ne (by omega)).trans ((mu_ne (by omega)).trans ((mu_ne (by omega)).trans (rfl)))) ((mu_self _ _ _ _ _).trans (by first | rfl | exact (if_pos (by omega)).symm | exact (if_neg (by omega)).symm)) (((mu_ne (by omega)).trans ((mu_ne (by omega)).trans (mu_self _ _ _ _ _))).trans (by first | rfl | exact (if_pos (by omega)).symm | exact (if_neg (by omega)).symm)) (((mu_ne (by omega)).trans (mu_self _ _ _ _ _)).trans (by first | rfl | exact (if_pos (by omega)).symm | exact (if_neg (by omega)).symm))
      rw [hm] at k
      exact k
theorem x_isWatched {e : Ev} {d : Nat} {P : Option Vl → Mm → Prop} {σ : Mm} {l : Int}   (k1 : P (some (vI 1)) σ) (k0 : (∀ j : Int, 0 ≤ j → j < 8 → σ 12 j 0 ≠ l) → P (some (vI 0)) σ) : WT e (d + 1) 103 [vR 2 0, vI l] σ P := by
  refine WT_in fun K hK => ?_
  have hK : StpY e cX5_isWatched RX5 (some .boolean) (WT e (d + 0)) P K := hK
  have hM := hK.1
  have hC := hK.1.1
  show K 0 [some (vR 2 0), some (vI l), none] [] σ
  refine r_rngz hC (fun g0 => ?_)
  have r_l : -2147483648 ≤ l ∧ l ≤ 2147483647 := inR_le (g0 (vI l) (by simp))
  refine r_iconst hC dX5_isWatched_0 rfl ?_
  refine r_istore_n hC dX5_isWatched_1 rfl ?_
  have L2 : ∀ (n2 : Nat) (w1 : Int), 0 ≤ w1 ∧ w1 ≤ 8 → (∀ j : Int, 0 ≤ j → j < (w1) → σ 12 j 0 ≠ l) → 8 - w1 < (n2 : Int) → K 2 [some (vR 2 0), some (vI l), some (vI w1)] [] σ := by
    intro n2
    induction n2 with
    | zero => intro w1  f_w1 i0_2 hm  ; omega
    | succ n2 ih2 =>
      intro w1  f_w1 i0_2 hm2  
      refine r_iload_n hC dX5_isWatched_2 rfl ?_
      refine r_bipush hC dX5_isWatched_3 rfl ?_
      refine r_icmp_ge (tgt := 29) hC dX5_isWatched_5 rfl (fun h2 => ?_) (fun h2 => ?_)
      · refine r_iconst hC dX5_isWatched_29 rfl ?_
        refine y_zret hK rfl dX5_isWatched_30 (by omega) ?_
        exact k0 (fun j h0 h1 => i0_2 j h0 (by omega))
      · refine r_aload_n hC dX5_isWatched_8 rfl ?_
        refine z_getR hM dX5_isWatched_9 fl_RX5_32 rfl rfl (vld_of (n := 1) rfl (by omega) (by omega)) ?_
        refine r_iload_n hC dX5_isWatched_12 rfl ?_
        refine z_aald hM dX5_isWatched_13 rfl (by decide) (by omega) (by omega) (vld_of (n := 8) rfl (by omega) (by omega)) ?_
        refine z_getI (jz := 0) hM dX5_isWatched_14 fl_RX5_321 rfl rfl rfl (fun v3 h_v3 o_v3 t_v3 => ?_)
        have w_v3 := ((t_v3 (Or.inl (by simp [Tb]))).trans (rfl)).symm
        subst w_v3
        refine r_iload_n hC dX5_isWatched_17 rfl ?_
        refine r_icmp_ne (tgt := 23) hC dX5_isWatched_18 rfl (fun h4 => ?_) (fun h4 => ?_)
        · refine r_iincE hC ((w1 + 1)) dX5_isWatched_23 rfl rfl (by omega) (by unfold inR; omega) ?_
          refine r_goto (tgt := 2) hC dX5_isWatched_26 rfl ?_
          exact ih2 ((w1 + 1))  (by omega) (by first | (intro j h0 h1; omega) | (intro j h0 h1; rcases (by omega : j < w1 ∨ j = w1) with h | h; exact i0_2 j h0 h; subst h; assumption)) (by omega)  
        · refine r_iconst hC dX5_isWatched_21 rfl ?_
          refine y_zret hK rfl dX5_isWatched_22 (by omega) ?_
          exact k1
  exact L2 10 (0)  (by omega) (by first | (intro j h0 h1; omega) | (intro j h0 h1; rcases (by omega : j < w1 ∨ j = w1) with h | h; exact i0_2 j h0 h; subst h; assumption)) (by omega)  
theorem x_reaches {eb : Bool} {u : Int → Int} {n : Nat} {o : Int} {d : Nat} {P : Option Vl → Mm → Prop} {σ : Mm} {w b : Int}  (b_o : 0 ≤ o ∧ o ≤ 9) (hn : n ≤ 242) (hF : FRc σ o u n)  (k1 : ((cm (σ 16 0) (σ 15 0) o u n w) ≠ NO ∧ b ≤ (cm (σ 16 0) (σ 15 0) o u n w)) → P (some (vI 1)) σ) (k0 : ¬ ((cm (σ 16 0) (σ 15 0) o u n w) ≠ NO ∧ b ≤ (cm (σ 16 0) (σ 15 0) o u n w)) → P (some (vI 0)) σ) : WT (true, true, eb) (d + 2) 11 [vR 14 0, vI w, vI b] σ P := by
  refine WT_in fun K hK => ?_
  have hK : StpY (true, true, eb) cX1_reaches RX1 (some .boolean) (WT (true, true, eb) (d + 1)) P K := hK
  have hM := hK.1
  have hC := hK.1.1
  show K 0 [some (vR 14 0), some (vI w), some (vI b), none] [] σ
  refine r_rngz hC (fun g0 => ?_)
  have r_w : -2147483648 ≤ w ∧ w ≤ 2147483647 := inR_le (g0 (vI w) (by simp))
  have r_b : -2147483648 ≤ b ∧ b ≤ 2147483647 := inR_le (g0 (vI b) (by simp))
  refine r_aload_n hC dX1_reaches_0 rfl ?_
  refine r_iload_n hC dX1_reaches_1 rfl ?_
  refine z_inv1 hM dX1_reaches_2 vl_RX1_44 rfl rfl rfl (Nat.le_of_ble_eq_true rfl) (Nat.le_of_ble_eq_true rfl) ?_
  refine x_number b_o hF.1 hF.2.1 hn hF ?_
  refine r_istore_n hC dX1_reaches_5 rfl ?_
  refine r_iload_n hC dX1_reaches_6 rfl ?_
  refine r_ldc hC dX1_reaches_7 co_RX1_40 rfl ?_
  refine r_icmp_eq (tgt := 21) hC dX1_reaches_9 rfl (fun h1 => ?_) (fun h1 => ?_)
  · refine r_iconst hC dX1_reaches_21 rfl ?_
    refine y_zret hK rfl dX1_reaches_22 (by omega) ?_
    exact k0 (by unfold NO; omega)
  · refine r_iload_n hC dX1_reaches_12 rfl ?_
    refine r_iload_n hC dX1_reaches_13 rfl ?_
    refine r_icmp_lt (tgt := 21) hC dX1_reaches_14 rfl (fun h2 => ?_) (fun h2 => ?_)
    · refine r_iconst hC dX1_reaches_21 rfl ?_
      refine y_zret hK rfl dX1_reaches_22 (by omega) ?_
      exact k0 (by unfold NO; omega)
    · refine r_iconst hC dX1_reaches_17 rfl ?_
      refine r_goto (tgt := 22) hC dX1_reaches_18 rfl ?_
      refine y_zret hK rfl dX1_reaches_22 (by omega) ?_
      exact k1 (by unfold NO; omega)
theorem x_ring_S {eb : Bool} {d : Nat} {P : Option Vl → Mm → Prop} {σ : Mm} {i : Int} (b_i : 0 ≤ i ∧ i ≤ 6) (hn0 : σ 7 i 0 = i) (hI : InF σ)  (k : ∀ ρ : Mm, (∀ (c : Nat) (x y : Int), ¬ (c = 17 ∧ x = 0 ∨ c = 14 ∧ x = 0 ∧ (y = 5 ∨ y = 6 ∨ y = 7)) → ρ c x y = rgM σ i c x y) → InF ρ → P none ρ) : WT (true, true, eb) (d + 4) 102 [vR 2 0, vR 7 i] σ P := by
  refine WT_in fun K hK => ?_
  have hK : StpY (true, true, eb) cX5_ringWatches RX5 (none) (WT (true, true, eb) (d + 3)) P K := hK
  have hM := hK.1
  have hC := hK.1.1
  show K 0 [some (vR 2 0), some (vR 7 i), none, none] [] σ
  refine z_ok hM (fun hok => ?_)
  refine r_aload_n hC dX5_ringWatches_0 rfl ?_
  refine r_aload_n hC dX5_ringWatches_1 rfl ?_
  refine z_getI (jz := 0) hM dX5_ringWatches_2 fl_RX5_212 rfl rfl rfl (fun v1 h_v1 o_v1 t_v1 => ?_)
  have w_v1 := t_v1 (Or.inl (by simp [Tb]))
  subst w_v1
  refine z_inv1 hM dX5_ringWatches_5 vl_RX5_324 rfl rfl rfl (Nat.le_of_ble_eq_true rfl) (Nat.le_of_ble_eq_true rfl) ?_
  refine x_isWatched ?_ (fun hnw => ?_)
  · refine r_if_ne (tgt := 12) hC dX5_ringWatches_8 rfl (fun h2 => ?_) (fun h2 => by omega)
    have b6 := (hok 7 i 6 (Or.inl (by simp [Tb]))).1 rfl
    refine r_aload_n hC dX5_ringWatches_12 rfl ?_
    refine z_getR hM dX5_ringWatches_13 fl_RX5_40 rfl rfl (vld_of (n := 1) rfl (by omega) (by omega)) ?_
    refine r_aload_n hC dX5_ringWatches_16 rfl ?_
    refine z_getI (jz := 2) hM dX5_ringWatches_17 fl_RX5_98 rfl rfl rfl (fun v3 h_v3 o_v3 t_v3 => ?_)
    have w_v3 := t_v3 (Or.inl (by simp [Tb]))
    subst w_v3
    have q_v3 : 0 ≤ (σ 7 i 2) ∧ (σ 7 i 2) ≤ 9 := o_v3.2.2 rfl
    refine z_inv1 hM dX5_ringWatches_20 vl_RX5_251 rfl rfl rfl (Nat.le_of_ble_eq_true rfl) (Nat.le_of_ble_eq_true rfl) ?_
    refine x_begin (by omega) rfl rfl rfl rfl rfl rfl rfl rfl rfl rfl (fun ρ4 g_ρ4 z_ρ4 => ?_)
    have t12_ρ4 : ∀ w y : Int, ρ4 12 w y = σ 12 w y := fun w y => g_ρ4 12 w y (by omega)
    refine r_iconst hC dX5_ringWatches_23 rfl ?_
    refine r_istore_n hC dX5_ringWatches_24 rfl ?_
    have L25 : ∀ (n25 : Nat) (w5 : Int) (ρ6 : Mm), 0 ≤ w5 ∧ w5 ≤ 121 → ((w5) ≤ σ 7 i 6) → 121 - w5 < (n25 : Int) → Gx (fun c x y => c = 17 ∧ x = 0 ∨ c = 14 ∧ x = 0 ∧ (y = 5 ∨ y = 6 ∨ y = 7) ∨ c = 12 ∧ 3 ≤ y ∧ y ≤ 5) σ ρ6 → (FRc ρ6 (σ 7 i 2) (σ 9 i) ((w5)).toNat) → (∀ w y : Int, ρ6 12 w y = σ 12 w y) → K 25 [some (vR 2 0), some (vR 7 i), some (vI w5), none] [] ρ6 := by
      intro n25
      induction n25 with
      | zero => intro w5 ρ6 f_w5 i0_25 hm g_ρ6 m0_25 m1_25; omega
      | succ n25 ih25 =>
        intro w5 ρ6 f_w5 i0_25 hm25 g_ρ6 m0_25 m1_25
        have q6_25 := (g_ρ6) 7 i 6 (by omega)
        refine r_iload_n hC dX5_ringWatches_25 rfl ?_
        refine r_aload_n hC dX5_ringWatches_26 rfl ?_
        refine z_getI (jz := 6) hM dX5_ringWatches_27 fl_RX5_154 rfl rfl rfl (fun v7 h_v7 o_v7 t_v7 => ?_)
        have w_v7 := t_v7 (Or.inl (by simp [Tb]))
        subst w_v7
        have q_v7 : 0 ≤ (ρ6 7 i 6) ∧ (ρ6 7 i 6) ≤ 121 := o_v7.1 rfl
        refine r_icmp_ge (tgt := 52) hC dX5_ringWatches_30 rfl (fun h8 => ?_) (fun h8 => ?_)
        · refine r_iconst hC dX5_ringWatches_52 rfl ?_
          refine r_istore_n hC dX5_ringWatches_53 rfl ?_
          have L54 : ∀ (n54 : Nat) (w9 : Int) (ρ10 : Mm), 0 ≤ w9 ∧ w9 ≤ 8 → 8 - w9 < (n54 : Int) → Gx (fun c x y => c = 17 ∧ x = 0 ∨ c = 14 ∧ x = 0 ∧ (y = 5 ∨ y = 6 ∨ y = 7) ∨ c = 12 ∧ 3 ≤ y ∧ y ≤ 5) σ ρ10 → (FRc ρ10 (σ 7 i 2) (σ 9 i) (σ 7 i 6).toNat) → (∀ x y : Int, ρ10 12 x y = rgK σ i (w9) 12 x y) → K 54 [some (vR 2 0), some (vR 7 i), some (vI w9), none] [] ρ10 := by
            intro n54
            induction n54 with
            | zero => intro w9 ρ10 f_w9  hm g_ρ10 m0_54 m1_54; omega
            | succ n54 ih54 =>
              intro w9 ρ10 f_w9  hm54 g_ρ10 m0_54 m1_54
              refine r_iload_n hC dX5_ringWatches_54 rfl ?_
              refine r_bipush hC dX5_ringWatches_55 rfl ?_
              refine r_icmp_ge (tgt := 107) hC dX5_ringWatches_57 rfl (fun h11 => ?_) (fun h11 => ?_)
              · refine y_vret hK rfl dX5_ringWatches_107 ?_
                refine k _ (fun c x y hc => ?_) (m0_54.inF (fun j h0 h1 => by rw [(g_ρ10) 15 0 j (by omega)]; exact hok 15 0 j (Or.inl trivial)))
                have h12 : ∀ x y : Int, ρ10 12 x y = rgM σ i 12 x y := fun x y => by rw [m1_54 x y, rgK_8 (by omega)]
                by_cases e12 : c = 12
                · subst e12; exact h12 x y
                · rw [rgM_ne (by omega)]; exact (g_ρ10) c x y (by omega)
              · refine r_aload_n hC dX5_ringWatches_60 rfl ?_
                refine z_getR hM dX5_ringWatches_61 fl_RX5_32 rfl rfl (vld_of (n := 1) rfl (by omega) (by omega)) ?_
                refine r_iload_n hC dX5_ringWatches_64 rfl ?_
                refine z_aald hM dX5_ringWatches_65 rfl (by decide) (by omega) (by omega) (vld_of (n := 8) rfl (by omega) (by omega)) ?_
                refine r_astore_n hC dX5_ringWatches_66 rfl ?_
                refine r_aload_n hC dX5_ringWatches_67 rfl ?_
                refine z_getI (jz := 0) hM dX5_ringWatches_68 fl_RX5_321 rfl rfl rfl (fun v12 h_v12 o_v12 t_v12 => ?_)
                have w_v12 := t_v12 (Or.inl (by simp [Tb]))
                subst w_v12
                refine r_aload_n hC dX5_ringWatches_71 rfl ?_
                refine z_getI (jz := 0) hM dX5_ringWatches_72 fl_RX5_212 rfl rfl rfl (fun v13 h_v13 o_v13 t_v13 => ?_)
                have w_v13 := t_v13 (Or.inl (by simp [Tb]))
                subst w_v13
                refine r_icmp_ne (tgt := 101) hC dX5_ringWatches_75 rfl (fun h14 => ?_) (fun h14 => ?_)
                · refine r_iincE hC ((w9 + 1)) dX5_ringWatches_101 rfl rfl (by omega) (by unfold inR; omega) ?_
                  refine r_goto (tgt := 54) hC dX5_ringWatches_104 rfl ?_
                  refine r_forget hC (ls2 := [some (vR 2 0), some (vR 7 i), some (vI (w9 + 1)), none]) (lsub_some (lsub_some (lsub_some (lsub_none lsub_nil)))) ?_
                  exact ih54 ((w9 + 1)) ρ10 (by omega)  (by omega) (g_ρ10) (m0_54) (fun x y => (m1_54 x y).trans (rgK_no (by have := (m1_54 w9 0).trans (rgK_lo (by omega)); have := (g_ρ10) 7 i 0 (by omega); omega) 12 x y).symm)
                · refine r_aload_n hC dX5_ringWatches_78 rfl ?_
                  refine r_aload_n hC dX5_ringWatches_79 rfl ?_
                  refine z_getR hM dX5_ringWatches_80 fl_RX5_40 rfl rfl (vld_of (n := 1) rfl (by omega) (by omega)) ?_
                  refine r_aload_n hC dX5_ringWatches_83 rfl ?_
                  refine z_getI (jz := 1) hM dX5_ringWatches_84 fl_RX5_327 rfl rfl rfl (fun v15 h_v15 o_v15 t_v15 => ?_)
                  have w_v15 := t_v15 (Or.inl (by simp [Tb]))
                  subst w_v15
                  refine r_aload_n hC dX5_ringWatches_87 rfl ?_
                  refine z_getI (jz := 2) hM dX5_ringWatches_88 fl_RX5_328 rfl rfl rfl (fun v16 h_v16 o_v16 t_v16 => ?_)
                  have w_v16 := t_v16 (Or.inl (by simp [Tb]))
                  subst w_v16
                  refine z_inv2 hM dX5_ringWatches_91 vl_RX5_256 rfl rfl rfl (Nat.le_of_ble_eq_true rfl) (Nat.le_of_ble_eq_true rfl) ?_
                  have e16 : ρ10 16 0 = σ 16 0 := funext fun j => (g_ρ10) 16 0 j (by omega)
                  have e15 : ρ10 15 0 = σ 15 0 := funext fun j => (g_ρ10) 15 0 j (by omega)
                  have eq1 : ρ10 12 w9 1 = σ 12 w9 1 := (m1_54 _ _).trans (rgK_lo (by omega))
                  have eq2 : ρ10 12 w9 2 = σ 12 w9 2 := (m1_54 _ _).trans (rgK_lo (by omega))
                  refine x_reaches (o := σ 7 i 2) (u := (σ 9 i)) (n := (σ 7 i 6).toNat) (by omega) (by omega) m0_54 (fun h17 => ?_) (fun h17 => ?_)
                  · have hz : (1 : Int) = isR σ i w9 := by
                      rw [e16, e15, eq1, eq2] at h17
                      exact (if_pos h17).symm
                    refine r_aload_n hC dX5_ringWatches_94 rfl ?_
                    refine z_getI (jz := 10) hM dX5_ringWatches_95 fl_RX5_157 rfl rfl rfl (fun v18 h_v18 o_v18 t_v18 => ?_)
                    have w_v18 := t_v18 (Or.inl (by simp [Tb]))
                    subst w_v18
                    refine z_inv2 hM dX5_ringWatches_98 vl_RX5_331 rfl rfl rfl (Nat.le_of_ble_eq_true rfl) (Nat.le_of_ble_eq_true rfl) ?_
                    refine x_note (by omega) (by omega) ?_
                    obtain ⟨ρ19, e_ρ19⟩ : ∃ ρ, ρ = noM ρ10 w9 1 (ρ10 7 i 10) := ⟨_, rfl⟩
                    rw [← e_ρ19]
                    have g_ρ19 : Gx (fun c x y => c = 12 ∧ 3 ≤ y ∧ y ≤ 5) ρ10 ρ19 := fun c x y h => by rw [e_ρ19]; exact noM_ne (by omega)
                    have r_ρ19 : ∀ x y : Int, ρ19 12 x y = rgK σ i (w9 + 1) 12 x y := fun x y => by rw [e_ρ19]; exact rgK_yes (by omega) (by have := (m1_54 w9 0).trans (rgK_lo (by omega)); have := (g_ρ10) 7 i 0 (by omega); omega) m1_54 hz ((g_ρ10) 7 i 10 (by omega)) x y
                    have f_ρ19 : FRc ρ19 (σ 7 i 2) (σ 9 i) (σ 7 i 6).toNat := m0_54.ext (fun j _ => g_ρ19 14 0 j (by omega)) (fun j => g_ρ19 17 0 j (by omega)) (funext fun j => g_ρ19 16 0 j (by omega)) (funext fun j => g_ρ19 15 0 j (by omega))
                    refine r_iincE hC ((w9 + 1)) dX5_ringWatches_101 rfl rfl (by omega) (by unfold inR; omega) ?_
                    refine r_goto (tgt := 54) hC dX5_ringWatches_104 rfl ?_
                    refine r_forget hC (ls2 := [some (vR 2 0), some (vR 7 i), some (vI (w9 + 1)), none]) (lsub_some (lsub_some (lsub_some (lsub_none lsub_nil)))) ?_
                    exact ih54 ((w9 + 1)) ρ19 (by omega)  (by omega) (Gx.gx (g_ρ10) g_ρ19 (by intro c x y h; omega)) (f_ρ19) (r_ρ19)
                  · have hz : (0 : Int) = isR σ i w9 := by
                      rw [e16, e15, eq1, eq2] at h17
                      exact (if_neg h17).symm
                    refine r_aload_n hC dX5_ringWatches_94 rfl ?_
                    refine z_getI (jz := 10) hM dX5_ringWatches_95 fl_RX5_157 rfl rfl rfl (fun v20 h_v20 o_v20 t_v20 => ?_)
                    have w_v20 := t_v20 (Or.inl (by simp [Tb]))
                    subst w_v20
                    refine z_inv2 hM dX5_ringWatches_98 vl_RX5_331 rfl rfl rfl (Nat.le_of_ble_eq_true rfl) (Nat.le_of_ble_eq_true rfl) ?_
                    refine x_note (by omega) (by omega) ?_
                    obtain ⟨ρ21, e_ρ21⟩ : ∃ ρ, ρ = noM ρ10 w9 0 (ρ10 7 i 10) := ⟨_, rfl⟩
                    rw [← e_ρ21]
                    have g_ρ21 : Gx (fun c x y => c = 12 ∧ 3 ≤ y ∧ y ≤ 5) ρ10 ρ21 := fun c x y h => by rw [e_ρ21]; exact noM_ne (by omega)
                    have r_ρ21 : ∀ x y : Int, ρ21 12 x y = rgK σ i (w9 + 1) 12 x y := fun x y => by rw [e_ρ21]; exact rgK_yes (by omega) (by have := (m1_54 w9 0).trans (rgK_lo (by omega)); have := (g_ρ10) 7 i 0 (by omega); omega) m1_54 hz ((g_ρ10) 7 i 10 (by omega)) x y
                    have f_ρ21 : FRc ρ21 (σ 7 i 2) (σ 9 i) (σ 7 i 6).toNat := m0_54.ext (fun j _ => g_ρ21 14 0 j (by omega)) (fun j => g_ρ21 17 0 j (by omega)) (funext fun j => g_ρ21 16 0 j (by omega)) (funext fun j => g_ρ21 15 0 j (by omega))
                    refine r_iincE hC ((w9 + 1)) dX5_ringWatches_101 rfl rfl (by omega) (by unfold inR; omega) ?_
                    refine r_goto (tgt := 54) hC dX5_ringWatches_104 rfl ?_
                    refine r_forget hC (ls2 := [some (vR 2 0), some (vR 7 i), some (vI (w9 + 1)), none]) (lsub_some (lsub_some (lsub_some (lsub_none lsub_nil)))) ?_
                    exact ih54 ((w9 + 1)) ρ21 (by omega)  (by omega) (Gx.gx (g_ρ10) g_ρ21 (by intro c x y h; omega)) (f_ρ21) (r_ρ21)
          exact L54 10 (0) ρ6 (by omega)  (by omega) (g_ρ6) (by have h := m0_25; rw [show (w5).toNat = (σ 7 i 6).toNat from by have := (g_ρ6) 7 i 6 (by omega); omega] at h; exact h) (fun x y => (m1_25 x y).trans (rgK_0 rfl 12 x y).symm)
        · refine r_aload_n hC dX5_ringWatches_33 rfl ?_
          refine z_getR hM dX5_ringWatches_34 fl_RX5_40 rfl rfl (vld_of (n := 1) rfl (by omega) (by omega)) ?_
          refine r_aload_n hC dX5_ringWatches_37 rfl ?_
          refine z_getR hM dX5_ringWatches_38 fl_RX5_176 rfl rfl (vld_of (n := 7) rfl (by omega) (by omega)) ?_
          refine r_iload_n hC dX5_ringWatches_41 rfl ?_
          refine z_iald hM dX5_ringWatches_42 rfl (by omega) (by omega) (fun v22 h_v22 o_v22 t_v22 => ?_)
          have w_v22 := t_v22 (Or.inl trivial)
          subst w_v22
          have q_v22 : -1000 ≤ (ρ6 9 i w5) ∧ (ρ6 9 i w5) ≤ 1000 := o_v22
          refine z_inv1 hM dX5_ringWatches_43 vl_RX5_253 rfl rfl rfl (Nat.le_of_ble_eq_true rfl) (Nat.le_of_ble_eq_true rfl) ?_
          refine x_append2 (u := (σ 9 i)) (n := (w5).toNat) (by rw [show (((w5).toNat : Nat) : Int) = w5 from by omega]; exact (g_ρ6) 9 i _ (by omega)) (by omega) (by omega) (by omega) (fun j h0 h1 => hok 9 i _ (Or.inl trivial)) m0_25 (fun j h0 h1 => by rw [(g_ρ6) 15 0 j (by omega)]; exact hok 15 0 j (Or.inl trivial)) (fun ρ23 g_ρ23 r_ρ23 => ?_)
          have t12_ρ23 : ∀ w y : Int, ρ23 12 w y = σ 12 w y := fun w y => (g_ρ23 12 w y (by omega)).trans (m1_25 w y)
          refine r_iincE hC ((w5 + 1)) dX5_ringWatches_46 rfl rfl (by omega) (by unfold inR; omega) ?_
          refine r_goto (tgt := 25) hC dX5_ringWatches_49 rfl ?_
          exact ih25 ((w5 + 1)) ρ23 (by omega) (by omega) (by omega) (Gx.gx (g_ρ6) g_ρ23 (by intro c x y h; omega)) (by rw [show ((w5 + 1)).toNat = ((w5 + 1) - 1).toNat + 1 from by omega]; have h := r_ρ23; rw [show (w5 + 1) - 1 = w5 from by omega]; exact h) (t12_ρ23)
    exact L25 123 (0) ρ4 (by omega) (by omega) (by omega) (Gx.gx (Gx.rf) g_ρ4 (by intro c x y h; omega)) (by have h := z_ρ4 (σ 9 i); exact h) (t12_ρ4)
  · refine r_if_ne (tgt := 12) hC dX5_ringWatches_8 rfl (fun h24 => by omega) (fun h24 => ?_)
    refine y_vret hK rfl dX5_ringWatches_11 ?_
    exact k σ (fun c x y _ => by rw [rgM_id (fun w h0 h1 => by have := hnw w h0 h1; omega)]) hI
-- B: drops, places
theorem x_ring {eb : Bool} {d : Nat} {P : Option Vl → Mm → Prop} {σ : Mm} {i : Int} (b_i : 0 ≤ i ∧ i ≤ 6) (hn0 : σ 7 i 0 = i) (k : P none (rgM σ i)) : WT (true, false, eb) (d + 4) 102 [vR 2 0, vR 7 i] σ P := by
  refine WT_loose (true, true, eb) (fun h => h) (fun h => by cases h) (fun c j q => ?_) (fun ρ hL hF hT hO => ?_)
  · rcases q with q | q | q | q
    · exact Or.inl q
    · exact Or.inr (Or.inl q)
    · cases q.1
    · exact Or.inr (Or.inr (Or.inr q))
  · have t7 : ∀ y : Int, y ≠ 11 → ρ 7 i y = σ 7 i y := fun y hy => hT 7 i y (Or.inl hy)
    refine x_ring_S b_i ((t7 0 (by omega)).trans hn0) (hF rfl) (fun ρ2 g hI => ⟨rgM σ i, k, fun h => Or.inl h, fun _ => Or.inr hI, fun c x y q => ?_⟩)
    refine (g c x y ?_).trans (rgM_c (funext fun j => hT 16 0 j (Or.inl trivial)) (funext fun j => hT 15 0 j (Or.inl trivial)) (t7 2 (by omega)) (funext fun j => hT 9 i j (Or.inl trivial)) (t7 6 (by omega)) (t7 10 (by omega)) (fun w y => hT 12 w y (Or.inl trivial)) (hT c x y q))
    rintro (⟨rfl, rfl⟩ | ⟨rfl, rfl, h⟩)
    · rcases q with q | q | q | q
      · exact q
      · exact q.2
      · cases q.1
      · exact q.2
    · rcases q with q | q | q | q
      · exact q
      · exact q.2
      · cases q.1
      · exact q.2
theorem FI_bnd {f : Int → Int} {h : Int} (p : FI f h) (q : h ≤ 121) : (0 ≤ f 0 ∧ f 0 ≤ 121) ∧ (0 ≤ f 1 ∧ f 1 ≤ 121) ∧ (0 ≤ f 2 ∧ f 2 ≤ 121) ∧ 0 ≤ f 3 ∧ f 3 ≤ 242 := by
  unfold FI at p
  omega
theorem x_dropOldest {ec : Bool} {d : Nat} {P : Option Vl → Mm → Prop} {σ : Mm} {i : Int} (b_i : 0 ≤ i ∧ i ≤ 6) (hn0 : σ 7 i 0 = i) (hF : FI (σ 11 i) (σ 7 i 6)) (h1 : 1 ≤ σ 7 i 6) (h6 : σ 7 i 6 ≤ 121)  (k : P none (dpM σ i)) : WT (true, false, ec) (d + 5) 68 [vR 2 0, vR 7 i] σ P := by
  refine WT_in fun K hK => ?_
  have hK : StpY (true, false, ec) cX5_dropOldest RX5 (none) (WT (true, false, ec) (d + 4)) P K := hK
  have hM := hK.1
  have hC := hK.1.1
  show K 0 [some (vR 2 0), some (vR 7 i)] [] σ
  have hFB := FI_bnd hF (by omega : σ 7 i 6 ≤ 121)
  refine r_aload_n hC dX5_dropOldest_0 rfl ?_
  refine r_iconst hC dX5_dropOldest_1 rfl ?_
  refine z_inv1 hM dX5_dropOldest_2 vl_RX5_179 rfl rfl rfl (Nat.le_of_ble_eq_true rfl) (Nat.le_of_ble_eq_true rfl) ?_
  have z6_2 : σ 7 i 6 = (σ 7 i 6) := (rfl)
  refine x_remove (by omega) (by omega) (by omega) ?_
  refine r_aload_n hC dX5_dropOldest_5 rfl ?_
  refine r_dup hC dX5_dropOldest_6 rfl ?_
  refine z_getI (jz := 13) hM dX5_dropOldest_7 fl_RX5_204 rfl rfl rfl (fun v1 h_v1 o_v1 t_v1 => ?_)
  have w_v1 := ((t_v1 (Or.inl (by simp [Tb]))).trans ((remM_ne (by omega)).trans (rfl))).symm
  subst w_v1
  refine r_iconst hC dX5_dropOldest_10 rfl ?_
  refine r_iadd hC dX5_dropOldest_11 ?_
  have f2 := inR_le (inR_wr ((σ 7 i 13) + 1))
  refine z_putIT (jz := 13) hM dX5_dropOldest_12 fw_RX5_204 rfl rfl rfl ⟨Or.inr (by simp [DL]), Or.inr (by simp [DF])⟩ (by first | trivial | (simp only [Okv]; omega) | (simp [Okv]; try omega)) ?_
  refine r_aload_n hC dX5_dropOldest_15 rfl ?_
  refine z_getR hM dX5_dropOldest_16 fl_RX5_189 rfl rfl (vld_of (n := 8) rfl (by omega) (by omega)) ?_
  refine z_inv0 hM dX5_dropOldest_19 vl_RX5_207 rfl rfl rfl (Nat.le_of_ble_eq_true rfl) (Nat.le_of_ble_eq_true rfl) ?_
  have z0_19 : (mu (remM σ i 0) 7 i 13 (wr ((σ 7 i 13) + 1))) 11 i 0 = (σ 11 i 0) := ((mu_ne (by omega)).trans ((remM_ne (by omega)).trans (rfl)))
  have z1_19 : (mu (remM σ i 0) 7 i 13 (wr ((σ 7 i 13) + 1))) 11 i 1 = (σ 11 i 1) := ((mu_ne (by omega)).trans ((remM_ne (by omega)).trans (rfl)))
  have z2_19 : (mu (remM σ i 0) 7 i 13 (wr ((σ 7 i 13) + 1))) 11 i 2 = (σ 11 i 2) := ((mu_ne (by omega)).trans ((remM_ne (by omega)).trans (rfl)))
  have z3_19 : (mu (remM σ i 0) 7 i 13 (wr ((σ 7 i 13) + 1))) 11 i 3 = (σ 11 i 3) := ((mu_ne (by omega)).trans ((remM_ne (by omega)).trans (rfl)))
  refine x_drop (by omega) (by omega) ?_
  refine r_aload_n hC dX5_dropOldest_22 rfl ?_
  refine r_aload_n hC dX5_dropOldest_23 rfl ?_
  refine z_inv1 hM dX5_dropOldest_24 vl_RX5_195 rfl rfl rfl (Nat.le_of_ble_eq_true rfl) (Nat.le_of_ble_eq_true rfl) ?_
  refine x_ring (by omega) (((dfM_ne (by omega)).trans ((mu_ne (by omega)).trans ((remM_ne (by omega)).trans (rfl)))).trans hn0) ?_
  refine y_vret hK rfl dX5_dropOldest_27 ?_
  have hm : dpM σ i = (rgM (dfM (mu (remM σ i 0) 7 i 13 (wr ((σ 7 i 13) + 1))) i) i) := rfl
  rw [hm] at k
  exact k
theorem x_layAnewS {ec : Bool} {d : Nat} {P : Option Vl → Mm → Prop} {σ : Mm} {i : Int} (b_i : 0 ≤ i ∧ i ≤ 6) (hn0 : σ 7 i 0 = i)  (k : P none (rgM (lyM σ i (σ 7 i 6)) i)) : WT (true, false, ec) (d + 5) 69 [vR 2 0, vR 7 i] σ P := by
  refine WT_in fun K hK => ?_
  have hK : StpY (true, false, ec) cX5_layAnew RX5 (none) (WT (true, false, ec) (d + 4)) P K := hK
  have hM := hK.1
  have hC := hK.1.1
  show K 0 [some (vR 2 0), some (vR 7 i)] [] σ
  refine r_aload_n hC dX5_layAnew_0 rfl ?_
  refine z_getR hM dX5_layAnew_1 fl_RX5_189 rfl rfl (vld_of (n := 8) rfl (by omega) (by omega)) ?_
  refine r_aload_n hC dX5_layAnew_4 rfl ?_
  refine z_getI (jz := 6) hM dX5_layAnew_5 fl_RX5_154 rfl rfl rfl (fun v1 h_v1 o_v1 t_v1 => ?_)
  have w_v1 := ((t_v1 (Or.inl (by simp [Tb]))).trans (rfl)).symm
  subst w_v1
  have q_v1 : 0 ≤ (σ 7 i 6) ∧ (σ 7 i 6) ≤ 121 := o_v1.1 rfl
  refine z_inv1 hM dX5_layAnew_8 vl_RX5_210 rfl rfl rfl (Nat.le_of_ble_eq_true rfl) (Nat.le_of_ble_eq_true rfl) ?_
  refine x_layAnew (by omega) (by omega) ?_
  refine r_aload_n hC dX5_layAnew_11 rfl ?_
  refine r_aload_n hC dX5_layAnew_12 rfl ?_
  refine z_inv1 hM dX5_layAnew_13 vl_RX5_195 rfl rfl rfl (Nat.le_of_ble_eq_true rfl) (Nat.le_of_ble_eq_true rfl) ?_
  refine x_ring (by omega) (((lyM_ne (by omega)).trans (rfl)).trans hn0) ?_
  refine y_vret hK rfl dX5_layAnew_16 ?_
  have hm : rgM (lyM σ i (σ 7 i 6)) i = (rgM (lyM σ i (σ 7 i 6)) i) := rfl
  rw [hm] at k
  exact k
theorem x_place {ec : Bool} {d : Nat} {P : Option Vl → Mm → Prop} {σ : Mm} {i t v : Int} (b_i : 0 ≤ i ∧ i ≤ 6) (b_t : -2147483648 ≤ t ∧ t ≤ 2147483647) (b_v : -1000 ≤ v ∧ v ≤ 1000) (hn0 : σ 7 i 0 = i) (hF : FI (σ 11 i) (σ 7 i 6)) (hh : 0 ≤ σ 7 i 6 ∧ σ 7 i 6 ≤ 120)  (k : P none (plM σ i t v)) : WT (true, false, ec) (d + 6) 67 [vR 2 0, vR 7 i, vI t, vI v] σ P := by
  refine WT_in fun K hK => ?_
  have hK : StpY (true, false, ec) cX5_place RX5 (none) (WT (true, false, ec) (d + 5)) P K := hK
  have hM := hK.1
  have hC := hK.1.1
  show K 0 [some (vR 2 0), some (vR 7 i), some (vI t), some (vI v), none, none, none] [] σ
  have hFB := FI_bnd hF (by omega : σ 7 i 6 ≤ 121)
  refine r_aload_n hC dX5_place_0 rfl ?_
  refine r_iload_n hC dX5_place_1 rfl ?_
  refine r_i2l hC dX5_place_2 ?_
  refine z_inv1 hM dX5_place_3 vl_RX5_167 rfl rfl rfl (Nat.le_of_ble_eq_true rfl) (Nat.le_of_ble_eq_true rfl) ?_
  refine x_heldUntil (by omega) (fun h1 => ?_)
  refine r_istore hC dX5_place_6 rfl ?_
  refine r_iload hC dX5_place_8 rfl ?_
  refine r_aload_n hC dX5_place_10 rfl ?_
  refine z_getI (jz := 6) hM dX5_place_11 fl_RX5_154 rfl rfl rfl (fun v2 h_v2 o_v2 t_v2 => ?_)
  have w_v2 := ((t_v2 (Or.inl (by simp [Tb]))).trans (rfl)).symm
  subst w_v2
  have q_v2 : 0 ≤ (σ 7 i 6) ∧ (σ 7 i 6) ≤ 121 := o_v2.1 rfl
  refine r_icmp_ne (tgt := 21) hC dX5_place_14 rfl (fun h3 => ?_) (fun h3 => ?_)
  · refine r_iconst hC dX5_place_21 rfl ?_
    refine r_istore hC dX5_place_22 rfl ?_
    refine r_aload_n hC dX5_place_24 rfl ?_
    refine r_iload hC dX5_place_25 rfl ?_
    refine r_iload_n hC dX5_place_27 rfl ?_
    refine r_iload_n hC dX5_place_28 rfl ?_
    refine z_inv3 hM dX5_place_29 vl_RX5_185 rfl rfl rfl (Nat.le_of_ble_eq_true rfl) (Nat.le_of_ble_eq_true rfl) ?_
    have z6_29 : σ 7 i 6 = (σ 7 i 6) := (rfl)
    refine x_insert (by omega) (by omega) (by omega) (by omega) (by omega) (by omega) ?_
    refine r_iload hC dX5_place_32 rfl ?_
    refine r_if_eq (tgt := 52) hC dX5_place_34 rfl (fun h4 => ?_) (fun h4 => by omega)
    refine r_aload_n hC dX5_place_52 rfl ?_
    refine r_aload_n hC dX5_place_53 rfl ?_
    refine z_inv1 hM dX5_place_54 vl_RX5_182 rfl rfl rfl (Nat.le_of_ble_eq_true rfl) (Nat.le_of_ble_eq_true rfl) ?_
    refine x_layAnewS (by omega) (((insM_ne (by omega)).trans (rfl)).trans hn0) ?_
    rw [show (insM σ i (hU σ i t) t v) 7 i 6 = ((σ 7 i 6) + 1) from (insM_6.trans (congrArg (· + 1) (rfl)))]
    have hE : (rgM (lyM (insM σ i (hU σ i t) t v) i ((σ 7 i 6) + 1)) i) = enM σ i t v := by
      unfold enM
      first | rw [if_pos (by omega)] | rw [if_neg (by omega)]
    refine r_aload_n hC dX5_place_57 rfl ?_
    refine z_getI (jz := 6) hM dX5_place_58 fl_RX5_154 rfl rfl rfl (fun v5 h_v5 o_v5 t_v5 => ?_)
    have w_v5 := ((t_v5 (Or.inl (by simp [Tb]))).trans ((rgM_ne (by omega)).trans ((lyM_ne (by omega)).trans (insM_6.trans (congrArg (· + 1) (rfl)))))).symm
    subst w_v5
    have q_v5 : 0 ≤ ((σ 7 i 6) + 1) ∧ ((σ 7 i 6) + 1) ≤ 121 := o_v5.1 rfl
    refine r_istore hC dX5_place_61 rfl ?_
    have L63 : ∀ (n63 : Nat) (w6 : Int) (ρ7 : Mm), 0 ≤ w6 ∧ w6 ≤ 121 → w6 - 0 < (n63 : Int) → (drps i ((w6)).toNat ρ7 = plM σ i t v) → (LI ρ7 i) → (ρ7 7 i 6 = (w6)) → K 63 [some (vR 2 0), some (vR 7 i), some (vI t), some (vI v), some (vI (hU σ i t)), some (vI 0), some (vI w6)] [] ρ7 := by
      intro n63
      induction n63 with
      | zero => intro w6 ρ7 f_w6  hm  m0_63 m1_63 m2_63; omega
      | succ n63 ih63 =>
        intro w6 ρ7 f_w6  hm63  m0_63 m1_63 m2_63
        refine r_iload hC dX5_place_63 rfl ?_
        refine r_if_le (tgt := 100) hC dX5_place_65 rfl (fun h8 => ?_) (fun h8 => ?_)
        · refine y_vret hK rfl dX5_place_100 ?_
          have hm : plM σ i t v = ρ7 := by rw [← m0_63]; first | exact drps_no (by omega) | (rw [show (w6).toNat = 0 from by omega]; rfl)
          rw [hm] at k
          exact k
        · refine r_aload_n hC dX5_place_68 rfl ?_
          refine r_aload_n hC dX5_place_69 rfl ?_
          refine z_getI (jz := 6) hM dX5_place_70 fl_RX5_154 rfl rfl rfl (fun v9 h_v9 o_v9 t_v9 => ?_)
          have w_v9 := ((t_v9 (Or.inl (by simp [Tb]))).trans (rfl)).symm
          subst w_v9
          have q_v9 : 0 ≤ (ρ7 7 i 6) ∧ (ρ7 7 i 6) ≤ 121 := o_v9.1 rfl
          refine r_aload_n hC dX5_place_73 rfl ?_
          refine z_getR hM dX5_place_74 fl_RX5_198 rfl rfl (vld_of (n := 7) rfl (by omega) (by omega)) ?_
          refine r_iconst hC dX5_place_77 rfl ?_
          refine z_iald hM dX5_place_78 rfl (by omega) (by omega) (fun v10 h_v10 o_v10 t_v10 => ?_)
          have w_v10 := ((t_v10 (Or.inl (by simp [Tb]))).trans (rfl)).symm
          subst w_v10
          refine r_aload_n hC dX5_place_79 rfl ?_
          refine z_getI (jz := 10) hM dX5_place_80 fl_RX5_157 rfl rfl rfl (fun v11 h_v11 o_v11 t_v11 => ?_)
          have w_v11 := ((t_v11 (Or.inl (by simp [Tb]))).trans (rfl)).symm
          subst w_v11
          refine z_inv3 hM dX5_place_83 vl_RX5_201 rfl rfl rfl (Nat.le_of_ble_eq_true rfl) (Nat.le_of_ble_eq_true rfl) ?_
          refine x_goes (by omega) (fun h12 => ?_) (fun h12 => ?_)
          · have y3_h12 : ρ7 7 i 3 = (ρ7 7 i 3) := (rfl)
            have y4_h12 : ρ7 7 i 4 = (ρ7 7 i 4) := (rfl)
            refine r_if_eq (tgt := 100) hC dX5_place_86 rfl (fun h13 => by omega) (fun h13 => ?_)
            have hgo : goV ρ7 i := by unfold goV; omega
            refine r_aload_n hC dX5_place_89 rfl ?_
            refine r_aload_n hC dX5_place_90 rfl ?_
            refine z_inv1 hM dX5_place_91 vl_RX5_163 rfl rfl rfl (Nat.le_of_ble_eq_true rfl) (Nat.le_of_ble_eq_true rfl) ?_
            refine x_dropOldest (by omega) m1_63.1 m1_63.2.1 (by omega) (by omega) ?_
            refine r_iincE hC ((w6 - 1)) dX5_place_94 rfl rfl (by omega) (by unfold inR; omega) ?_
            refine r_goto (tgt := 63) hC dX5_place_97 rfl ?_
            exact ih63 ((w6 - 1)) (dpM ρ7 i) (by omega)  (by omega)  (by have q := m0_63; rw [show (w6).toNat = ((w6 - 1)).toNat + 1 from by omega, drps_yes hgo] at q; exact q) (m1_63.dp (by omega)) (by have q : (dpM ρ7 i) 7 i 6 = ((ρ7 7 i 6) - 1) := (dpM_6); omega)
          · have y3_h12 : ρ7 7 i 3 = (ρ7 7 i 3) := (rfl)
            have y4_h12 : ρ7 7 i 4 = (ρ7 7 i 4) := (rfl)
            refine r_if_eq (tgt := 100) hC dX5_place_86 rfl (fun h14 => ?_) (fun h14 => by omega)
            refine y_vret hK rfl dX5_place_100 ?_
            have hm : plM σ i t v = ρ7 := by rw [← m0_63]; first | exact drps_no (by omega) | (rw [show (w6).toNat = 0 from by omega]; rfl)
            rw [hm] at k
            exact k
    exact L63 123 (((σ 7 i 6) + 1)) (rgM (lyM (insM σ i (hU σ i t) t v) i ((σ 7 i 6) + 1)) i) (by omega)  (by omega)  (by rw [hE]; rfl) (by rw [hE]; exact LI.en ⟨hn0, hF, by omega⟩) (by have q : (rgM (lyM (insM σ i (hU σ i t) t v) i ((σ 7 i 6) + 1)) i) 7 i 6 = ((σ 7 i 6) + 1) := ((rgM_ne (by omega)).trans ((lyM_ne (by omega)).trans (insM_6.trans (congrArg (· + 1) (rfl))))); omega)
  · refine r_iconst hC dX5_place_17 rfl ?_
    refine r_goto (tgt := 22) hC dX5_place_18 rfl ?_
    refine r_istore hC dX5_place_22 rfl ?_
    refine r_aload_n hC dX5_place_24 rfl ?_
    refine r_iload hC dX5_place_25 rfl ?_
    refine r_iload_n hC dX5_place_27 rfl ?_
    refine r_iload_n hC dX5_place_28 rfl ?_
    refine z_inv3 hM dX5_place_29 vl_RX5_185 rfl rfl rfl (Nat.le_of_ble_eq_true rfl) (Nat.le_of_ble_eq_true rfl) ?_
    have z6_29 : σ 7 i 6 = (σ 7 i 6) := (rfl)
    refine x_insert (by omega) (by omega) (by omega) (by omega) (by omega) (by omega) ?_
    refine r_iload hC dX5_place_32 rfl ?_
    refine r_if_eq (tgt := 52) hC dX5_place_34 rfl (fun h15 => by omega) (fun h15 => ?_)
    refine r_aload_n hC dX5_place_37 rfl ?_
    refine z_getR hM dX5_place_38 fl_RX5_189 rfl rfl (vld_of (n := 8) rfl (by omega) (by omega)) ?_
    refine z_inv0 hM dX5_place_41 vl_RX5_192 rfl rfl rfl (Nat.le_of_ble_eq_true rfl) (Nat.le_of_ble_eq_true rfl) ?_
    have z0_41 : (insM σ i (hU σ i t) t v) 11 i 0 = (σ 11 i 0) := ((insM_ne (by omega)).trans (rfl))
    have z1_41 : (insM σ i (hU σ i t) t v) 11 i 1 = (σ 11 i 1) := ((insM_ne (by omega)).trans (rfl))
    have z2_41 : (insM σ i (hU σ i t) t v) 11 i 2 = (σ 11 i 2) := ((insM_ne (by omega)).trans (rfl))
    have z3_41 : (insM σ i (hU σ i t) t v) 11 i 3 = (σ 11 i 3) := ((insM_ne (by omega)).trans (rfl))
    refine x_add (by omega) (by omega) ?_
    refine r_aload_n hC dX5_place_44 rfl ?_
    refine r_aload_n hC dX5_place_45 rfl ?_
    refine z_inv1 hM dX5_place_46 vl_RX5_195 rfl rfl rfl (Nat.le_of_ble_eq_true rfl) (Nat.le_of_ble_eq_true rfl) ?_
    refine x_ring (by omega) (((adM_ne (by omega)).trans ((insM_ne (by omega)).trans (rfl))).trans hn0) ?_
    refine r_goto (tgt := 57) hC dX5_place_49 rfl ?_
    have hE : (rgM (adM (insM σ i (hU σ i t) t v) i) i) = enM σ i t v := by
      unfold enM
      first | rw [if_pos (by omega)] | rw [if_neg (by omega)]
    refine r_aload_n hC dX5_place_57 rfl ?_
    refine z_getI (jz := 6) hM dX5_place_58 fl_RX5_154 rfl rfl rfl (fun v16 h_v16 o_v16 t_v16 => ?_)
    have w_v16 := ((t_v16 (Or.inl (by simp [Tb]))).trans ((rgM_ne (by omega)).trans ((adM_ne (by omega)).trans (insM_6.trans (congrArg (· + 1) (rfl)))))).symm
    subst w_v16
    have q_v16 : 0 ≤ ((σ 7 i 6) + 1) ∧ ((σ 7 i 6) + 1) ≤ 121 := o_v16.1 rfl
    refine r_istore hC dX5_place_61 rfl ?_
    have L63 : ∀ (n63 : Nat) (w17 : Int) (ρ18 : Mm), 0 ≤ w17 ∧ w17 ≤ 121 → w17 - 0 < (n63 : Int) → (drps i ((w17)).toNat ρ18 = plM σ i t v) → (LI ρ18 i) → (ρ18 7 i 6 = (w17)) → K 63 [some (vR 2 0), some (vR 7 i), some (vI t), some (vI v), some (vI (hU σ i t)), some (vI 1), some (vI w17)] [] ρ18 := by
      intro n63
      induction n63 with
      | zero => intro w17 ρ18 f_w17  hm  m0_63 m1_63 m2_63; omega
      | succ n63 ih63 =>
        intro w17 ρ18 f_w17  hm63  m0_63 m1_63 m2_63
        refine r_iload hC dX5_place_63 rfl ?_
        refine r_if_le (tgt := 100) hC dX5_place_65 rfl (fun h19 => ?_) (fun h19 => ?_)
        · refine y_vret hK rfl dX5_place_100 ?_
          have hm : plM σ i t v = ρ18 := by rw [← m0_63]; first | exact drps_no (by omega) | (rw [show (w17).toNat = 0 from by omega]; rfl)
          rw [hm] at k
          exact k
        · refine r_aload_n hC dX5_place_68 rfl ?_
          refine r_aload_n hC dX5_place_69 rfl ?_
          refine z_getI (jz := 6) hM dX5_place_70 fl_RX5_154 rfl rfl rfl (fun v20 h_v20 o_v20 t_v20 => ?_)
          have w_v20 := ((t_v20 (Or.inl (by simp [Tb]))).trans (rfl)).symm
          subst w_v20
          have q_v20 : 0 ≤ (ρ18 7 i 6) ∧ (ρ18 7 i 6) ≤ 121 := o_v20.1 rfl
          refine r_aload_n hC dX5_place_73 rfl ?_
          refine z_getR hM dX5_place_74 fl_RX5_198 rfl rfl (vld_of (n := 7) rfl (by omega) (by omega)) ?_
          refine r_iconst hC dX5_place_77 rfl ?_
          refine z_iald hM dX5_place_78 rfl (by omega) (by omega) (fun v21 h_v21 o_v21 t_v21 => ?_)
          have w_v21 := ((t_v21 (Or.inl (by simp [Tb]))).trans (rfl)).symm
          subst w_v21
          refine r_aload_n hC dX5_place_79 rfl ?_
          refine z_getI (jz := 10) hM dX5_place_80 fl_RX5_157 rfl rfl rfl (fun v22 h_v22 o_v22 t_v22 => ?_)
          have w_v22 := ((t_v22 (Or.inl (by simp [Tb]))).trans (rfl)).symm
          subst w_v22
          refine z_inv3 hM dX5_place_83 vl_RX5_201 rfl rfl rfl (Nat.le_of_ble_eq_true rfl) (Nat.le_of_ble_eq_true rfl) ?_
          refine x_goes (by omega) (fun h23 => ?_) (fun h23 => ?_)
          · have y3_h23 : ρ18 7 i 3 = (ρ18 7 i 3) := (rfl)
            have y4_h23 : ρ18 7 i 4 = (ρ18 7 i 4) := (rfl)
            refine r_if_eq (tgt := 100) hC dX5_place_86 rfl (fun h24 => by omega) (fun h24 => ?_)
            have hgo : goV ρ18 i := by unfold goV; omega
            refine r_aload_n hC dX5_place_89 rfl ?_
            refine r_aload_n hC dX5_place_90 rfl ?_
            refine z_inv1 hM dX5_place_91 vl_RX5_163 rfl rfl rfl (Nat.le_of_ble_eq_true rfl) (Nat.le_of_ble_eq_true rfl) ?_
            refine x_dropOldest (by omega) m1_63.1 m1_63.2.1 (by omega) (by omega) ?_
            refine r_iincE hC ((w17 - 1)) dX5_place_94 rfl rfl (by omega) (by unfold inR; omega) ?_
            refine r_goto (tgt := 63) hC dX5_place_97 rfl ?_
            exact ih63 ((w17 - 1)) (dpM ρ18 i) (by omega)  (by omega)  (by have q := m0_63; rw [show (w17).toNat = ((w17 - 1)).toNat + 1 from by omega, drps_yes hgo] at q; exact q) (m1_63.dp (by omega)) (by have q : (dpM ρ18 i) 7 i 6 = ((ρ18 7 i 6) - 1) := (dpM_6); omega)
          · have y3_h23 : ρ18 7 i 3 = (ρ18 7 i 3) := (rfl)
            have y4_h23 : ρ18 7 i 4 = (ρ18 7 i 4) := (rfl)
            refine r_if_eq (tgt := 100) hC dX5_place_86 rfl (fun h25 => ?_) (fun h25 => by omega)
            refine y_vret hK rfl dX5_place_100 ?_
            have hm : plM σ i t v = ρ18 := by rw [← m0_63]; first | exact drps_no (by omega) | (rw [show (w17).toNat = 0 from by omega]; rfl)
            rw [hm] at k
            exact k
    exact L63 123 (((σ 7 i 6) + 1)) (rgM (adM (insM σ i (hU σ i t) t v) i) i) (by omega)  (by omega)  (by rw [hE]; rfl) (by rw [hE]; exact LI.en ⟨hn0, hF, by omega⟩) (by have q : (rgM (adM (insM σ i (hU σ i t) t v) i) i) 7 i 6 = ((σ 7 i 6) + 1) := ((rgM_ne (by omega)).trans ((adM_ne (by omega)).trans (insM_6.trans (congrArg (· + 1) (rfl))))); omega)
