-- B: rings
theorem noM_eq {V ρ : Mm} {w z t : Int} (g : ∀ (c : Nat) (x y : Int), ¬ (c = 12 ∧ x = w ∧ 3 ≤ y ∧ y ≤ 5) → ρ c x y = V c x y) (h3 : ρ 12 w 3 = z) (h4 : ρ 12 w 4 = if z = 1 ∧ V 12 w 3 = 0 then wr (V 12 w 4 + 1) else V 12 w 4) (h5 : ρ 12 w 5 = if z = 1 ∧ V 12 w 3 = 0 then t else V 12 w 5) : noM V w z t = ρ := by
  funext c x y
  by_cases hq : c = 12 ∧ x = w ∧ 3 ≤ y ∧ y ≤ 5
  · obtain ⟨rfl, rfl, hy⟩ := hq
    unfold noM
    rw [if_pos ⟨rfl, rfl⟩]
    rcases (by omega : y = 3 ∨ y = 4 ∨ y = 5) with rfl | rfl | rfl
    · rw [if_pos rfl, h3]
    · rw [if_neg (by omega), if_pos rfl, h4]
    · rw [if_neg (by omega), if_neg (by omega), if_pos rfl, h5]
  · rw [noM_ne hq, g c x y hq]
theorem x_note {e : Ev} {d : Nat} {P : Option Vl → Mm → Prop} {σ : Mm} {i z t : Int} (b_i : 0 ≤ i ∧ i ≤ 7) (b_z : 0 ≤ z ∧ z ≤ 1)  (k : P none (noM σ i z t)) : WT e (d + 1) 44 [vR 12 i, vI z, vI t] σ P := by
  refine WT_in fun K hK => ?_
  have hK : StpY e cX4_note RX4 (none) (WT e (d + 0)) P K := hK
  have hM := hK.1
  have hC := hK.1.1
  show K 0 [some (vR 12 i), some (vI z), some (vI t)] [] σ
  refine r_rngz hC (fun g0 => ?_)
  have r_t : -2147483648 ≤ t ∧ t ≤ 2147483647 := inR_le (g0 (vI t) (by simp))
  refine r_iload_n hC dX4_note_0 rfl ?_
  refine r_if_eq (tgt := 26) hC dX4_note_1 rfl (fun h1 => ?_) (fun h1 => ?_)
  · refine r_aload_n hC dX4_note_26 rfl ?_
    refine r_iload_n hC dX4_note_27 rfl ?_
    refine z_putZT (jz := 3) hM dX4_note_28 fw_RX4_21 rfl rfl rfl (by omega) ⟨Or.inr (by simp [DL]), Or.inr (by simp [DF])⟩ (by first | trivial | (simp only [Okv]; omega) | (simp [Okv]; try omega)) ?_
    refine y_vret hK rfl dX4_note_31 ?_
    have hm : noM σ i z t = (mu σ 12 i 3 z) := noM_eq (fun c x y h => (mu_ne (by omega)).trans (rfl)) ((mu_self _ _ _ _ _).trans (by first | rfl | exact (if_pos (by omega)).symm | exact (if_neg (by omega)).symm)) (((mu_ne (by omega)).trans (rfl)).trans (by first | rfl | exact (if_pos (by omega)).symm | exact (if_neg (by omega)).symm)) (((mu_ne (by omega)).trans (rfl)).trans (by first | rfl | exact (if_pos (by omega)).symm | exact (if_neg (by omega)).symm))
    rw [hm] at k
    exact k
  · refine r_aload_n hC dX4_note_4 rfl ?_
    refine z_getI (jz := 3) hM dX4_note_5 fl_RX4_21 rfl rfl rfl (fun v2 h_v2 o_v2 t_v2 => ?_)
    have w_v2 := ((t_v2 (Or.inl (by simp [Tb]))).trans (rfl)).symm
    subst w_v2
    refine r_if_ne (tgt := 26) hC dX4_note_8 rfl (fun h3 => ?_) (fun h3 => ?_)
    · refine r_aload_n hC dX4_note_26 rfl ?_
      refine r_iload_n hC dX4_note_27 rfl ?_
      refine z_putZT (jz := 3) hM dX4_note_28 fw_RX4_21 rfl rfl rfl (by omega) ⟨Or.inr (by simp [DL]), Or.inr (by simp [DF])⟩ (by first | trivial | (simp only [Okv]; omega) | (simp [Okv]; try omega)) ?_
      refine y_vret hK rfl dX4_note_31 ?_
      have hm : noM σ i z t = (mu σ 12 i 3 z) := noM_eq (fun c x y h => (mu_ne (by omega)).trans (rfl)) ((mu_self _ _ _ _ _).trans (by first | rfl | exact (if_pos (by omega)).symm | exact (if_neg (by omega)).symm)) (((mu_ne (by omega)).trans (rfl)).trans (by first | rfl | exact (if_pos (by omega)).symm | exact (if_neg (by omega)).symm)) (((mu_ne (by omega)).trans (rfl)).trans (by first | rfl | exact (if_pos (by omega)).symm | exact (if_neg (by omega)).symm))
      rw [hm] at k
      exact k
    · refine r_aload_n hC dX4_note_11 rfl ?_
      refine r_dup hC dX4_note_12 rfl ?_
      refine z_getI (jz := 4) hM dX4_note_13 fl_RX4_25 rfl rfl rfl (fun v4 h_v4 o_v4 t_v4 => ?_)
      have w_v4 := ((t_v4 (Or.inl (by simp [Tb]))).trans (rfl)).symm
      subst w_v4
      refine r_iconst hC dX4_note_16 rfl ?_
      refine r_iadd hC dX4_note_17 ?_
      have f5 := inR_le (inR_wr ((σ 12 i 4) + 1))
      refine z_putIT (jz := 4) hM dX4_note_18 fw_RX4_25 rfl rfl rfl ⟨Or.inr (by simp [DL]), Or.inr (by simp [DF])⟩ (by first | trivial | (simp only [Okv]; omega) | (simp [Okv]; try omega)) ?_
      refine r_aload_n hC dX4_note_21 rfl ?_
      refine r_iload_n hC dX4_note_22 rfl ?_
      refine z_putIT (jz := 5) hM dX4_note_23 fw_RX4_28 rfl rfl rfl ⟨Or.inr (by simp [DL]), Or.inr (by simp [DF])⟩ (by first | trivial | (simp only [Okv]; omega) | (simp [Okv]; try omega)) ?_
      refine r_aload_n hC dX4_note_26 rfl ?_
      refine r_iload_n hC dX4_note_27 rfl ?_
      refine z_putZT (jz := 3) hM dX4_note_28 fw_RX4_21 rfl rfl rfl (by omega) ⟨Or.inr (by simp [DL]), Or.inr (by simp [DF])⟩ (by first | trivial | (simp only [Okv]; omega) | (simp [Okv]; try omega)) ?_
      refine y_vret hK rfl dX4_note_31 ?_
      have hm : noM σ i z t = (mu (mu (mu σ 12 i 4 (wr ((σ 12 i 4) + 1))) 12 i 5 t) 12 i 3 z) := noM_eq (fun c x y h => (mu_ne (by omega)).trans ((mu_ne (by omega)).trans ((mu_ne (by omega)).trans (rfl)))) ((mu_self _ _ _ _ _).trans (by first | rfl | exact (if_pos (by omega)).symm | exact (if_neg (by omega)).symm)) (((mu_ne (by omega)).trans ((mu_ne (by omega)).trans (mu_self _ _ _ _ _))).trans (by first | rfl | exact (if_pos (by omega)).symm | exact (if_neg (by omega)).symm)) (((mu_ne (by omega)).trans (mu_self _ _ _ _ _)).trans (by first | rfl | exact (if_pos (by omega)).symm | exact (if_neg (by omega)).symm))
      rw [hm] at k
      exact k
theorem x_isWatched {e : Ev} {d : Nat} {P : Option Vl → Mm → Prop} {σ : Mm} {l : Int}   (k1 : P (some (vI 1)) σ) (k0 : (∀ j : Int, 0 ≤ j → j < 8 → σ 12 j 0 ≠ l) → P (some (vI 0)) σ) : WT e (d + 1) 103 [vR 2 0, vI l] σ P := by
  refine WT_in fun K hK => ?_
  have hK : StpY e cX5_isWatched RX5 (some .boolean) (WT e (d + 0)) P K := hK
  have hM := hK.1
  have hC := hK.1.1
  show K 0 [some (vR 2 0), some (vI l), none] [] σ
  refine r_rngz hC (fun g0 => ?_)
  have r_l : -2147483648 ≤ l ∧ l ≤ 2147483647 := inR_le (g0 (vI l) (by simp))
  refine r_iconst hC dX5_isWatched_0 rfl ?_
  refine r_istore_n hC dX5_isWatched_1 rfl ?_
  have L2 : ∀ (n2 : Nat) (w1 : Int), 0 ≤ w1 ∧ w1 ≤ 8 → (∀ j : Int, 0 ≤ j → j < (w1) → σ 12 j 0 ≠ l) → 8 - w1 < (n2 : Int) → K 2 [some (vR 2 0), some (vI l), some (vI w1)] [] σ := by
    intro n2
    induction n2 with
    | zero => intro w1  f_w1 i0_2 hm  ; omega
    | succ n2 ih2 =>
      intro w1  f_w1 i0_2 hm2  
      refine r_iload_n hC dX5_isWatched_2 rfl ?_
      refine r_bipush hC dX5_isWatched_3 rfl ?_
      refine r_icmp_ge (tgt := 29) hC dX5_isWatched_5 rfl (fun h2 => ?_) (fun h2 => ?_)
      · refine r_iconst hC dX5_isWatched_29 rfl ?_
        refine y_zret hK rfl dX5_isWatched_30 (by omega) ?_
        exact k0 (fun j h0 h1 => i0_2 j h0 (by omega))
      · refine r_aload_n hC dX5_isWatched_8 rfl ?_
        refine z_getR hM dX5_isWatched_9 fl_RX5_32 rfl rfl (vld_of (n := 1) rfl (by omega) (by omega)) ?_
        refine r_iload_n hC dX5_isWatched_12 rfl ?_
        refine z_aald hM dX5_isWatched_13 rfl (by decide) (by omega) (by omega) (vld_of (n := 8) rfl (by omega) (by omega)) ?_
        refine z_getI (jz := 0) hM dX5_isWatched_14 fl_RX5_321 rfl rfl rfl (fun v3 h_v3 o_v3 t_v3 => ?_)
        have w_v3 := ((t_v3 (Or.inl (by simp [Tb]))).trans (rfl)).symm
        subst w_v3
        refine r_iload_n hC dX5_isWatched_17 rfl ?_
        refine r_icmp_ne (tgt := 23) hC dX5_isWatched_18 rfl (fun h4 => ?_) (fun h4 => ?_)
        · refine r_iincE hC ((w1 + 1)) dX5_isWatched_23 rfl rfl (by omega) (by unfold inR; omega) ?_
          refine r_goto (tgt := 2) hC dX5_isWatched_26 rfl ?_
          exact ih2 ((w1 + 1))  (by omega) (by first | (intro j h0 h1; omega) | (intro j h0 h1; rcases (by omega : j < w1 ∨ j = w1) with h | h; exact i0_2 j h0 h; subst h; assumption)) (by omega)  
        · refine r_iconst hC dX5_isWatched_21 rfl ?_
          refine y_zret hK rfl dX5_isWatched_22 (by omega) ?_
          exact k1
  exact L2 10 (0)  (by omega) (by first | (intro j h0 h1; omega) | (intro j h0 h1; rcases (by omega : j < w1 ∨ j = w1) with h | h; exact i0_2 j h0 h; subst h; assumption)) (by omega)  
theorem x_reaches {eb : Bool} {u : Int → Int} {n : Nat} {o : Int} {d : Nat} {P : Option Vl → Mm → Prop} {σ : Mm} {w b : Int}  (b_o : 0 ≤ o ∧ o ≤ 9) (hn : n ≤ 242) (hF : FRc σ o u n)  (k1 : ((cm (σ 16 0) (σ 15 0) o u n w) ≠ NO ∧ b ≤ (cm (σ 16 0) (σ 15 0) o u n w)) → P (some (vI 1)) σ) (k0 : ¬ ((cm (σ 16 0) (σ 15 0) o u n w) ≠ NO ∧ b ≤ (cm (σ 16 0) (σ 15 0) o u n w)) → P (some (vI 0)) σ) : WT (true, true, eb) (d + 2) 11 [vR 14 0, vI w, vI b] σ P := by
  refine WT_in fun K hK => ?_
  have hK : StpY (true, true, eb) cX1_reaches RX1 (some .boolean) (WT (true, true, eb) (d + 1)) P K := hK
  have hM := hK.1
  have hC := hK.1.1
  show K 0 [some (vR 14 0), some (vI w), some (vI b), none] [] σ
  refine r_rngz hC (fun g0 => ?_)
  have r_w : -2147483648 ≤ w ∧ w ≤ 2147483647 := inR_le (g0 (vI w) (by simp))
  have r_b : -2147483648 ≤ b ∧ b ≤ 2147483647 := inR_le (g0 (vI b) (by simp))
  refine r_aload_n hC dX1_reaches_0 rfl ?_
  refine r_iload_n hC dX1_reaches_1 rfl ?_
  refine z_inv1 hM dX1_reaches_2 vl_RX1_44 rfl rfl rfl (Nat.le_of_ble_eq_true rfl) (Nat.le_of_ble_eq_true rfl) ?_
  refine x_number b_o hF.1 hF.2.1 hn hF ?_
  refine r_istore_n hC dX1_reaches_5 rfl ?_
  refine r_iload_n hC dX1_reaches_6 rfl ?_
  refine r_ldc hC dX1_reaches_7 co_RX1_40 rfl ?_
  refine r_icmp_eq (tgt := 21) hC dX1_reaches_9 rfl (fun h1 => ?_) (fun h1 => ?_)
  · refine r_iconst hC dX1_reaches_21 rfl ?_
    refine y_zret hK rfl dX1_reaches_22 (by omega) ?_
    exact k0 (by unfold NO; omega)
  · refine r_iload_n hC dX1_reaches_12 rfl ?_
    refine r_iload_n hC dX1_reaches_13 rfl ?_
    refine r_icmp_lt (tgt := 21) hC dX1_reaches_14 rfl (fun h2 => ?_) (fun h2 => ?_)
    · refine r_iconst hC dX1_reaches_21 rfl ?_
      refine y_zret hK rfl dX1_reaches_22 (by omega) ?_
      exact k0 (by unfold NO; omega)
    · refine r_iconst hC dX1_reaches_17 rfl ?_
      refine r_goto (tgt := 22) hC dX1_reaches_18 rfl ?_
      refine y_zret hK rfl dX1_reaches_22 (by omega) ?_
      exact k1 (by unfold NO; omega)
theorem x_ring_S {eb : Bool} {d : Nat} {P : Option Vl → Mm → Prop} {σ : Mm} {i : Int} (b_i : 0 ≤ i ∧ i ≤ 6) (hn0 : σ 7 i 0 = i) (hI : InF σ)  (k : ∀ ρ : Mm, (∀ (c : Nat) (x y : Int), ¬ (c = 17 ∧ x = 0 ∨ c = 14 ∧ x = 0 ∧ (y = 5 ∨ y = 6 ∨ y = 7)) → ρ c x y = rgM σ i c x y) → InF ρ → P none ρ) : WT (true, true, eb) (d + 4) 102 [vR 2 0, vR 7 i] σ P := by
  refine WT_in fun K hK => ?_
  have hK : StpY (true, true, eb) cX5_ringWatches RX5 (none) (WT (true, true, eb) (d + 3)) P K := hK
  have hM := hK.1
  have hC := hK.1.1
  show K 0 [some (vR 2 0), some (vR 7 i), none, none] [] σ
  refine z_ok hM (fun hok => ?_)
  refine r_aload_n hC dX5_ringWatches_0 rfl ?_
  refine r_aload_n hC dX5_ringWatches_1 rfl ?_
  refine z_getI (jz := 0) hM dX5_ringWatches_2 fl_RX5_212 rfl rfl rfl (fun v1 h_v1 o_v1 t_v1 => ?_)
  have w_v1 := t_v1 (Or.inl (by simp [Tb]))
  subst w_v1
  refine z_inv1 hM dX5_ringWatches_5 vl_RX5_324 rfl rfl rfl (Nat.le_of_ble_eq_true rfl) (Nat.le_of_ble_eq_true rfl) ?_
  refine x_isWatched ?_ (fun hnw => ?_)
  · refine r_if_ne (tgt := 12) hC dX5_ringWatches_8 rfl (fun h2 => ?_) (fun h2 => by omega)
    have b6 := (hok 7 i 6 (Or.inl (by simp [Tb]))).1 rfl
    refine r_aload_n hC dX5_ringWatches_12 rfl ?_
    refine z_getR hM dX5_ringWatches_13 fl_RX5_40 rfl rfl (vld_of (n := 1) rfl (by omega) (by omega)) ?_
    refine r_aload_n hC dX5_ringWatches_16 rfl ?_
    refine z_getI (jz := 2) hM dX5_ringWatches_17 fl_RX5_98 rfl rfl rfl (fun v3 h_v3 o_v3 t_v3 => ?_)
    have w_v3 := t_v3 (Or.inl (by simp [Tb]))
    subst w_v3
    have q_v3 : 0 ≤ (σ 7 i 2) ∧ (σ 7 i 2) ≤ 9 := o_v3.2.2 rfl
    refine z_inv1 hM dX5_ringWatches_20 vl_RX5_251 rfl rfl rfl (Nat.le_of_ble_eq_true rfl) (Nat.le_of_ble_eq_true rfl) ?_
    refine x_begin (by omega) rfl rfl rfl rfl rfl rfl rfl rfl rfl rfl (fun ρ4 g_ρ4 z_ρ4 => ?_)
    have t12_ρ4 : ∀ w y : Int, ρ4 12 w y = σ 12 w y := fun w y => g_ρ4 12 w y (by omega)
    refine r_iconst hC dX5_ringWatches_23 rfl ?_
    refine r_istore_n hC dX5_ringWatches_24 rfl ?_
    have L25 : ∀ (n25 : Nat) (w5 : Int) (ρ6 : Mm), 0 ≤ w5 ∧ w5 ≤ 121 → ((w5) ≤ σ 7 i 6) → 121 - w5 < (n25 : Int) → Gx (fun c x y => c = 17 ∧ x = 0 ∨ c = 14 ∧ x = 0 ∧ (y = 5 ∨ y = 6 ∨ y = 7) ∨ c = 12 ∧ 3 ≤ y ∧ y ≤ 5) σ ρ6 → (FRc ρ6 (σ 7 i 2) (σ 9 i) ((w5)).toNat) → (∀ w y : Int, ρ6 12 w y = σ 12 w y) → K 25 [some (vR 2 0), some (vR 7 i), some (vI w5), none] [] ρ6 := by
      intro n25
      induction n25 with
      | zero => intro w5 ρ6 f_w5 i0_25 hm g_ρ6 m0_25 m1_25; omega
      | succ n25 ih25 =>
        intro w5 ρ6 f_w5 i0_25 hm25 g_ρ6 m0_25 m1_25
        have q6_25 := (g_ρ6) 7 i 6 (by omega)
        refine r_iload_n hC dX5_ringWatches_25 rfl ?_
        refine r_aload_n hC dX5_ringWatches_26 rfl ?_
        refine z_getI (jz := 6) hM dX5_ringWatches_27 fl_RX5_154 rfl rfl rfl (fun v7 h_v7 o_v7 t_v7 => ?_)
        have w_v7 := t_v7 (Or.inl (by simp [Tb]))
        subst w_v7
        have q_v7 : 0 ≤ (ρ6 7 i 6) ∧ (ρ6 7 i 6) ≤ 121 := o_v7.1 rfl
        refine r_icmp_ge (tgt := 52) hC dX5_ringWatches_30 rfl (fun h8 => ?_) (fun h8 => ?_)
        · refine r_iconst hC dX5_ringWatches_52 rfl ?_
          refine r_istore_n hC dX5_ringWatches_53 rfl ?_
          have L54 : ∀ (n54 : Nat) (w9 : Int) (ρ10 : Mm), 0 ≤ w9 ∧ w9 ≤ 8 → 8 - w9 < (n54 : Int) → Gx (fun c x y => c = 17 ∧ x = 0 ∨ c = 14 ∧ x = 0 ∧ (y = 5 ∨ y = 6 ∨ y = 7) ∨ c = 12 ∧ 3 ≤ y ∧ y ≤ 5) σ ρ10 → (FRc ρ10 (σ 7 i 2) (σ 9 i) (σ 7 i 6).toNat) → (∀ x y : Int, ρ10 12 x y = rgK σ i (w9) 12 x y) → K 54 [some (vR 2 0), some (vR 7 i), some (vI w9), none] [] ρ10 := by
            intro n54
            induction n54 with
            | zero => intro w9 ρ10 f_w9  hm g_ρ10 m0_54 m1_54; omega
            | succ n54 ih54 =>
              intro w9 ρ10 f_w9  hm54 g_ρ10 m0_54 m1_54
              refine r_iload_n hC dX5_ringWatches_54 rfl ?_
              refine r_bipush hC dX5_ringWatches_55 rfl ?_
              refine r_icmp_ge (tgt := 107) hC dX5_ringWatches_57 rfl (fun h11 => ?_) (fun h11 => ?_)
              · refine y_vret hK rfl dX5_ringWatches_107 ?_
                refine k _ (fun c x y hc => ?_) (m0_54.inF (fun j h0 h1 => by rw [(g_ρ10) 15 0 j (by omega)]; exact hok 15 0 j (Or.inl trivial)))
                have h12 : ∀ x y : Int, ρ10 12 x y = rgM σ i 12 x y := fun x y => by rw [m1_54 x y, rgK_8 (by omega)]
                by_cases e12 : c = 12
                · subst e12; exact h12 x y
                · rw [rgM_ne (by omega)]; exact (g_ρ10) c x y (by omega)
              · refine r_aload_n hC dX5_ringWatches_60 rfl ?_
                refine z_getR hM dX5_ringWatches_61 fl_RX5_32 rfl rfl (vld_of (n := 1) rfl (by omega) (by omega)) ?_
                refine r_iload_n hC dX5_ringWatches_64 rfl ?_
                refine z_aald hM dX5_ringWatches_65 rfl (by decide) (by omega) (by omega) (vld_of (n := 8) rfl (by omega) (by omega)) ?_
                refine r_astore_n hC dX5_ringWatches_66 rfl ?_
                refine r_aload_n hC dX5_ringWatches_67 rfl ?_
                refine z_getI (jz := 0) hM dX5_ringWatches_68 fl_RX5_321 rfl rfl rfl (fun v12 h_v12 o_v12 t_v12 => ?_)
                have w_v12 := t_v12 (Or.inl (by simp [Tb]))
                subst w_v12
                refine r_aload_n hC dX5_ringWatches_71 rfl ?_
                refine z_getI (jz := 0) hM dX5_ringWatches_72 fl_RX5_212 rfl rfl rfl (fun v13 h_v13 o_v13 t_v13 => ?_)
                have w_v13 := t_v13 (Or.inl (by simp [Tb]))
                subst w_v13
                refine r_icmp_ne (tgt := 101) hC dX5_ringWatches_75 rfl (fun h14 => ?_) (fun h14 => ?_)
                · refine r_iincE hC ((w9 + 1)) dX5_ringWatches_101 rfl rfl (by omega) (by unfold inR; omega) ?_
                  refine r_goto (tgt := 54) hC dX5_ringWatches_104 rfl ?_
                  refine r_forget hC (ls2 := [some (vR 2 0), some (vR 7 i), some (vI (w9 + 1)), none]) (lsub_some (lsub_some (lsub_some (lsub_none lsub_nil)))) ?_
                  exact ih54 ((w9 + 1)) ρ10 (by omega)  (by omega) (g_ρ10) (m0_54) (fun x y => (m1_54 x y).trans (rgK_no (by have := (m1_54 w9 0).trans (rgK_lo (by omega)); have := (g_ρ10) 7 i 0 (by omega); omega) 12 x y).symm)
                · refine r_aload_n hC dX5_ringWatches_78 rfl ?_
                  refine r_aload_n hC dX5_ringWatches_79 rfl ?_
                  refine z_getR hM dX5_ringWatches_80 fl_RX5_40 rfl rfl (vld_of (n := 1) rfl (by omega) (by omega)) ?_
                  refine r_aload_n hC dX5_ringWatches_83 rfl ?_
                  refine z_getI (jz := 1) hM dX5_ringWatches_84 fl_RX5_327 rfl rfl rfl (fun v15 h_v15 o_v15 t_v15 => ?_)
                  have w_v15 := t_v15 (Or.inl (by simp [Tb]))
                  subst w_v15
                  refine r_aload_n hC dX5_ringWatches_87 rfl ?_
                  refine z_getI (jz := 2) hM dX5_ringWatches_88 fl_RX5_328 rfl rfl rfl (fun v16 h_v16 o_v16 t_v16 => ?_)
                  have w_v16 := t_v16 (Or.inl (by simp [Tb]))
                  subst w_v16
                  refine z_inv2 hM dX5_ringWatches_91 vl_RX5_256 rfl rfl rfl (Nat.le_of_ble_eq_true rfl) (Nat.le_of_ble_eq_true rfl) ?_
                  have e16 : ρ10 16 0 = σ 16 0 := funext fun j => (g_ρ10) 16 0 j (by omega)
                  have e15 : ρ10 15 0 = σ 15 0 := funext fun j => (g_ρ10) 15 0 j (by omega)
                  have eq1 : ρ10 12 w9 1 = σ 12 w9 1 := (m1_54 _ _).trans (rgK_lo (by omega))
                  have eq2 : ρ10 12 w9 2 = σ 12 w9 2 := (m1_54 _ _).trans (rgK_lo (by omega))
                  refine x_reaches (o := σ 7 i 2) (u := (σ 9 i)) (n := (σ 7 i 6).toNat) (by omega) (by omega) m0_54 (fun h17 => ?_) (fun h17 => ?_)
                  · have hz : (1 : Int) = isR σ i w9 := by
                      rw [e16, e15, eq1, eq2] at h17
                      exact (if_pos h17).symm
                    refine r_aload_n hC dX5_ringWatches_94 rfl ?_
                    refine z_getI (jz := 10) hM dX5_ringWatches_95 fl_RX5_157 rfl rfl rfl (fun v18 h_v18 o_v18 t_v18 => ?_)
                    have w_v18 := t_v18 (Or.inl (by simp [Tb]))
                    subst w_v18
                    refine z_inv2 hM dX5_ringWatches_98 vl_RX5_331 rfl rfl rfl (Nat.le_of_ble_eq_true rfl) (Nat.le_of_ble_eq_true rfl) ?_
                    refine x_note (by omega) (by omega) ?_
                    obtain ⟨ρ19, e_ρ19⟩ : ∃ ρ, ρ = noM ρ10 w9 1 (ρ10 7 i 10) := ⟨_, rfl⟩
                    rw [← e_ρ19]
                    have g_ρ19 : Gx (fun c x y => c = 12 ∧ 3 ≤ y ∧ y ≤ 5) ρ10 ρ19 := fun c x y h => by rw [e_ρ19]; exact noM_ne (by omega)
                    have r_ρ19 : ∀ x y : Int, ρ19 12 x y = rgK σ i (w9 + 1) 12 x y := fun x y => by rw [e_ρ19]; exact rgK_yes (by omega) (by have := (m1_54 w9 0).trans (rgK_lo (by omega)); have := (g_ρ10) 7 i 0 (by omega); omega) m1_54 hz ((g_ρ10) 7 i 10 (by omega)) x y
                    have f_ρ19 : FRc ρ19 (σ 7 i 2) (σ 9 i) (σ 7 i 6).toNat := m0_54.ext (fun j _ => g_ρ19 14 0 j (by omega)) (fun j => g_ρ19 17 0 j (by omega)) (funext fun j => g_ρ19 16 0 j (by omega)) (funext fun j => g_ρ19 15 0 j (by omega))
                    refine r_iincE hC ((w9 + 1)) dX5_ringWatches_101 rfl rfl (by omega) (by unfold inR; omega) ?_
                    refine r_goto (tgt := 54) hC dX5_ringWatches_104 rfl ?_
                    refine r_forget hC (ls2 := [some (vR 2 0), some (vR 7 i), some (vI (w9 + 1)), none]) (lsub_some (lsub_some (lsub_some (lsub_none lsub_nil)))) ?_
                    exact ih54 ((w9 + 1)) ρ19 (by omega)  (by omega) (Gx.gx (g_ρ10) g_ρ19 (by intro c x y h; omega)) (f_ρ19) (r_ρ19)
                  · have hz : (0 : Int) = isR σ i w9 := by
                      rw [e16, e15, eq1, eq2] at h17
                      exact (if_neg h17).symm
                    refine r_aload_n hC dX5_ringWatches_94 rfl ?_
                    refine z_getI (jz := 10) hM dX5_ringWatches_95 fl_RX5_157 rfl rfl rfl (fun v20 h_v20 o_v20 t_v20 => ?_)
                    have w_v20 := t_v20 (Or.inl (by simp [Tb]))
                    subst w_v20
                    refine z_inv2 hM dX5_ringWatches_98 vl_RX5_331 rfl rfl rfl (Nat.le_of_ble_eq_true rfl) (Nat.le_of_ble_eq_true rfl) ?_
                    refine x_note (by omega) (by omega) ?_
                    obtain ⟨ρ21, e_ρ21⟩ : ∃ ρ, ρ = noM ρ10 w9 0 (ρ10 7 i 10) := ⟨_, rfl⟩
                    rw [← e_ρ21]
                    have g_ρ21 : Gx (fun c x y => c = 12 ∧ 3 ≤ y ∧ y ≤ 5) ρ10 ρ21 := fun c x y h => by rw [e_ρ21]; exact noM_ne (by omega)
                    have r_ρ21 : ∀ x y : Int, ρ21 12 x y = rgK σ i (w9 + 1) 12 x y := fun x y => by rw [e_ρ21]; exact rgK_yes (by omega) (by have := (m1_54 w9 0).trans (rgK_lo (by omega)); have := (g_ρ10) 7 i 0 (by omega); omega) m1_54 hz ((g_ρ10) 7 i 10 (by omega)) x y
                    have f_ρ21 : FRc ρ21 (σ 7 i 2) (σ 9 i) (σ 7 i 6).toNat := m0_54.ext (fun j _ => g_ρ21 14 0 j (by omega)) (fun j => g_ρ21 17 0 j (by omega)) (funext fun j => g_ρ21 16 0 j (by omega)) (funext fun j => g_ρ21 15 0 j (by omega))
                    refine r_iincE hC ((w9 + 1)) dX5_ringWatches_101 rfl rfl (by omega) (by unfold inR; omega) ?_
                    refine r_goto (tgt := 54) hC dX5_ringWatches_104 rfl ?_
                    refine r_forget hC (ls2 := [some (vR 2 0), some (vR 7 i), some (vI (w9 + 1)), none]) (lsub_some (lsub_some (lsub_some (lsub_none lsub_nil)))) ?_
                    exact ih54 ((w9 + 1)) ρ21 (by omega)  (by omega) (Gx.gx (g_ρ10) g_ρ21 (by intro c x y h; omega)) (f_ρ21) (r_ρ21)
          exact L54 10 (0) ρ6 (by omega)  (by omega) (g_ρ6) (by have h := m0_25; rw [show (w5).toNat = (σ 7 i 6).toNat from by have := (g_ρ6) 7 i 6 (by omega); omega] at h; exact h) (fun x y => (m1_25 x y).trans (rgK_0 rfl 12 x y).symm)
        · refine r_aload_n hC dX5_ringWatches_33 rfl ?_
          refine z_getR hM dX5_ringWatches_34 fl_RX5_40 rfl rfl (vld_of (n := 1) rfl (by omega) (by omega)) ?_
          refine r_aload_n hC dX5_ringWatches_37 rfl ?_
          refine z_getR hM dX5_ringWatches_38 fl_RX5_176 rfl rfl (vld_of (n := 7) rfl (by omega) (by omega)) ?_
          refine r_iload_n hC dX5_ringWatches_41 rfl ?_
          refine z_iald hM dX5_ringWatches_42 rfl (by omega) (by omega) (fun v22 h_v22 o_v22 t_v22 => ?_)
          have w_v22 := t_v22 (Or.inl trivial)
          subst w_v22
          have q_v22 : -1000 ≤ (ρ6 9 i w5) ∧ (ρ6 9 i w5) ≤ 1000 := o_v22
          refine z_inv1 hM dX5_ringWatches_43 vl_RX5_253 rfl rfl rfl (Nat.le_of_ble_eq_true rfl) (Nat.le_of_ble_eq_true rfl) ?_
          refine x_append2 (u := (σ 9 i)) (n := (w5).toNat) (by rw [show (((w5).toNat : Nat) : Int) = w5 from by omega]; exact (g_ρ6) 9 i _ (by omega)) (by omega) (by omega) (by omega) (fun j h0 h1 => hok 9 i _ (Or.inl trivial)) m0_25 (fun j h0 h1 => by rw [(g_ρ6) 15 0 j (by omega)]; exact hok 15 0 j (Or.inl trivial)) (fun ρ23 g_ρ23 r_ρ23 => ?_)
          have t12_ρ23 : ∀ w y : Int, ρ23 12 w y = σ 12 w y := fun w y => (g_ρ23 12 w y (by omega)).trans (m1_25 w y)
          refine r_iincE hC ((w5 + 1)) dX5_ringWatches_46 rfl rfl (by omega) (by unfold inR; omega) ?_
          refine r_goto (tgt := 25) hC dX5_ringWatches_49 rfl ?_
          exact ih25 ((w5 + 1)) ρ23 (by omega) (by omega) (by omega) (Gx.gx (g_ρ6) g_ρ23 (by intro c x y h; omega)) (by rw [show ((w5 + 1)).toNat = ((w5 + 1) - 1).toNat + 1 from by omega]; have h := r_ρ23; rw [show (w5 + 1) - 1 = w5 from by omega]; exact h) (t12_ρ23)
    exact L25 123 (0) ρ4 (by omega) (by omega) (by omega) (Gx.gx (Gx.rf) g_ρ4 (by intro c x y h; omega)) (by have h := z_ρ4 (σ 9 i); exact h) (t12_ρ4)
  · refine r_if_ne (tgt := 12) hC dX5_ringWatches_8 rfl (fun h24 => by omega) (fun h24 => ?_)
    refine y_vret hK rfl dX5_ringWatches_11 ?_
    exact k σ (fun c x y _ => by rw [rgM_id (fun w h0 h1 => by have := hnw w h0 h1; omega)]) hI
-- B: drops, places
theorem x_ring {eb : Bool} {d : Nat} {P : Option Vl → Mm → Prop} {σ : Mm} {i : Int} (b_i : 0 ≤ i ∧ i ≤ 6) (hn0 : σ 7 i 0 = i) (k : P none (rgM σ i)) : WT (true, false, eb) (d + 4) 102 [vR 2 0, vR 7 i] σ P := by
  refine WT_loose (true, true, eb) (fun h => h) (fun h => by cases h) (fun c j q => ?_) (fun ρ hL hF hT hO => ?_)
  · rcases q with q | q | q | q
    · exact Or.inl q
    · exact Or.inr (Or.inl q)
    · cases q.1
    · exact Or.inr (Or.inr (Or.inr q))
  · have t7 : ∀ y : Int, y ≠ 11 → ρ 7 i y = σ 7 i y := fun y hy => hT 7 i y (Or.inl hy)
    refine x_ring_S b_i ((t7 0 (by omega)).trans hn0) (hF rfl) (fun ρ2 g hI => ⟨rgM σ i, k, fun h => Or.inl h, fun _ => Or.inr hI, fun c x y q => ?_⟩)
    refine (g c x y ?_).trans (rgM_c (funext fun j => hT 16 0 j (Or.inl trivial)) (funext fun j => hT 15 0 j (Or.inl trivial)) (t7 2 (by omega)) (funext fun j => hT 9 i j (Or.inl trivial)) (t7 6 (by omega)) (t7 10 (by omega)) (fun w y => hT 12 w y (Or.inl trivial)) (hT c x y q))
    rintro (⟨rfl, rfl⟩ | ⟨rfl, rfl, h⟩)
    · rcases q with q | q | q | q
      · exact q
      · exact q.2
      · cases q.1
      · exact q.2
    · rcases q with q | q | q | q
      · exact q
      · exact q.2
      · cases q.1
      · exact q.2
theorem FI_bnd {f : Int → Int} {h : Int} (p : FI f h) (q : h ≤ 121) : (0 ≤ f 0 ∧ f 0 ≤ 121) ∧ (0 ≤ f 1 ∧ f 1 ≤ 121) ∧ (0 ≤ f 2 ∧ f 2 ≤ 121) ∧ 0 ≤ f 3 ∧ f 3 ≤ 242 := by
  unfold FI at p
  omega
theorem x_dropOldest {ec : Bool} {d : Nat} {P : Option Vl → Mm → Prop} {σ : Mm} {i : Int} (b_i : 0 ≤ i ∧ i ≤ 6) (hn0 : σ 7 i 0 = i) (hF : FI (σ 11 i) (σ 7 i 6)) (h1 : 1 ≤ σ 7 i 6) (h6 : σ 7 i 6 ≤ 121)  (k : P none (dpM σ i)) : WT (true, false, ec) (d + 5) 68 [vR 2 0, vR 7 i] σ P := by
  refine WT_in fun K hK => ?_
  have hK : StpY (true, false, ec) cX5_dropOldest RX5 (none) (WT (true, false, ec) (d + 4)) P K := hK
  have hM := hK.1
  have hC := hK.1.1
  show K 0 [some (vR 2 0), some (vR 7 i)] [] σ
  have hFB := FI_bnd hF (by omega : σ 7 i 6 ≤ 121)
  refine r_aload_n hC dX5_dropOldest_0 rfl ?_
  refine r_iconst hC dX5_dropOldest_1 rfl ?_
  refine z_inv1 hM dX5_dropOldest_2 vl_RX5_179 rfl rfl rfl (Nat.le_of_ble_eq_true rfl) (Nat.le_of_ble_eq_true rfl) ?_
  have z6_2 : σ 7 i 6 = (σ 7 i 6) := (rfl)
  refine x_remove (by omega) (by omega) (by omega) ?_
  refine r_aload_n hC dX5_dropOldest_5 rfl ?_
  refine r_dup hC dX5_dropOldest_6 rfl ?_
  refine z_getI (jz := 13) hM dX5_dropOldest_7 fl_RX5_204 rfl rfl rfl (fun v1 h_v1 o_v1 t_v1 => ?_)
  have w_v1 := ((t_v1 (Or.inl (by simp [Tb]))).trans ((remM_ne (by omega)).trans (rfl))).symm
  subst w_v1
  refine r_iconst hC dX5_dropOldest_10 rfl ?_
  refine r_iadd hC dX5_dropOldest_11 ?_
  have f2 := inR_le (inR_wr ((σ 7 i 13) + 1))
  refine z_putIT (jz := 13) hM dX5_dropOldest_12 fw_RX5_204 rfl rfl rfl ⟨Or.inr (by simp [DL]), Or.inr (by simp [DF])⟩ (by first | trivial | (simp only [Okv]; omega) | (simp [Okv]; try omega)) ?_
  refine r_aload_n hC dX5_dropOldest_15 rfl ?_
  refine z_getR hM dX5_dropOldest_16 fl_RX5_189 rfl rfl (vld_of (n := 8) rfl (by omega) (by omega)) ?_
  refine z_inv0 hM dX5_dropOldest_19 vl_RX5_207 rfl rfl rfl (Nat.le_of_ble_eq_true rfl) (Nat.le_of_ble_eq_true rfl) ?_
  have z0_19 : (mu (remM σ i 0) 7 i 13 (wr ((σ 7 i 13) + 1))) 11 i 0 = (σ 11 i 0) := ((mu_ne (by omega)).trans ((remM_ne (by omega)).trans (rfl)))
  have z1_19 : (mu (remM σ i 0) 7 i 13 (wr ((σ 7 i 13) + 1))) 11 i 1 = (σ 11 i 1) := ((mu_ne (by omega)).trans ((remM_ne (by omega)).trans (rfl)))
  have z2_19 : (mu (remM σ i 0) 7 i 13 (wr ((σ 7 i 13) + 1))) 11 i 2 = (σ 11 i 2) := ((mu_ne (by omega)).trans ((remM_ne (by omega)).trans (rfl)))
  have z3_19 : (mu (remM σ i 0) 7 i 13 (wr ((σ 7 i 13) + 1))) 11 i 3 = (σ 11 i 3) := ((mu_ne (by omega)).trans ((remM_ne (by omega)).trans (rfl)))
  refine x_drop (by omega) (by omega) ?_
  refine r_aload_n hC dX5_dropOldest_22 rfl ?_
  refine r_aload_n hC dX5_dropOldest_23 rfl ?_
  refine z_inv1 hM dX5_dropOldest_24 vl_RX5_195 rfl rfl rfl (Nat.le_of_ble_eq_true rfl) (Nat.le_of_ble_eq_true rfl) ?_
  refine x_ring (by omega) (((dfM_ne (by omega)).trans ((mu_ne (by omega)).trans ((remM_ne (by omega)).trans (rfl)))).trans hn0) ?_
  refine y_vret hK rfl dX5_dropOldest_27 ?_
  have hm : dpM σ i = (rgM (dfM (mu (remM σ i 0) 7 i 13 (wr ((σ 7 i 13) + 1))) i) i) := rfl
  rw [hm] at k
  exact k
theorem x_layAnewS {ec : Bool} {d : Nat} {P : Option Vl → Mm → Prop} {σ : Mm} {i : Int} (b_i : 0 ≤ i ∧ i ≤ 6) (hn0 : σ 7 i 0 = i)  (k : P none (rgM (lyM σ i (σ 7 i 6)) i)) : WT (true, false, ec) (d + 5) 69 [vR 2 0, vR 7 i] σ P := by
  refine WT_in fun K hK => ?_
  have hK : StpY (true, false, ec) cX5_layAnew RX5 (none) (WT (true, false, ec) (d + 4)) P K := hK
  have hM := hK.1
  have hC := hK.1.1
  show K 0 [some (vR 2 0), some (vR 7 i)] [] σ
  refine r_aload_n hC dX5_layAnew_0 rfl ?_
  refine z_getR hM dX5_layAnew_1 fl_RX5_189 rfl rfl (vld_of (n := 8) rfl (by omega) (by omega)) ?_
  refine r_aload_n hC dX5_layAnew_4 rfl ?_
  refine z_getI (jz := 6) hM dX5_layAnew_5 fl_RX5_154 rfl rfl rfl (fun v1 h_v1 o_v1 t_v1 => ?_)
  have w_v1 := ((t_v1 (Or.inl (by simp [Tb]))).trans (rfl)).symm
  subst w_v1
  have q_v1 : 0 ≤ (σ 7 i 6) ∧ (σ 7 i 6) ≤ 121 := o_v1.1 rfl
  refine z_inv1 hM dX5_layAnew_8 vl_RX5_210 rfl rfl rfl (Nat.le_of_ble_eq_true rfl) (Nat.le_of_ble_eq_true rfl) ?_
  refine x_layAnew (by omega) (by omega) ?_
  refine r_aload_n hC dX5_layAnew_11 rfl ?_
  refine r_aload_n hC dX5_layAnew_12 rfl ?_
  refine z_inv1 hM dX5_layAnew_13 vl_RX5_195 rfl rfl rfl (Nat.le_of_ble_eq_true rfl) (Nat.le_of_ble_eq_true rfl) ?_
  refine x_ring (by omega) (((lyM_ne (by omega)).trans (rfl)).trans hn0) ?_
  refine y_vret hK rfl dX5_layAnew_16 ?_
  have hm : rgM (lyM σ i (σ 7 i 6)) i = (rgM (lyM σ i (σ 7 i 6)) i) := rfl
  rw [hm] at k
  exact k
theorem x_place {ec : Bool} {d : Nat} {P : Option Vl → Mm → Prop} {σ : Mm} {i t v : Int} (b_i : 0 ≤ i ∧ i ≤ 6) (b_t : -2147483648 ≤ t ∧ t ≤ 2147483647) (b_v : -1000 ≤ v ∧ v ≤ 1000) (hn0 : σ 7 i 0 = i) (hF : FI (σ 11 i) (σ 7 i 6)) (hh : 0 ≤ σ 7 i 6 ∧ σ 7 i 6 ≤ 120)  (k : P none (plM σ i t v)) : WT (true, false, ec) (d + 6) 67 [vR 2 0, vR 7 i, vI t, vI v] σ P := by
  refine WT_in fun K hK => ?_
  have hK : StpY (true, false, ec) cX5_place RX5 (none) (WT (true, false, ec) (d + 5)) P K := hK
  have hM := hK.1
  have hC := hK.1.1
  show K 0 [some (vR 2 0), some (vR 7 i), some (vI t), some (vI v), none, none, none] [] σ
  have hFB := FI_bnd hF (by omega : σ 7 i 6 ≤ 121)
  refine r_aload_n hC dX5_place_0 rfl ?_
  refine r_iload_n hC dX5_place_1 rfl ?_
  refine r_i2l hC dX5_place_2 ?_
  refine z_inv1 hM dX5_place_3 vl_RX5_167 rfl rfl rfl (Nat.le_of_ble_eq_true rfl) (Nat.le_of_ble_eq_true rfl) ?_
  refine x_heldUntil (by omega) (fun h1 => ?_)
  refine r_istore hC dX5_place_6 rfl ?_
  refine r_iload hC dX5_place_8 rfl ?_
  refine r_aload_n hC dX5_place_10 rfl ?_
  refine z_getI (jz := 6) hM dX5_place_11 fl_RX5_154 rfl rfl rfl (fun v2 h_v2 o_v2 t_v2 => ?_)
  have w_v2 := ((t_v2 (Or.inl (by simp [Tb]))).trans (rfl)).symm
  subst w_v2
  have q_v2 : 0 ≤ (σ 7 i 6) ∧ (σ 7 i 6) ≤ 121 := o_v2.1 rfl
  refine r_icmp_ne (tgt := 21) hC dX5_place_14 rfl (fun h3 => ?_) (fun h3 => ?_)
  · refine r_iconst hC dX5_place_21 rfl ?_
    refine r_istore hC dX5_place_22 rfl ?_
    refine r_aload_n hC dX5_place_24 rfl ?_
    refine r_iload hC dX5_place_25 rfl ?_
    refine r_iload_n hC dX5_place_27 rfl ?_
    refine r_iload_n hC dX5_place_28 rfl ?_
    refine z_inv3 hM dX5_place_29 vl_RX5_185 rfl rfl rfl (Nat.le_of_ble_eq_true rfl) (Nat.le_of_ble_eq_true rfl) ?_
    have z6_29 : σ 7 i 6 = (σ 7 i 6) := (rfl)
    refine x_insert (by omega) (by omega) (by omega) (by omega) (by omega) (by omega) ?_
    refine r_iload hC dX5_place_32 rfl ?_
    refine r_if_eq (tgt := 52) hC dX5_place_34 rfl (fun h4 => ?_) (fun h4 => by omega)
    refine r_aload_n hC dX5_place_52 rfl ?_
    refine r_aload_n hC dX5_place_53 rfl ?_
    refine z_inv1 hM dX5_place_54 vl_RX5_182 rfl rfl rfl (Nat.le_of_ble_eq_true rfl) (Nat.le_of_ble_eq_true rfl) ?_
    refine x_layAnewS (by omega) (((insM_ne (by omega)).trans (rfl)).trans hn0) ?_
    rw [show (insM σ i (hU σ i t) t v) 7 i 6 = ((σ 7 i 6) + 1) from (insM_6.trans (congrArg (· + 1) (rfl)))]
    have hE : (rgM (lyM (insM σ i (hU σ i t) t v) i ((σ 7 i 6) + 1)) i) = enM σ i t v := by
      unfold enM
      first | rw [if_pos (by omega)] | rw [if_neg (by omega)]
    refine r_aload_n hC dX5_place_57 rfl ?_
    refine z_getI (jz := 6) hM dX5_place_58 fl_RX5_154 rfl rfl rfl (fun v5 h_v5 o_v5 t_v5 => ?_)
    have w_v5 := ((t_v5 (Or.inl (by simp [Tb]))).trans ((rgM_ne (by omega)).trans ((lyM_ne (by omega)).trans (insM_6.trans (congrArg (· + 1) (rfl)))))).symm
    subst w_v5
    have q_v5 : 0 ≤ ((σ 7 i 6) + 1) ∧ ((σ 7 i 6) + 1) ≤ 121 := o_v5.1 rfl
    refine r_istore hC dX5_place_61 rfl ?_
    have L63 : ∀ (n63 : Nat) (w6 : Int) (ρ7 : Mm), 0 ≤ w6 ∧ w6 ≤ 121 → w6 - 0 < (n63 : Int) → (drps i ((w6)).toNat ρ7 = plM σ i t v) → (LI ρ7 i) → (ρ7 7 i 6 = (w6)) → K 63 [some (vR 2 0), some (vR 7 i), some (vI t), some (vI v), some (vI (hU σ i t)), some (vI 0), some (vI w6)] [] ρ7 := by
      intro n63
      induction n63 with
      | zero => intro w6 ρ7 f_w6  hm  m0_63 m1_63 m2_63; omega
      | succ n63 ih63 =>
        intro w6 ρ7 f_w6  hm63  m0_63 m1_63 m2_63
        refine r_iload hC dX5_place_63 rfl ?_
        refine r_if_le (tgt := 100) hC dX5_place_65 rfl (fun h8 => ?_) (fun h8 => ?_)
        · refine y_vret hK rfl dX5_place_100 ?_
          have hm : plM σ i t v = ρ7 := by rw [← m0_63]; first | exact drps_no (by omega) | (rw [show (w6).toNat = 0 from by omega]; rfl)
          rw [hm] at k
          exact k
        · refine r_aload_n hC dX5_place_68 rfl ?_
          refine r_aload_n hC dX5_place_69 rfl ?_
          refine z_getI (jz := 6) hM dX5_place_70 fl_RX5_154 rfl rfl rfl (fun v9 h_v9 o_v9 t_v9 => ?_)
          have w_v9 := ((t_v9 (Or.inl (by simp [Tb]))).trans (rfl)).symm
          subst w_v9
          have q_v9 : 0 ≤ (ρ7 7 i 6) ∧ (ρ7 7 i 6) ≤ 121 := o_v9.1 rfl
          refine r_aload_n hC dX5_place_73 rfl ?_
          refine z_getR hM dX5_place_74 fl_RX5_198 rfl rfl (vld_of (n := 7) rfl (by omega) (by omega)) ?_
          refine r_iconst hC dX5_place_77 rfl ?_
          refine z_iald hM dX5_place_78 rfl (by omega) (by omega) (fun v10 h_v10 o_v10 t_v10 => ?_)
          have w_v10 := ((t_v10 (Or.inl (by simp [Tb]))).trans (rfl)).symm
          subst w_v10
          refine r_aload_n hC dX5_place_79 rfl ?_
          refine z_getI (jz := 10) hM dX5_place_80 fl_RX5_157 rfl rfl rfl (fun v11 h_v11 o_v11 t_v11 => ?_)
          have w_v11 := ((t_v11 (Or.inl (by simp [Tb]))).trans (rfl)).symm
          subst w_v11
          refine z_inv3 hM dX5_place_83 vl_RX5_201 rfl rfl rfl (Nat.le_of_ble_eq_true rfl) (Nat.le_of_ble_eq_true rfl) ?_
          refine x_goes (by omega) (fun h12 => ?_) (fun h12 => ?_)
          · have y3_h12 : ρ7 7 i 3 = (ρ7 7 i 3) := (rfl)
            have y4_h12 : ρ7 7 i 4 = (ρ7 7 i 4) := (rfl)
            refine r_if_eq (tgt := 100) hC dX5_place_86 rfl (fun h13 => by omega) (fun h13 => ?_)
            have hgo : goV ρ7 i := by unfold goV; omega
            refine r_aload_n hC dX5_place_89 rfl ?_
            refine r_aload_n hC dX5_place_90 rfl ?_
            refine z_inv1 hM dX5_place_91 vl_RX5_163 rfl rfl rfl (Nat.le_of_ble_eq_true rfl) (Nat.le_of_ble_eq_true rfl) ?_
            refine x_dropOldest (by omega) m1_63.1 m1_63.2.1 (by omega) (by omega) ?_
            refine r_iincE hC ((w6 - 1)) dX5_place_94 rfl rfl (by omega) (by unfold inR; omega) ?_
            refine r_goto (tgt := 63) hC dX5_place_97 rfl ?_
            exact ih63 ((w6 - 1)) (dpM ρ7 i) (by omega)  (by omega)  (by have q := m0_63; rw [show (w6).toNat = ((w6 - 1)).toNat + 1 from by omega, drps_yes hgo] at q; exact q) (m1_63.dp (by omega)) (by have q : (dpM ρ7 i) 7 i 6 = ((ρ7 7 i 6) - 1) := (dpM_6); omega)
          · have y3_h12 : ρ7 7 i 3 = (ρ7 7 i 3) := (rfl)
            have y4_h12 : ρ7 7 i 4 = (ρ7 7 i 4) := (rfl)
            refine r_if_eq (tgt := 100) hC dX5_place_86 rfl (fun h14 => ?_) (fun h14 => by omega)
            refine y_vret hK rfl dX5_place_100 ?_
            have hm : plM σ i t v = ρ7 := by rw [← m0_63]; first | exact drps_no (by omega) | (rw [show (w6).toNat = 0 from by omega]; rfl)
            rw [hm] at k
            exact k
    exact L63 123 (((σ 7 i 6) + 1)) (rgM (lyM (insM σ i (hU σ i t) t v) i ((σ 7 i 6) + 1)) i) (by omega)  (by omega)  (by rw [hE]; rfl) (by rw [hE]; exact LI.en ⟨hn0, hF, by omega⟩) (by have q : (rgM (lyM (insM σ i (hU σ i t) t v) i ((σ 7 i 6) + 1)) i) 7 i 6 = ((σ 7 i 6) + 1) := ((rgM_ne (by omega)).trans ((lyM_ne (by omega)).trans (insM_6.trans (congrArg (· + 1) (rfl))))); omega)
  · refine r_iconst hC dX5_place_17 rfl ?_
    refine r_goto (tgt := 22) hC dX5_place_18 rfl ?_
    refine r_istore hC dX5_place_22 rfl ?_
    refine r_aload_n hC dX5_place_24 rfl ?_
    refine r_iload hC dX5_place_25 rfl ?_
    refine r_iload_n hC dX5_place_27 rfl ?_
    refine r_iload_n hC dX5_place_28 rfl ?_
    refine z_inv3 hM dX5_place_29 vl_RX5_185 rfl rfl rfl (Nat.le_of_ble_eq_true rfl) (Nat.le_of_ble_eq_true rfl) ?_
    have z6_29 : σ 7 i 6 = (σ 7 i 6) := (rfl)
    refine x_insert (by omega) (by omega) (by omega) (by omega) (by omega) (by omega) ?_
    refine r_iload hC dX5_place_32 rfl ?_
    refine r_if_eq (tgt := 52) hC dX5_place_34 rfl (fun h15 => by omega) (fun h15 => ?_)
    refine r_aload_n hC dX5_place_37 rfl ?_
    refine z_getR hM dX5_place_38 fl_RX5_189 rfl rfl (vld_of (n := 8) rfl (by omega) (by omega)) ?_
    refine z_inv0 hM dX5_place_41 vl_RX5_192 rfl rfl rfl (Nat.le_of_ble_eq_true rfl) (Nat.le_of_ble_eq_true rfl) ?_
    have z0_41 : (insM σ i (hU σ i t) t v) 11 i 0 = (σ 11 i 0) := ((insM_ne (by omega)).trans (rfl))
    have z1_41 : (insM σ i (hU σ i t) t v) 11 i 1 = (σ 11 i 1) := ((insM_ne (by omega)).trans (rfl))
    have z2_41 : (insM σ i (hU σ i t) t v) 11 i 2 = (σ 11 i 2) := ((insM_ne (by omega)).trans (rfl))
    have z3_41 : (insM σ i (hU σ i t) t v) 11 i 3 = (σ 11 i 3) := ((insM_ne (by omega)).trans (rfl))
    refine x_add (by omega) (by omega) ?_
    refine r_aload_n hC dX5_place_44 rfl ?_
    refine r_aload_n hC dX5_place_45 rfl ?_
    refine z_inv1 hM dX5_place_46 vl_RX5_195 rfl rfl rfl (Nat.le_of_ble_eq_true rfl) (Nat.le_of_ble_eq_true rfl) ?_
    refine x_ring (by omega) (((adM_ne (by omega)).trans ((insM_ne (by omega)).trans (rfl))).trans hn0) ?_
    refine r_goto (tgt := 57) hC dX5_place_49 rfl ?_
    have hE : (rgM (adM (insM σ i (hU σ i t) t v) i) i) = enM σ i t v := by
      unfold enM
      first | rw [if_pos (by omega)] | rw [if_neg (by omega)]
    refine r_aload_n hC dX5_place_57 rfl ?_
    refine z_getI (jz := 6) hM dX5_place_58 fl_RX5_154 rfl rfl rfl (fun v16 h_v16 o_v16 t_v16 => ?_)
    have w_v16 := ((t_v16 (Or.inl (by simp [Tb]))).trans ((rgM_ne (by omega)).trans ((adM_ne (by omega)).trans (insM_6.trans (congrArg (· + 1) (rfl)))))).symm
    subst w_v16
    have q_v16 : 0 ≤ ((σ 7 i 6) + 1) ∧ ((σ 7 i 6) + 1) ≤ 121 := o_v16.1 rfl
    refine r_istore hC dX5_place_61 rfl ?_
    have L63 : ∀ (n63 : Nat) (w17 : Int) (ρ18 : Mm), 0 ≤ w17 ∧ w17 ≤ 121 → w17 - 0 < (n63 : Int) → (drps i ((w17)).toNat ρ18 = plM σ i t v) → (LI ρ18 i) → (ρ18 7 i 6 = (w17)) → K 63 [some (vR 2 0), some (vR 7 i), some (vI t), some (vI v), some (vI (hU σ i t)), some (vI 1), some (vI w17)] [] ρ18 := by
      intro n63
      induction n63 with
      | zero => intro w17 ρ18 f_w17  hm  m0_63 m1_63 m2_63; omega
      | succ n63 ih63 =>
        intro w17 ρ18 f_w17  hm63  m0_63 m1_63 m2_63
        refine r_iload hC dX5_place_63 rfl ?_
        refine r_if_le (tgt := 100) hC dX5_place_65 rfl (fun h19 => ?_) (fun h19 => ?_)
        · refine y_vret hK rfl dX5_place_100 ?_
          have hm : plM σ i t v = ρ18 := by rw [← m0_63]; first | exact drps_no (by omega) | (rw [show (w17).toNat = 0 from by omega]; rfl)
          rw [hm] at k
          exact k
        · refine r_aload_n hC dX5_place_68 rfl ?_
          refine r_aload_n hC dX5_place_69 rfl ?_
          refine z_getI (jz := 6) hM dX5_place_70 fl_RX5_154 rfl rfl rfl (fun v20 h_v20 o_v20 t_v20 => ?_)
          have w_v20 := ((t_v20 (Or.inl (by simp [Tb]))).trans (rfl)).symm
          subst w_v20
          have q_v20 : 0 ≤ (ρ18 7 i 6) ∧ (ρ18 7 i 6) ≤ 121 := o_v20.1 rfl
          refine r_aload_n hC dX5_place_73 rfl ?_
          refine z_getR hM dX5_place_74 fl_RX5_198 rfl rfl (vld_of (n := 7) rfl (by omega) (by omega)) ?_
          refine r_iconst hC dX5_place_77 rfl ?_
          refine z_iald hM dX5_place_78 rfl (by omega) (by omega) (fun v21 h_v21 o_v21 t_v21 => ?_)
          have w_v21 := ((t_v21 (Or.inl (by simp [Tb]))).trans (rfl)).symm
          subst w_v21
          refine r_aload_n hC dX5_place_79 rfl ?_
          refine z_getI (jz := 10) hM dX5_place_80 fl_RX5_157 rfl rfl rfl (fun v22 h_v22 o_v22 t_v22 => ?_)
          have w_v22 := ((t_v22 (Or.inl (by simp [Tb]))).trans (rfl)).symm
          subst w_v22
          refine z_inv3 hM dX5_place_83 vl_RX5_201 rfl rfl rfl (Nat.le_of_ble_eq_true rfl) (Nat.le_of_ble_eq_true rfl) ?_
          refine x_goes (by omega) (fun h23 => ?_) (fun h23 => ?_)
          · have y3_h23 : ρ18 7 i 3 = (ρ18 7 i 3) := (rfl)
            have y4_h23 : ρ18 7 i 4 = (ρ18 7 i 4) := (rfl)
            refine r_if_eq (tgt := 100) hC dX5_place_86 rfl (fun h24 => by omega) (fun h24 => ?_)
            have hgo : goV ρ18 i := by unfold goV; omega
            refine r_aload_n hC dX5_place_89 rfl ?_
            refine r_aload_n hC dX5_place_90 rfl ?_
            refine z_inv1 hM dX5_place_91 vl_RX5_163 rfl rfl rfl (Nat.le_of_ble_eq_true rfl) (Nat.le_of_ble_eq_true rfl) ?_
            refine x_dropOldest (by omega) m1_63.1 m1_63.2.1 (by omega) (by omega) ?_
            refine r_iincE hC ((w17 - 1)) dX5_place_94 rfl rfl (by omega) (by unfold inR; omega) ?_
            refine r_goto (tgt := 63) hC dX5_place_97 rfl ?_
            exact ih63 ((w17 - 1)) (dpM ρ18 i) (by omega)  (by omega)  (by have q := m0_63; rw [show (w17).toNat = ((w17 - 1)).toNat + 1 from by omega, drps_yes hgo] at q; exact q) (m1_63.dp (by omega)) (by have q : (dpM ρ18 i) 7 i 6 = ((ρ18 7 i 6) - 1) := (dpM_6); omega)
          · have y3_h23 : ρ18 7 i 3 = (ρ18 7 i 3) := (rfl)
            have y4_h23 : ρ18 7 i 4 = (ρ18 7 i 4) := (rfl)
            refine r_if_eq (tgt := 100) hC dX5_place_86 rfl (fun h25 => ?_) (fun h25 => by omega)
            refine y_vret hK rfl dX5_place_100 ?_
            have hm : plM σ i t v = ρ18 := by rw [← m0_63]; first | exact drps_no (by omega) | (rw [show (w17).toNat = 0 from by omega]; rfl)
            rw [hm] at k
            exact k
    exact L63 123 (((σ 7 i 6) + 1)) (rgM (adM (insM σ i (hU σ i t) t v) i) i) (by omega)  (by omega)  (by rw [hE]; rfl) (by rw [hE]; exact LI.en ⟨hn0, hF, by omega⟩) (by have q : (rgM (adM (insM σ i (hU σ i t) t v) i) i) 7 i 6 = ((σ 7 i 6) + 1) := ((rgM_ne (by omega)).trans ((adM_ne (by omega)).trans (insM_6.trans (congrArg (· + 1) (rfl))))); omega)
-- B: gifts
theorem ntM_ne {V : Mm} {x y : Int} {c : Nat} (h : ¬ (c = 7 ∧ y = 15)) : ntM V c x y = V c x y := if_neg (fun q => h ⟨q.1, q.2.2⟩)
theorem s_within {e : Ev} {d : Nat} {P : Option Vl → Mm → Prop} {σ : Mm} {a lo hi : Int}   (k1 : (lo ≤ a ∧ a ≤ hi) → P (some (vI 1)) σ) (k0 : ¬ (lo ≤ a ∧ a ≤ hi) → P (some (vI 0)) σ) : WT e (d + 1) 124 [vI a, vI lo, vI hi] σ P := by
  refine WT_in fun K hK => ?_
  have hK : StpY e cX5_within RX5 (some .boolean) (WT e (d + 0)) P K := hK
  have hM := hK.1
  have hC := hK.1.1
  show K 0 [some (vI a), some (vI lo), some (vI hi)] [] σ
  refine r_rngz hC (fun g0 => ?_)
  have r_a : -2147483648 ≤ a ∧ a ≤ 2147483647 := inR_le (g0 (vI a) (by simp))
  have r_lo : -2147483648 ≤ lo ∧ lo ≤ 2147483647 := inR_le (g0 (vI lo) (by simp))
  have r_hi : -2147483648 ≤ hi ∧ hi ≤ 2147483647 := inR_le (g0 (vI hi) (by simp))
  refine r_iload_n hC dX5_within_0 rfl ?_
  refine r_iload_n hC dX5_within_1 rfl ?_
  refine r_icmp_gt (tgt := 14) hC dX5_within_2 rfl (fun h1 => ?_) (fun h1 => ?_)
  · refine r_iconst hC dX5_within_14 rfl ?_
    refine y_zret hK rfl dX5_within_15 (by omega) ?_
    exact k0 (by omega)
  · refine r_iload_n hC dX5_within_5 rfl ?_
    refine r_iload_n hC dX5_within_6 rfl ?_
    refine r_icmp_gt (tgt := 14) hC dX5_within_7 rfl (fun h2 => ?_) (fun h2 => ?_)
    · refine r_iconst hC dX5_within_14 rfl ?_
      refine y_zret hK rfl dX5_within_15 (by omega) ?_
      exact k0 (by omega)
    · refine r_iconst hC dX5_within_10 rfl ?_
      refine r_goto (tgt := 15) hC dX5_within_11 rfl ?_
      refine y_zret hK rfl dX5_within_15 (by omega) ?_
      exact k1 (by omega)
theorem s_isLane {e : Ev} {d : Nat} {P : Option Vl → Mm → Prop} {σ : Mm} {a : Int}   (k1 : (0 ≤ a ∧ a ≤ 3) → P (some (vI 1)) σ) (k0 : ¬ (0 ≤ a ∧ a ≤ 3) → P (some (vI 0)) σ) : WT e (d + 2) 125 [vI a] σ P := by
  refine WT_in fun K hK => ?_
  have hK : StpY e cX5_isLane RX5 (some .boolean) (WT e (d + 1)) P K := hK
  have hM := hK.1
  have hC := hK.1.1
  show K 0 [some (vI a)] [] σ
  refine r_rngz hC (fun g0 => ?_)
  have r_a : -2147483648 ≤ a ∧ a ≤ 2147483647 := inR_le (g0 (vI a) (by simp))
  refine r_iload_n hC dX5_isLane_0 rfl ?_
  refine r_iconst hC dX5_isLane_1 rfl ?_
  refine r_iconst hC dX5_isLane_2 rfl ?_
  refine z_ins3 hM dX5_isLane_3 tl_RX5_59 rfl (Nat.le_of_ble_eq_true rfl) (Nat.le_of_ble_eq_true rfl) ?_
  refine s_within (fun h2 => ?_) (fun h2 => ?_)
  · refine y_zret hK rfl dX5_isLane_6 (by omega) ?_
    exact k1 (by omega)
  · refine y_zret hK rfl dX5_isLane_6 (by omega) ?_
    exact k0 (by omega)
theorem s_isTime {e : Ev} {d : Nat} {P : Option Vl → Mm → Prop} {σ : Mm} {a : Int}   (k1 : (0 ≤ a ∧ a ≤ 100000) → P (some (vI 1)) σ) (k0 : ¬ (0 ≤ a ∧ a ≤ 100000) → P (some (vI 0)) σ) : WT e (d + 2) 126 [vI a] σ P := by
  refine WT_in fun K hK => ?_
  have hK : StpY e cX5_isTime RX5 (some .boolean) (WT e (d + 1)) P K := hK
  have hM := hK.1
  have hC := hK.1.1
  show K 0 [some (vI a)] [] σ
  refine r_rngz hC (fun g0 => ?_)
  have r_a : -2147483648 ≤ a ∧ a ≤ 2147483647 := inR_le (g0 (vI a) (by simp))
  refine r_iload_n hC dX5_isTime_0 rfl ?_
  refine r_iconst hC dX5_isTime_1 rfl ?_
  refine r_ldcw hC dX5_isTime_2 co_RX5_284 rfl ?_
  refine z_ins3 hM dX5_isTime_5 tl_RX5_59 rfl (Nat.le_of_ble_eq_true rfl) (Nat.le_of_ble_eq_true rfl) ?_
  refine s_within (fun h2 => ?_) (fun h2 => ?_)
  · refine y_zret hK rfl dX5_isTime_8 (by omega) ?_
    exact k1 (by omega)
  · refine y_zret hK rfl dX5_isTime_8 (by omega) ?_
    exact k0 (by omega)
theorem s_isValue {e : Ev} {d : Nat} {P : Option Vl → Mm → Prop} {σ : Mm} {a : Int}   (k1 : (-1000 ≤ a ∧ a ≤ 1000) → P (some (vI 1)) σ) (k0 : ¬ (-1000 ≤ a ∧ a ≤ 1000) → P (some (vI 0)) σ) : WT e (d + 2) 127 [vI a] σ P := by
  refine WT_in fun K hK => ?_
  have hK : StpY e cX5_isValue RX5 (some .boolean) (WT e (d + 1)) P K := hK
  have hM := hK.1
  have hC := hK.1.1
  show K 0 [some (vI a)] [] σ
  refine r_rngz hC (fun g0 => ?_)
  have r_a : -2147483648 ≤ a ∧ a ≤ 2147483647 := inR_le (g0 (vI a) (by simp))
  refine r_iload_n hC dX5_isValue_0 rfl ?_
  refine r_sipush hC dX5_isValue_1 rfl ?_
  refine r_sipush hC dX5_isValue_4 rfl ?_
  refine z_ins3 hM dX5_isValue_7 tl_RX5_59 rfl (Nat.le_of_ble_eq_true rfl) (Nat.le_of_ble_eq_true rfl) ?_
  refine s_within (fun h2 => ?_) (fun h2 => ?_)
  · refine y_zret hK rfl dX5_isValue_10 (by omega) ?_
    exact k1 (by omega)
  · refine y_zret hK rfl dX5_isValue_10 (by omega) ?_
    exact k0 (by omega)
theorem s_isGap {e : Ev} {d : Nat} {P : Option Vl → Mm → Prop} {σ : Mm} {a : Int}   (k1 : (0 ≤ a ∧ a ≤ 100000) → P (some (vI 1)) σ) (k0 : ¬ (0 ≤ a ∧ a ≤ 100000) → P (some (vI 0)) σ) : WT e (d + 2) 128 [vI a] σ P := by
  refine WT_in fun K hK => ?_
  have hK : StpY e cX5_isGap RX5 (some .boolean) (WT e (d + 1)) P K := hK
  have hM := hK.1
  have hC := hK.1.1
  show K 0 [some (vI a)] [] σ
  refine r_rngz hC (fun g0 => ?_)
  have r_a : -2147483648 ≤ a ∧ a ≤ 2147483647 := inR_le (g0 (vI a) (by simp))
  refine r_iload_n hC dX5_isGap_0 rfl ?_
  refine r_iconst hC dX5_isGap_1 rfl ?_
  refine r_ldcw hC dX5_isGap_2 co_RX5_284 rfl ?_
  refine z_ins3 hM dX5_isGap_5 tl_RX5_59 rfl (Nat.le_of_ble_eq_true rfl) (Nat.le_of_ble_eq_true rfl) ?_
  refine s_within (fun h2 => ?_) (fun h2 => ?_)
  · refine y_zret hK rfl dX5_isGap_8 (by omega) ?_
    exact k1 (by omega)
  · refine y_zret hK rfl dX5_isGap_8 (by omega) ?_
    exact k0 (by omega)
theorem x_openLane {e : Ev} {d : Nat} {P : Option Vl → Mm → Prop} {σ : Mm} {l : Int}   (k1 : ((0 ≤ l ∧ l ≤ 3) ∧ σ 7 l 1 = 1) → P (some (vR 7 l)) σ) (k0 : ¬ ((0 ≤ l ∧ l ≤ 3) ∧ σ 7 l 1 = 1) → P (some vN) σ) : WT e (d + 3) 129 [vR 2 0, vI l] σ P := by
  refine WT_in fun K hK => ?_
  have hK : StpY e cX5_openLane RX5 (some (.object "SlideFold$Lane")) (WT e (d + 2)) P K := hK
  have hM := hK.1
  have hC := hK.1.1
  show K 0 [some (vR 2 0), some (vI l)] [] σ
  refine r_rngz hC (fun g0 => ?_)
  have r_l : -2147483648 ≤ l ∧ l ≤ 2147483647 := inR_le (g0 (vI l) (by simp))
  refine r_iload_n hC dX5_openLane_0 rfl ?_
  refine z_ins1 hM dX5_openLane_1 tl_RX5_102 rfl (Nat.le_of_ble_eq_true rfl) (Nat.le_of_ble_eq_true rfl) ?_
  refine s_isLane (fun h2 => ?_) (fun h2 => ?_)
  · refine r_if_eq (tgt := 28) hC dX5_openLane_4 rfl (fun h3 => by omega) (fun h3 => ?_)
    refine r_aload_n hC dX5_openLane_7 rfl ?_
    refine z_getR hM dX5_openLane_8 fl_RX5_13 rfl rfl (vld_of (n := 1) rfl (by omega) (by omega)) ?_
    refine r_iload_n hC dX5_openLane_11 rfl ?_
    refine z_aald hM dX5_openLane_12 rfl (by decide) (by omega) (by omega) (vld_of (n := 7) rfl (by omega) (by omega)) ?_
    refine z_getI (jz := 1) hM dX5_openLane_13 fl_RX5_94 rfl rfl rfl (fun v4 h_v4 o_v4 t_v4 => ?_)
    have w_v4 := ((t_v4 (Or.inl (by simp [Tb]))).trans (rfl)).symm
    subst w_v4
    have q_v4 : 0 ≤ (σ 7 l 1) ∧ (σ 7 l 1) ≤ 1 := by have := o_v4.2.1 rfl; omega
    refine r_if_eq (tgt := 28) hC dX5_openLane_16 rfl (fun h5 => ?_) (fun h5 => ?_)
    · refine r_null hC dX5_openLane_28 ?_
      refine y_aret hK rfl dX5_openLane_29 ?_
      exact k0 (by omega)
    · refine r_aload_n hC dX5_openLane_19 rfl ?_
      refine z_getR hM dX5_openLane_20 fl_RX5_13 rfl rfl (vld_of (n := 1) rfl (by omega) (by omega)) ?_
      refine r_iload_n hC dX5_openLane_23 rfl ?_
      refine z_aald hM dX5_openLane_24 rfl (by decide) (by omega) (by omega) (vld_of (n := 7) rfl (by omega) (by omega)) ?_
      refine r_goto (tgt := 29) hC dX5_openLane_25 rfl ?_
      refine y_aret hK rfl dX5_openLane_29 ?_
      exact k1 (by omega)
  · refine r_if_eq (tgt := 28) hC dX5_openLane_4 rfl (fun h6 => ?_) (fun h6 => by omega)
    refine r_null hC dX5_openLane_28 ?_
    refine y_aret hK rfl dX5_openLane_29 ?_
    exact k0 (by omega)
theorem x_hasNumber {e : Ev} {d : Nat} {P : Option Vl → Mm → Prop} {σ : Mm} {i w : Int} (b_i : 0 ≤ i ∧ i ≤ 6)  (k1 : (0 ≤ w ∧ w < numF (σ 7 i 2)) → P (some (vI 1)) σ) (k0 : ¬ (0 ≤ w ∧ w < numF (σ 7 i 2)) → P (some (vI 0)) σ) : WT e (d + 2) 28 [vR 7 i, vI w] σ P := by
  refine WT_in fun K hK => ?_
  have hK : StpY e cX2_hasNumber RX2 (some .boolean) (WT e (d + 1)) P K := hK
  have hM := hK.1
  have hC := hK.1.1
  show K 0 [some (vR 7 i), some (vI w)] [] σ
  refine r_rngz hC (fun g0 => ?_)
  have r_w : -2147483648 ≤ w ∧ w ≤ 2147483647 := inR_le (g0 (vI w) (by simp))
  refine r_iload_n hC dX2_hasNumber_0 rfl ?_
  refine r_iconst hC dX2_hasNumber_1 rfl ?_
  refine z_nums hM dX2_hasNumber_2 sl_RX2_82 ?_
  refine r_aload_n hC dX2_hasNumber_5 rfl ?_
  refine z_getI (jz := 2) hM dX2_hasNumber_6 fl_RX2_36 rfl rfl rfl (fun v1 h_v1 o_v1 t_v1 => ?_)
  have w_v1 := ((t_v1 (Or.inl (by simp [Tb]))).trans (rfl)).symm
  subst w_v1
  have q_v1 : 0 ≤ (σ 7 i 2) ∧ (σ 7 i 2) ≤ 9 := o_v1.2.2 rfl
  refine z_nald hM dX2_hasNumber_9 (by omega) (by omega) ?_
  have q_v2 := numF_rng (σ 7 i 2)
  refine r_iconst hC dX2_hasNumber_10 rfl ?_
  refine r_isubE hC (((numF (σ 7 i 2)) - 1)) dX2_hasNumber_11 (by omega) (by unfold inR; omega) ?_
  refine z_ins3 hM dX2_hasNumber_12 tl_RX2_85 rfl (Nat.le_of_ble_eq_true rfl) (Nat.le_of_ble_eq_true rfl) ?_
  refine s_within (fun h4 => ?_) (fun h4 => ?_)
  · refine y_zret hK rfl dX2_hasNumber_15 (by omega) ?_
    exact k1 (by omega)
  · refine y_zret hK rfl dX2_hasNumber_15 (by omega) ?_
    exact k0 (by omega)
theorem x_laneWith {e : Ev} {d : Nat} {P : Option Vl → Mm → Prop} {σ : Mm} {l w : Int}   (k1 : ((0 ≤ l ∧ l ≤ 3) ∧ σ 7 l 1 = 1 ∧ 0 ≤ w ∧ w < numF (σ 7 l 2)) → P (some (vR 7 l)) σ) (k0 : ¬ ((0 ≤ l ∧ l ≤ 3) ∧ σ 7 l 1 = 1 ∧ 0 ≤ w ∧ w < numF (σ 7 l 2)) → P (some vN) σ) : WT e (d + 4) 130 [vR 2 0, vI l, vI w] σ P := by
  refine WT_in fun K hK => ?_
  have hK : StpY e cX5_laneWith RX5 (some (.object "SlideFold$Lane")) (WT e (d + 3)) P K := hK
  have hM := hK.1
  have hC := hK.1.1
  show K 0 [some (vR 2 0), some (vI l), some (vI w), none] [] σ
  refine r_rngz hC (fun g0 => ?_)
  have r_l : -2147483648 ≤ l ∧ l ≤ 2147483647 := inR_le (g0 (vI l) (by simp))
  have r_w : -2147483648 ≤ w ∧ w ≤ 2147483647 := inR_le (g0 (vI w) (by simp))
  refine r_aload_n hC dX5_laneWith_0 rfl ?_
  refine r_iload_n hC dX5_laneWith_1 rfl ?_
  refine z_inv1 hM dX5_laneWith_2 vl_RX5_123 rfl rfl rfl (Nat.le_of_ble_eq_true rfl) (Nat.le_of_ble_eq_true rfl) ?_
  refine x_openLane (fun h1 => ?_) (fun h1 => ?_)
  · -- h1
    refine r_astore_n hC dX5_laneWith_5 rfl ?_
    refine r_aload_n hC dX5_laneWith_6 rfl ?_
    refine r_ifnullR hC dX5_laneWith_7 ?_
    refine r_aload_n hC dX5_laneWith_10 rfl ?_
    refine r_iload_n hC dX5_laneWith_11 rfl ?_
    refine z_inv1 hM dX5_laneWith_12 vl_RX5_266 rfl rfl rfl (Nat.le_of_ble_eq_true rfl) (Nat.le_of_ble_eq_true rfl) ?_
    refine x_hasNumber (by omega) (fun h2 => ?_) (fun h2 => ?_)
    · refine r_if_eq (tgt := 22) hC dX5_laneWith_15 rfl (fun h3 => by omega) (fun h3 => ?_)
      refine r_aload_n hC dX5_laneWith_18 rfl ?_
      refine r_goto (tgt := 23) hC dX5_laneWith_19 rfl ?_
      refine y_aret hK rfl dX5_laneWith_23 ?_
      exact k1 (by omega)
    · refine r_if_eq (tgt := 22) hC dX5_laneWith_15 rfl (fun h4 => ?_) (fun h4 => by omega)
      refine r_null hC dX5_laneWith_22 ?_
      refine y_aret hK rfl dX5_laneWith_23 ?_
      exact k0 (by omega)
  · -- h1
    refine r_astoreN_n hC dX5_laneWith_5 rfl ?_
    refine r_aloadN_n hC dX5_laneWith_6 rfl ?_
    refine r_ifnullN (tgt := 22) hC dX5_laneWith_7 rfl ?_
    refine r_null hC dX5_laneWith_22 ?_
    refine y_aret hK rfl dX5_laneWith_23 ?_
    exact k0 (by omega)
theorem x_laneHolding {e : Ev} {d : Nat} {P : Option Vl → Mm → Prop} {σ : Mm} {l x : Int}   (k1 : ((0 ≤ l ∧ l ≤ 3) ∧ σ 7 l 1 = 1 ∧ 0 ≤ x ∧ x < σ 7 l 6) → P (some (vR 7 l)) σ) (k0 : ¬ ((0 ≤ l ∧ l ≤ 3) ∧ σ 7 l 1 = 1 ∧ 0 ≤ x ∧ x < σ 7 l 6) → P (some vN) σ) : WT e (d + 4) 131 [vR 2 0, vI l, vI x] σ P := by
  refine WT_in fun K hK => ?_
  have hK : StpY e cX5_laneHolding RX5 (some (.object "SlideFold$Lane")) (WT e (d + 3)) P K := hK
  have hM := hK.1
  have hC := hK.1.1
  show K 0 [some (vR 2 0), some (vI l), some (vI x), none] [] σ
  refine r_rngz hC (fun g0 => ?_)
  have r_l : -2147483648 ≤ l ∧ l ≤ 2147483647 := inR_le (g0 (vI l) (by simp))
  have r_x : -2147483648 ≤ x ∧ x ≤ 2147483647 := inR_le (g0 (vI x) (by simp))
  refine r_aload_n hC dX5_laneHolding_0 rfl ?_
  refine r_iload_n hC dX5_laneHolding_1 rfl ?_
  refine z_inv1 hM dX5_laneHolding_2 vl_RX5_123 rfl rfl rfl (Nat.le_of_ble_eq_true rfl) (Nat.le_of_ble_eq_true rfl) ?_
  refine x_openLane (fun h1 => ?_) (fun h1 => ?_)
  · -- h1
    refine r_astore_n hC dX5_laneHolding_5 rfl ?_
    refine r_aload_n hC dX5_laneHolding_6 rfl ?_
    refine r_ifnullR hC dX5_laneHolding_7 ?_
    refine r_iload_n hC dX5_laneHolding_10 rfl ?_
    refine r_iconst hC dX5_laneHolding_11 rfl ?_
    refine r_aload_n hC dX5_laneHolding_12 rfl ?_
    refine z_getI (jz := 6) hM dX5_laneHolding_13 fl_RX5_154 rfl rfl rfl (fun v2 h_v2 o_v2 t_v2 => ?_)
    have w_v2 := ((t_v2 (Or.inl (by simp [Tb]))).trans (rfl)).symm
    subst w_v2
    have q_v2 : 0 ≤ (σ 7 l 6) ∧ (σ 7 l 6) ≤ 121 := o_v2.1 rfl
    refine r_iconst hC dX5_laneHolding_16 rfl ?_
    refine r_isubE hC (((σ 7 l 6) - 1)) dX5_laneHolding_17 (by omega) (by unfold inR; omega) ?_
    refine z_ins3 hM dX5_laneHolding_18 tl_RX5_59 rfl (Nat.le_of_ble_eq_true rfl) (Nat.le_of_ble_eq_true rfl) ?_
    refine s_within (fun h4 => ?_) (fun h4 => ?_)
    · refine r_if_eq (tgt := 28) hC dX5_laneHolding_21 rfl (fun h5 => by omega) (fun h5 => ?_)
      refine r_aload_n hC dX5_laneHolding_24 rfl ?_
      refine r_goto (tgt := 29) hC dX5_laneHolding_25 rfl ?_
      refine y_aret hK rfl dX5_laneHolding_29 ?_
      exact k1 (by omega)
    · refine r_if_eq (tgt := 28) hC dX5_laneHolding_21 rfl (fun h6 => ?_) (fun h6 => by omega)
      refine r_null hC dX5_laneHolding_28 ?_
      refine y_aret hK rfl dX5_laneHolding_29 ?_
      exact k0 (by omega)
  · -- h1
    refine r_astoreN_n hC dX5_laneHolding_5 rfl ?_
    refine r_aloadN_n hC dX5_laneHolding_6 rfl ?_
    refine r_ifnullN (tgt := 28) hC dX5_laneHolding_7 rfl ?_
    refine r_null hC dX5_laneHolding_28 ?_
    refine y_aret hK rfl dX5_laneHolding_29 ?_
    exact k0 (by omega)
theorem x_noteMost {eb ec : Bool} {d : Nat} {P : Option Vl → Mm → Prop} {σ : Mm}   (k : P none (ntM σ)) : WT (true, eb, ec) (d + 2) 71 [vR 2 0] σ P := by
  refine WT_in fun K hK => ?_
  have hK : StpY (true, eb, ec) cX5_noteMost RX5 (none) (WT (true, eb, ec) (d + 1)) P K := hK
  have hM := hK.1
  have hC := hK.1.1
  show K 0 [some (vR 2 0), none] [] σ
  refine r_iconst hC dX5_noteMost_0 rfl ?_
  refine r_istore_n hC dX5_noteMost_1 rfl ?_
  refine r_iload_n hC dX5_noteMost_2 rfl ?_
  refine r_iconst hC dX5_noteMost_3 rfl ?_
  refine r_icmp_ge (tgt := 43) hC dX5_noteMost_4 rfl (fun h1 => by omega) (fun h1 => ?_)
  refine r_aload_n hC dX5_noteMost_7 rfl ?_
  refine z_getR hM dX5_noteMost_8 fl_RX5_13 rfl rfl (vld_of (n := 1) rfl (by omega) (by omega)) ?_
  refine r_iload_n hC dX5_noteMost_11 rfl ?_
  refine z_aald hM dX5_noteMost_12 rfl (by decide) (by omega) (by omega) (vld_of (n := 7) rfl (by omega) (by omega)) ?_
  refine r_aload_n hC dX5_noteMost_13 rfl ?_
  refine z_getR hM dX5_noteMost_14 fl_RX5_13 rfl rfl (vld_of (n := 1) rfl (by omega) (by omega)) ?_
  refine r_iload_n hC dX5_noteMost_17 rfl ?_
  refine z_aald hM dX5_noteMost_18 rfl (by decide) (by omega) (by omega) (vld_of (n := 7) rfl (by omega) (by omega)) ?_
  refine z_getI (jz := 15) hM dX5_noteMost_19 fl_RX5_242 rfl rfl rfl (fun v2 h_v2 o_v2 t_v2 => ?_)
  have w_v2 := ((t_v2 (Or.inl (by simp [Tb]))).trans (rfl)).symm
  subst w_v2
  refine r_aload_n hC dX5_noteMost_22 rfl ?_
  refine z_getR hM dX5_noteMost_23 fl_RX5_13 rfl rfl (vld_of (n := 1) rfl (by omega) (by omega)) ?_
  refine r_iload_n hC dX5_noteMost_26 rfl ?_
  refine z_aald hM dX5_noteMost_27 rfl (by decide) (by omega) (by omega) (vld_of (n := 7) rfl (by omega) (by omega)) ?_
  refine z_getI (jz := 6) hM dX5_noteMost_28 fl_RX5_154 rfl rfl rfl (fun v3 h_v3 o_v3 t_v3 => ?_)
  have w_v3 := ((t_v3 (Or.inl (by simp [Tb]))).trans (rfl)).symm
  subst w_v3
  have q_v3 : 0 ≤ (σ 7 0 6) ∧ (σ 7 0 6) ≤ 121 := o_v3.1 rfl
  refine z_ins2 hM dX5_noteMost_31 tl_RX5_239 rfl (Nat.le_of_ble_eq_true rfl) (Nat.le_of_ble_eq_true rfl) ?_
  refine x_maxE ?_
  refine z_putIT (jz := 15) hM dX5_noteMost_34 fw_RX5_242 rfl rfl rfl ⟨Or.inr (by simp [DL]), Or.inr (by simp [DF])⟩ (by first | trivial | (simp only [Okv]; omega) | (simp [Okv]; try omega)) ?_
  refine r_iincE hC (1) dX5_noteMost_37 rfl rfl (by omega) (by unfold inR; omega) ?_
  refine r_goto (tgt := 2) hC dX5_noteMost_40 rfl ?_
  refine r_iload_n hC dX5_noteMost_2 rfl ?_
  refine r_iconst hC dX5_noteMost_3 rfl ?_
  refine r_icmp_ge (tgt := 43) hC dX5_noteMost_4 rfl (fun h4 => by omega) (fun h4 => ?_)
  refine r_aload_n hC dX5_noteMost_7 rfl ?_
  refine z_getR hM dX5_noteMost_8 fl_RX5_13 rfl rfl (vld_of (n := 1) rfl (by omega) (by omega)) ?_
  refine r_iload_n hC dX5_noteMost_11 rfl ?_
  refine z_aald hM dX5_noteMost_12 rfl (by decide) (by omega) (by omega) (vld_of (n := 7) rfl (by omega) (by omega)) ?_
  refine r_aload_n hC dX5_noteMost_13 rfl ?_
  refine z_getR hM dX5_noteMost_14 fl_RX5_13 rfl rfl (vld_of (n := 1) rfl (by omega) (by omega)) ?_
  refine r_iload_n hC dX5_noteMost_17 rfl ?_
  refine z_aald hM dX5_noteMost_18 rfl (by decide) (by omega) (by omega) (vld_of (n := 7) rfl (by omega) (by omega)) ?_
  refine z_getI (jz := 15) hM dX5_noteMost_19 fl_RX5_242 rfl rfl rfl (fun v5 h_v5 o_v5 t_v5 => ?_)
  have w_v5 := ((t_v5 (Or.inl (by simp [Tb]))).trans ((mu_ne (by omega)).trans (rfl))).symm
  subst w_v5
  refine r_aload_n hC dX5_noteMost_22 rfl ?_
  refine z_getR hM dX5_noteMost_23 fl_RX5_13 rfl rfl (vld_of (n := 1) rfl (by omega) (by omega)) ?_
  refine r_iload_n hC dX5_noteMost_26 rfl ?_
  refine z_aald hM dX5_noteMost_27 rfl (by decide) (by omega) (by omega) (vld_of (n := 7) rfl (by omega) (by omega)) ?_
  refine z_getI (jz := 6) hM dX5_noteMost_28 fl_RX5_154 rfl rfl rfl (fun v6 h_v6 o_v6 t_v6 => ?_)
  have w_v6 := ((t_v6 (Or.inl (by simp [Tb]))).trans ((mu_ne (by omega)).trans (rfl))).symm
  subst w_v6
  have q_v6 : 0 ≤ (σ 7 1 6) ∧ (σ 7 1 6) ≤ 121 := o_v6.1 rfl
  refine z_ins2 hM dX5_noteMost_31 tl_RX5_239 rfl (Nat.le_of_ble_eq_true rfl) (Nat.le_of_ble_eq_true rfl) ?_
  refine x_maxE ?_
  refine z_putIT (jz := 15) hM dX5_noteMost_34 fw_RX5_242 rfl rfl rfl ⟨Or.inr (by simp [DL]), Or.inr (by simp [DF])⟩ (by first | trivial | (simp only [Okv]; omega) | (simp [Okv]; try omega)) ?_
  refine r_iincE hC (2) dX5_noteMost_37 rfl rfl (by omega) (by unfold inR; omega) ?_
  show K _ [_, _] _ _
  refine r_goto (tgt := 2) hC dX5_noteMost_40 rfl ?_
  refine r_iload_n hC dX5_noteMost_2 rfl ?_
  refine r_iconst hC dX5_noteMost_3 rfl ?_
  refine r_icmp_ge (tgt := 43) hC dX5_noteMost_4 rfl (fun h7 => by omega) (fun h7 => ?_)
  refine r_aload_n hC dX5_noteMost_7 rfl ?_
  refine z_getR hM dX5_noteMost_8 fl_RX5_13 rfl rfl (vld_of (n := 1) rfl (by omega) (by omega)) ?_
  refine r_iload_n hC dX5_noteMost_11 rfl ?_
  refine z_aald hM dX5_noteMost_12 rfl (by decide) (by omega) (by omega) (vld_of (n := 7) rfl (by omega) (by omega)) ?_
  refine r_aload_n hC dX5_noteMost_13 rfl ?_
  refine z_getR hM dX5_noteMost_14 fl_RX5_13 rfl rfl (vld_of (n := 1) rfl (by omega) (by omega)) ?_
  refine r_iload_n hC dX5_noteMost_17 rfl ?_
  refine z_aald hM dX5_noteMost_18 rfl (by decide) (by omega) (by omega) (vld_of (n := 7) rfl (by omega) (by omega)) ?_
  refine z_getI (jz := 15) hM dX5_noteMost_19 fl_RX5_242 rfl rfl rfl (fun v8 h_v8 o_v8 t_v8 => ?_)
  have w_v8 := ((t_v8 (Or.inl (by simp [Tb]))).trans ((mu_ne (by omega)).trans ((mu_ne (by omega)).trans (rfl)))).symm
  subst w_v8
  refine r_aload_n hC dX5_noteMost_22 rfl ?_
  refine z_getR hM dX5_noteMost_23 fl_RX5_13 rfl rfl (vld_of (n := 1) rfl (by omega) (by omega)) ?_
  refine r_iload_n hC dX5_noteMost_26 rfl ?_
  refine z_aald hM dX5_noteMost_27 rfl (by decide) (by omega) (by omega) (vld_of (n := 7) rfl (by omega) (by omega)) ?_
  refine z_getI (jz := 6) hM dX5_noteMost_28 fl_RX5_154 rfl rfl rfl (fun v9 h_v9 o_v9 t_v9 => ?_)
  have w_v9 := ((t_v9 (Or.inl (by simp [Tb]))).trans ((mu_ne (by omega)).trans ((mu_ne (by omega)).trans (rfl)))).symm
  subst w_v9
  have q_v9 : 0 ≤ (σ 7 2 6) ∧ (σ 7 2 6) ≤ 121 := o_v9.1 rfl
  refine z_ins2 hM dX5_noteMost_31 tl_RX5_239 rfl (Nat.le_of_ble_eq_true rfl) (Nat.le_of_ble_eq_true rfl) ?_
  refine x_maxE ?_
  refine z_putIT (jz := 15) hM dX5_noteMost_34 fw_RX5_242 rfl rfl rfl ⟨Or.inr (by simp [DL]), Or.inr (by simp [DF])⟩ (by first | trivial | (simp only [Okv]; omega) | (simp [Okv]; try omega)) ?_
  refine r_iincE hC (3) dX5_noteMost_37 rfl rfl (by omega) (by unfold inR; omega) ?_
  refine r_goto (tgt := 2) hC dX5_noteMost_40 rfl ?_
  refine r_iload_n hC dX5_noteMost_2 rfl ?_
  refine r_iconst hC dX5_noteMost_3 rfl ?_
  refine r_icmp_ge (tgt := 43) hC dX5_noteMost_4 rfl (fun h10 => by omega) (fun h10 => ?_)
  refine r_aload_n hC dX5_noteMost_7 rfl ?_
  refine z_getR hM dX5_noteMost_8 fl_RX5_13 rfl rfl (vld_of (n := 1) rfl (by omega) (by omega)) ?_
  refine r_iload_n hC dX5_noteMost_11 rfl ?_
  refine z_aald hM dX5_noteMost_12 rfl (by decide) (by omega) (by omega) (vld_of (n := 7) rfl (by omega) (by omega)) ?_
  refine r_aload_n hC dX5_noteMost_13 rfl ?_
  refine z_getR hM dX5_noteMost_14 fl_RX5_13 rfl rfl (vld_of (n := 1) rfl (by omega) (by omega)) ?_
  refine r_iload_n hC dX5_noteMost_17 rfl ?_
  refine z_aald hM dX5_noteMost_18 rfl (by decide) (by omega) (by omega) (vld_of (n := 7) rfl (by omega) (by omega)) ?_
  refine z_getI (jz := 15) hM dX5_noteMost_19 fl_RX5_242 rfl rfl rfl (fun v11 h_v11 o_v11 t_v11 => ?_)
  have w_v11 := ((t_v11 (Or.inl (by simp [Tb]))).trans ((mu_ne (by omega)).trans ((mu_ne (by omega)).trans ((mu_ne (by omega)).trans (rfl))))).symm
  subst w_v11
  refine r_aload_n hC dX5_noteMost_22 rfl ?_
  refine z_getR hM dX5_noteMost_23 fl_RX5_13 rfl rfl (vld_of (n := 1) rfl (by omega) (by omega)) ?_
  refine r_iload_n hC dX5_noteMost_26 rfl ?_
  refine z_aald hM dX5_noteMost_27 rfl (by decide) (by omega) (by omega) (vld_of (n := 7) rfl (by omega) (by omega)) ?_
  refine z_getI (jz := 6) hM dX5_noteMost_28 fl_RX5_154 rfl rfl rfl (fun v12 h_v12 o_v12 t_v12 => ?_)
  have w_v12 := ((t_v12 (Or.inl (by simp [Tb]))).trans ((mu_ne (by omega)).trans ((mu_ne (by omega)).trans ((mu_ne (by omega)).trans (rfl))))).symm
  subst w_v12
  have q_v12 : 0 ≤ (σ 7 3 6) ∧ (σ 7 3 6) ≤ 121 := o_v12.1 rfl
  refine z_ins2 hM dX5_noteMost_31 tl_RX5_239 rfl (Nat.le_of_ble_eq_true rfl) (Nat.le_of_ble_eq_true rfl) ?_
  refine x_maxE ?_
  refine z_putIT (jz := 15) hM dX5_noteMost_34 fw_RX5_242 rfl rfl rfl ⟨Or.inr (by simp [DL]), Or.inr (by simp [DF])⟩ (by first | trivial | (simp only [Okv]; omega) | (simp [Okv]; try omega)) ?_
  refine r_iincE hC (4) dX5_noteMost_37 rfl rfl (by omega) (by unfold inR; omega) ?_
  refine r_goto (tgt := 2) hC dX5_noteMost_40 rfl ?_
  refine r_iload_n hC dX5_noteMost_2 rfl ?_
  refine r_iconst hC dX5_noteMost_3 rfl ?_
  refine r_icmp_ge (tgt := 43) hC dX5_noteMost_4 rfl (fun h13 => ?_) (fun h13 => by omega)
  refine y_vret hK rfl dX5_noteMost_43 ?_
  have hm : ntM σ = (mu (mu (mu (mu σ 7 0 15 (max (σ 7 0 15) (σ 7 0 6))) 7 1 15 (max (σ 7 1 15) (σ 7 1 6))) 7 2 15 (max (σ 7 2 15) (σ 7 2 6))) 7 3 15 (max (σ 7 3 15) (σ 7 3 6))) := ntM_eq
  rw [hm] at k
  exact k
theorem ses_no {T : Int → Int} {g n : Int} (h : 1 ≤ n) (hn : ¬ wr (T n - T (n - 1)) > g) : ses T g n.toNat = ses T g (n - 1).toNat := by
  rw [show n.toNat = (n - 1).toNat + 1 from by omega]
  show (if wr (T (((n - 1).toNat : Nat) + 1) - T ((n - 1).toNat : Nat)) > g then ((((n - 1).toNat : Nat) : Int) + 1) else ses T g (n - 1).toNat) = _
  rw [show (((n - 1).toNat : Nat) : Int) = n - 1 from by omega, show n - 1 + 1 = n from by omega, if_neg hn]
theorem ses_yes {T : Int → Int} {g n : Int} (h : 1 ≤ n) (hn : wr (T n - T (n - 1)) > g) : ses T g n.toNat = n := by
  rw [show n.toNat = (n - 1).toNat + 1 from by omega]
  show (if wr (T (((n - 1).toNat : Nat) + 1) - T ((n - 1).toNat : Nat)) > g then ((((n - 1).toNat : Nat) : Int) + 1) else ses T g (n - 1).toNat) = _
  rw [show (((n - 1).toNat : Nat) : Int) = n - 1 from by omega, show n - 1 + 1 = n from by omega, if_pos hn]
theorem ses_0 {T : Int → Int} {g n : Int} (h : n = 0) : ses T g n.toNat = n := by
  subst h
  rfl
theorem x_give {ec : Bool} {d : Nat} {P : Option Vl → Mm → Prop} {σ : Mm} {i t : Int} (b_i : 0 ≤ i ∧ i ≤ 3) (b_t : -2147483648 ≤ t ∧ t ≤ 2147483647) (hnL : ∀ l : Int, 0 ≤ l → l ≤ 3 → σ 7 l 0 = l) (hFL : ∀ l : Int, 0 ≤ l → l ≤ 3 → FI (σ 11 l) (σ 7 l 6)) (hhL : ∀ l : Int, 0 ≤ l → l ≤ 3 → 0 ≤ σ 7 l 6 ∧ σ 7 l 6 ≤ 120) (hto : σ 13 i 0 ≠ i)  (k : P none (gvM σ i t)) : WT (true, false, ec) (d + 7) 70 [vR 2 0, vR 7 i, vI t] σ P := by
  refine WT_in fun K hK => ?_
  have hK : StpY (true, false, ec) cX5_give RX5 (none) (WT (true, false, ec) (d + 6)) P K := hK
  have hM := hK.1
  have hC := hK.1.1
  show K 0 [some (vR 2 0), some (vR 7 i), some (vI t), none, none, none, none, none, none] [] σ
  refine r_aload_n hC dX5_give_0 rfl ?_
  refine z_getR hM dX5_give_1 fl_RX5_19 rfl rfl (vld_of (n := 1) rfl (by omega) (by omega)) ?_
  refine r_aload_n hC dX5_give_4 rfl ?_
  refine z_getI (jz := 0) hM dX5_give_5 fl_RX5_212 rfl rfl rfl (fun v1 h_v1 o_v1 t_v1 => ?_)
  have w_v1 := ((t_v1 (Or.inl (by simp [Tb]))).trans ((rfl).trans (hnL i (by omega) (by omega)))).symm
  subst w_v1
  refine z_aald hM dX5_give_8 rfl (by decide) (by omega) (by omega) (vld_of (n := 4) rfl (by omega) (by omega)) ?_
  refine r_astore_n hC dX5_give_9 rfl ?_
  refine r_aload_n hC dX5_give_10 rfl ?_
  refine r_aload_n hC dX5_give_11 rfl ?_
  refine z_getI (jz := 0) hM dX5_give_12 fl_RX5_215 rfl rfl rfl (fun v2 h_v2 o_v2 t_v2 => ?_)
  have w_v2 := ((t_v2 (Or.inl (by simp [Tb]))).trans (rfl)).symm
  subst w_v2
  refine z_inv1 hM dX5_give_15 vl_RX5_123 rfl rfl rfl (Nat.le_of_ble_eq_true rfl) (Nat.le_of_ble_eq_true rfl) ?_
  refine x_openLane (fun h3 => ?_) (fun h3 => ?_)
  · -- h3
    refine r_astore hC dX5_give_18 rfl ?_
    refine r_aload_n hC dX5_give_20 rfl ?_
    refine z_getI (jz := 6) hM dX5_give_21 fl_RX5_154 rfl rfl rfl (fun v4 h_v4 o_v4 t_v4 => ?_)
    have w_v4 := ((t_v4 (Or.inl (by simp [Tb]))).trans (rfl)).symm
    subst w_v4
    have q_v4 : 0 ≤ (σ 7 i 6) ∧ (σ 7 i 6) ≤ 121 := o_v4.1 rfl
    refine r_iconst hC dX5_give_24 rfl ?_
    refine r_isubE hC (((σ 7 i 6) - 1)) dX5_give_25 (by omega) (by unfold inR; omega) ?_
    refine r_istore hC dX5_give_26 rfl ?_
    refine r_aload hC dX5_give_28 rfl ?_
    refine r_ifnullR hC dX5_give_30 ?_
    refine r_iload hC dX5_give_33 rfl ?_
    refine r_if_lt (tgt := 62) hC dX5_give_35 rfl (fun h5 => ?_) (fun h5 => ?_)
    · refine y_vret hK rfl dX5_give_62 ?_
      have hm : gvM σ i t = σ := if_neg (fun q => by have q1 := q.1; have q2 := q.2.1; have q3 := q.2.2.1; have q4 := q.2.2.2.1; have q5 := q.2.2.2.2.1; have q6 := q.2.2.2.2.2; unfold fuV at *; unfold ltV at *; omega)
      rw [hm] at k
      exact k
    · refine r_iload_n hC dX5_give_38 rfl ?_
      refine r_aload_n hC dX5_give_39 rfl ?_
      refine z_getR hM dX5_give_40 fl_RX5_198 rfl rfl (vld_of (n := 7) rfl (by omega) (by omega)) ?_
      refine r_iload hC dX5_give_43 rfl ?_
      refine z_iald hM dX5_give_45 rfl (by omega) (by omega) (fun v6 h_v6 o_v6 t_v6 => ?_)
      have w_v6 := ((t_v6 (Or.inl (by simp [Tb]))).trans (rfl)).symm
      subst w_v6
      refine r_isub hC dX5_give_46 ?_
      have f7 := inR_le (inR_wr (t - (σ 8 i ((σ 7 i 6) - 1))))
      refine r_aload_n hC dX5_give_47 rfl ?_
      refine z_getI (jz := 1) hM dX5_give_48 fl_RX5_218 rfl rfl rfl (fun v8 h_v8 o_v8 t_v8 => ?_)
      have w_v8 := ((t_v8 (Or.inl (by simp [Tb]))).trans (rfl)).symm
      subst w_v8
      refine r_icmp_le (tgt := 62) hC dX5_give_51 rfl (fun h9 => ?_) (fun h9 => ?_)
      · refine y_vret hK rfl dX5_give_62 ?_
        have hm : gvM σ i t = σ := if_neg (fun q => by have q1 := q.1; have q2 := q.2.1; have q3 := q.2.2.1; have q4 := q.2.2.2.1; have q5 := q.2.2.2.2.1; have q6 := q.2.2.2.2.2; unfold fuV at *; unfold ltV at *; omega)
        rw [hm] at k
        exact k
      · refine r_aload hC dX5_give_54 rfl ?_
        refine z_inv0 hM dX5_give_56 vl_RX5_139 rfl rfl rfl (Nat.le_of_ble_eq_true rfl) (Nat.le_of_ble_eq_true rfl) ?_
        refine x_isFull (by omega) (fun h10 => ?_) (fun h10 => ?_)
        · have y3_h10 : σ 7 (σ 13 i 0) 3 = (σ 7 (σ 13 i 0) 3) := (rfl)
          have y6_h10 : σ 7 (σ 13 i 0) 6 = (σ 7 (σ 13 i 0) 6) := (rfl)
          refine r_if_eq (tgt := 63) hC dX5_give_59 rfl (fun h11 => by omega) (fun h11 => ?_)
          refine y_vret hK rfl dX5_give_62 ?_
          have hm : gvM σ i t = σ := if_neg (fun q => by have q1 := q.1; have q2 := q.2.1; have q3 := q.2.2.1; have q4 := q.2.2.2.1; have q5 := q.2.2.2.2.1; have q6 := q.2.2.2.2.2; unfold fuV at *; unfold ltV at *; omega)
          rw [hm] at k
          exact k
        · have y3_h10 : σ 7 (σ 13 i 0) 3 = (σ 7 (σ 13 i 0) 3) := (rfl)
          have y6_h10 : σ 7 (σ 13 i 0) 6 = (σ 7 (σ 13 i 0) 6) := (rfl)
          refine r_if_eq (tgt := 63) hC dX5_give_59 rfl (fun h12 => ?_) (fun h12 => by omega)
          refine r_iload hC dX5_give_63 rfl ?_
          refine r_istore hC dX5_give_65 rfl ?_
          have L67 : ∀ (n67 : Nat) (w13 : Int), 0 ≤ w13 ∧ w13 ≤ 120 → (ses (σ 8 i) (σ 13 i 1) ((w13)).toNat = ses (σ 8 i) (σ 13 i 1) (σ 7 i 6 - 1).toNat) → w13 - 0 < (n67 : Int) → K 67 [some (vR 2 0), some (vR 7 i), some (vI t), some (vR 13 i), some (vR 7 (σ 13 i 0)), some (vI ((σ 7 i 6) - 1)), some (vI w13), none, none] [] σ := by
            intro n67
            induction n67 with
            | zero => intro w13  f_w13 i0_67 hm  ; omega
            | succ n67 ih67 =>
              intro w13  f_w13 i0_67 hm67  
              refine r_iload hC dX5_give_67 rfl ?_
              refine r_if_le (tgt := 91) hC dX5_give_69 rfl (fun h14 => ?_) (fun h14 => ?_)
              · have hs_ : ses (σ 8 i) (σ 13 i 1) (σ 7 i 6 - 1).toNat = w13 := by rw [← i0_67]; first | exact ses_0 (by omega) | exact ses_yes (by omega) (by omega)
                refine r_aload_n hC dX5_give_91 rfl ?_
                refine r_aload_n hC dX5_give_92 rfl ?_
                refine r_iload hC dX5_give_93 rfl ?_
                refine r_aload_n hC dX5_give_95 rfl ?_
                refine z_getI (jz := 6) hM dX5_give_96 fl_RX5_154 rfl rfl rfl (fun v15 h_v15 o_v15 t_v15 => ?_)
                have w_v15 := ((t_v15 (Or.inl (by simp [Tb]))).trans (rfl)).symm
                subst w_v15
                have q_v15 : 0 ≤ (σ 7 i 6) ∧ (σ 7 i 6) ≤ 121 := o_v15.1 rfl
                refine r_aload_n hC dX5_give_99 rfl ?_
                refine z_getI (jz := 2) hM dX5_give_100 fl_RX5_224 rfl rfl rfl (fun v16 h_v16 o_v16 t_v16 => ?_)
                have w_v16 := ((t_v16 (Or.inl (by simp [Tb]))).trans (rfl)).symm
                subst w_v16
                refine z_inv4 hM dX5_give_103 vl_RX5_227 rfl rfl rfl (Nat.le_of_ble_eq_true rfl) (Nat.le_of_ble_eq_true rfl) ?_
                refine x_comesTo (by omega) (by omega) (by omega) ?_
                refine r_istore hC dX5_give_106 rfl ?_
                refine r_iload hC dX5_give_108 rfl ?_
                refine r_ldc hC dX5_give_110 co_RX5_175 rfl ?_
                refine r_icmp_ne (tgt := 116) hC dX5_give_112 rfl (fun h17 => ?_) (fun h17 => ?_)
                · refine r_aload_n hC dX5_give_116 rfl ?_
                  refine z_getR hM dX5_give_117 fl_RX5_198 rfl rfl (vld_of (n := 7) rfl (by omega) (by omega)) ?_
                  refine r_iload hC dX5_give_120 rfl ?_
                  refine z_iald hM dX5_give_122 rfl (by omega) (by omega) (fun v18 h_v18 o_v18 t_v18 => ?_)
                  have w_v18 := ((t_v18 (Or.inl (by simp [Tb]))).trans (rfl)).symm
                  subst w_v18
                  refine r_istore hC dX5_give_123 rfl ?_
                  refine r_aload hC dX5_give_125 rfl ?_
                  refine r_iload hC dX5_give_127 rfl ?_
                  refine z_inv1 hM dX5_give_129 vl_RX5_133 rfl rfl rfl (Nat.le_of_ble_eq_true rfl) (Nat.le_of_ble_eq_true rfl) ?_
                  refine x_isTooLate (by omega) (fun h19 => ?_) (fun h19 => ?_)
                  · have y5_h19 : σ 7 (σ 13 i 0) 5 = (σ 7 (σ 13 i 0) 5) := (rfl)
                    have y10_h19 : σ 7 (σ 13 i 0) 10 = (σ 7 (σ 13 i 0) 10) := (rfl)
                    refine r_if_eq (tgt := 147) hC dX5_give_132 rfl (fun h20 => by omega) (fun h20 => ?_)
                    refine r_aload hC dX5_give_135 rfl ?_
                    refine r_dup hC dX5_give_137 rfl ?_
                    refine z_getI (jz := 11) hM dX5_give_138 fl_RX5_136 rfl rfl rfl (fun v21 h_v21 o_v21 t_v21 => ?_)
                    refine r_iconst hC dX5_give_141 rfl ?_
                    refine r_iadd hC dX5_give_142 ?_
                    have f22 := inR_le (inR_wr (v21 + 1))
                    refine z_putIU (jz := 11) hM dX5_give_143 fw_RX5_136 rfl rfl rfl (by simp [Un, Tb, DL, DF, DR]) (by simp [Okv]) ?_
                    refine y_vret hK rfl dX5_give_146 ?_
                    have hm : gvM σ i t = σ := if_neg (fun q => by have q1 := q.1; have q2 := q.2.1; have q3 := q.2.2.1; have q4 := q.2.2.2.1; have q5 := q.2.2.2.2.1; have q6 := q.2.2.2.2.2; have hses := hs_; unfold gvN at q5; rw [hses] at q5; unfold NO at q5; unfold fuV at *; unfold ltV at *; omega)
                    rw [hm] at k
                    exact k
                  · have y5_h19 : σ 7 (σ 13 i 0) 5 = (σ 7 (σ 13 i 0) 5) := (rfl)
                    have y10_h19 : σ 7 (σ 13 i 0) 10 = (σ 7 (σ 13 i 0) 10) := (rfl)
                    refine r_if_eq (tgt := 147) hC dX5_give_132 rfl (fun h23 => ?_) (fun h23 => by omega)
                    refine r_aload_n hC dX5_give_147 rfl ?_
                    refine r_dup hC dX5_give_148 rfl ?_
                    refine z_getI (jz := 3) hM dX5_give_149 fl_RX5_231 rfl rfl rfl (fun v24 h_v24 o_v24 t_v24 => ?_)
                    have w_v24 := ((t_v24 (Or.inl (by simp [Tb]))).trans (rfl)).symm
                    subst w_v24
                    refine r_iconst hC dX5_give_152 rfl ?_
                    refine r_iadd hC dX5_give_153 ?_
                    have f25 := inR_le (inR_wr ((σ 13 i 3) + 1))
                    refine z_putIT (jz := 3) hM dX5_give_154 fw_RX5_231 rfl rfl rfl ⟨Or.inr (by simp [DL]), Or.inr (by simp [DF])⟩ (by first | trivial | (simp only [Okv]; omega) | (simp [Okv]; try omega)) ?_
                    refine r_aload_n hC dX5_give_157 rfl ?_
                    refine r_aload hC dX5_give_158 rfl ?_
                    refine r_iload hC dX5_give_160 rfl ?_
                    refine r_sipush hC dX5_give_162 rfl ?_
                    refine r_sipush hC dX5_give_165 rfl ?_
                    refine r_iload hC dX5_give_168 rfl ?_
                    refine z_ins2 hM dX5_give_170 tl_RX5_234 rfl (Nat.le_of_ble_eq_true rfl) (Nat.le_of_ble_eq_true rfl) ?_
                    refine x_minE ?_
                    refine z_ins2 hM dX5_give_173 tl_RX5_239 rfl (Nat.le_of_ble_eq_true rfl) (Nat.le_of_ble_eq_true rfl) ?_
                    refine x_maxE ?_
                    refine z_inv3 hM dX5_give_176 vl_RX5_147 rfl rfl rfl (Nat.le_of_ble_eq_true rfl) (Nat.le_of_ble_eq_true rfl) ?_
                    have e7 : ∀ y : Int, (mu σ 13 i 3 (wr ((σ 13 i 3) + 1))) 7 (σ 13 i 0) y = σ 7 (σ 13 i 0) y := fun y => mu_ne (by omega)
                    have pl0 : (mu σ 13 i 3 (wr ((σ 13 i 3) + 1))) 7 (σ 13 i 0) 0 = (σ 13 i 0) := (e7 0).trans (hnL (σ 13 i 0) (by omega) (by omega))
                    have e6 := e7 6
                    have hh6 := hhL (σ 13 i 0) (by omega) (by omega)
                    have plF : FI ((mu σ 13 i 3 (wr ((σ 13 i 3) + 1))) 11 (σ 13 i 0)) ((mu σ 13 i 3 (wr ((σ 13 i 3) + 1))) 7 (σ 13 i 0) 6) := by rw [e6, show (mu σ 13 i 3 (wr ((σ 13 i 3) + 1))) 11 (σ 13 i 0) = σ 11 (σ 13 i 0) from funext fun y => mu_ne (by omega)]; exact hFL (σ 13 i 0) (by omega) (by omega)
                    refine x_place (by omega) (by omega) (by omega) pl0 plF (by omega) ?_
                    refine y_vret hK rfl dX5_give_179 ?_
                    have hN : gvN σ i = (cm (σ 16 0) (σ 15 0) (σ 7 i 2) (fun j => σ 9 i (w13 + j)) ((σ 7 i 6) - w13).toNat (σ 13 i 2)) := by unfold gvN; rw [hs_]
                    have hm : gvM σ i t = (plM (mu σ 13 i 3 (wr ((σ 13 i 3) + 1))) (σ 13 i 0) (σ 8 i ((σ 7 i 6) - 1)) (max (-1000) (min 1000 (cm (σ 16 0) (σ 15 0) (σ 7 i 2) (fun j => σ 9 i (w13 + j)) ((σ 7 i 6) - w13).toNat (σ 13 i 2))))) := by
                      unfold gvM
                      rw [if_pos ⟨by omega, by omega, by omega, by unfold fuV; omega, by rw [hN]; unfold NO; omega, by unfold ltV; omega⟩, hN]
                    rw [hm] at k
                    exact k
                · refine y_vret hK rfl dX5_give_115 ?_
                  have hm : gvM σ i t = σ := if_neg (fun q => by have q1 := q.1; have q2 := q.2.1; have q3 := q.2.2.1; have q4 := q.2.2.2.1; have q5 := q.2.2.2.2.1; have q6 := q.2.2.2.2.2; have hses := hs_; unfold gvN at q5; rw [hses] at q5; unfold NO at q5; unfold fuV at *; unfold ltV at *; omega)
                  rw [hm] at k
                  exact k
              · refine r_aload_n hC dX5_give_72 rfl ?_
                refine r_iload hC dX5_give_73 rfl ?_
                refine r_aload_n hC dX5_give_75 rfl ?_
                refine z_getI (jz := 1) hM dX5_give_76 fl_RX5_218 rfl rfl rfl (fun v26 h_v26 o_v26 t_v26 => ?_)
                have w_v26 := ((t_v26 (Or.inl (by simp [Tb]))).trans (rfl)).symm
                subst w_v26
                refine z_inv2 hM dX5_give_79 vl_RX5_221 rfl rfl rfl (Nat.le_of_ble_eq_true rfl) (Nat.le_of_ble_eq_true rfl) ?_
                refine x_startsSession (by omega) (by omega) (fun h27 => ?_) (fun h27 => ?_)
                · refine r_if_ne (tgt := 91) hC dX5_give_82 rfl (fun h28 => ?_) (fun h28 => by omega)
                  have hs_ : ses (σ 8 i) (σ 13 i 1) (σ 7 i 6 - 1).toNat = w13 := by rw [← i0_67]; first | exact ses_0 (by omega) | exact ses_yes (by omega) (by omega)
                  refine r_aload_n hC dX5_give_91 rfl ?_
                  refine r_aload_n hC dX5_give_92 rfl ?_
                  refine r_iload hC dX5_give_93 rfl ?_
                  refine r_aload_n hC dX5_give_95 rfl ?_
                  refine z_getI (jz := 6) hM dX5_give_96 fl_RX5_154 rfl rfl rfl (fun v29 h_v29 o_v29 t_v29 => ?_)
                  have w_v29 := ((t_v29 (Or.inl (by simp [Tb]))).trans (rfl)).symm
                  subst w_v29
                  have q_v29 : 0 ≤ (σ 7 i 6) ∧ (σ 7 i 6) ≤ 121 := o_v29.1 rfl
                  refine r_aload_n hC dX5_give_99 rfl ?_
                  refine z_getI (jz := 2) hM dX5_give_100 fl_RX5_224 rfl rfl rfl (fun v30 h_v30 o_v30 t_v30 => ?_)
                  have w_v30 := ((t_v30 (Or.inl (by simp [Tb]))).trans (rfl)).symm
                  subst w_v30
                  refine z_inv4 hM dX5_give_103 vl_RX5_227 rfl rfl rfl (Nat.le_of_ble_eq_true rfl) (Nat.le_of_ble_eq_true rfl) ?_
                  refine x_comesTo (by omega) (by omega) (by omega) ?_
                  refine r_istore hC dX5_give_106 rfl ?_
                  refine r_iload hC dX5_give_108 rfl ?_
                  refine r_ldc hC dX5_give_110 co_RX5_175 rfl ?_
                  refine r_icmp_ne (tgt := 116) hC dX5_give_112 rfl (fun h31 => ?_) (fun h31 => ?_)
                  · refine r_aload_n hC dX5_give_116 rfl ?_
                    refine z_getR hM dX5_give_117 fl_RX5_198 rfl rfl (vld_of (n := 7) rfl (by omega) (by omega)) ?_
                    refine r_iload hC dX5_give_120 rfl ?_
                    refine z_iald hM dX5_give_122 rfl (by omega) (by omega) (fun v32 h_v32 o_v32 t_v32 => ?_)
                    have w_v32 := ((t_v32 (Or.inl (by simp [Tb]))).trans (rfl)).symm
                    subst w_v32
                    refine r_istore hC dX5_give_123 rfl ?_
                    refine r_aload hC dX5_give_125 rfl ?_
                    refine r_iload hC dX5_give_127 rfl ?_
                    refine z_inv1 hM dX5_give_129 vl_RX5_133 rfl rfl rfl (Nat.le_of_ble_eq_true rfl) (Nat.le_of_ble_eq_true rfl) ?_
                    refine x_isTooLate (by omega) (fun h33 => ?_) (fun h33 => ?_)
                    · have y5_h33 : σ 7 (σ 13 i 0) 5 = (σ 7 (σ 13 i 0) 5) := (rfl)
                      have y10_h33 : σ 7 (σ 13 i 0) 10 = (σ 7 (σ 13 i 0) 10) := (rfl)
                      refine r_if_eq (tgt := 147) hC dX5_give_132 rfl (fun h34 => by omega) (fun h34 => ?_)
                      refine r_aload hC dX5_give_135 rfl ?_
                      refine r_dup hC dX5_give_137 rfl ?_
                      refine z_getI (jz := 11) hM dX5_give_138 fl_RX5_136 rfl rfl rfl (fun v35 h_v35 o_v35 t_v35 => ?_)
                      refine r_iconst hC dX5_give_141 rfl ?_
                      refine r_iadd hC dX5_give_142 ?_
                      have f36 := inR_le (inR_wr (v35 + 1))
                      refine z_putIU (jz := 11) hM dX5_give_143 fw_RX5_136 rfl rfl rfl (by simp [Un, Tb, DL, DF, DR]) (by simp [Okv]) ?_
                      refine y_vret hK rfl dX5_give_146 ?_
                      have hm : gvM σ i t = σ := if_neg (fun q => by have q1 := q.1; have q2 := q.2.1; have q3 := q.2.2.1; have q4 := q.2.2.2.1; have q5 := q.2.2.2.2.1; have q6 := q.2.2.2.2.2; have hses := hs_; unfold gvN at q5; rw [hses] at q5; unfold NO at q5; unfold fuV at *; unfold ltV at *; omega)
                      rw [hm] at k
                      exact k
                    · have y5_h33 : σ 7 (σ 13 i 0) 5 = (σ 7 (σ 13 i 0) 5) := (rfl)
                      have y10_h33 : σ 7 (σ 13 i 0) 10 = (σ 7 (σ 13 i 0) 10) := (rfl)
                      refine r_if_eq (tgt := 147) hC dX5_give_132 rfl (fun h37 => ?_) (fun h37 => by omega)
                      refine r_aload_n hC dX5_give_147 rfl ?_
                      refine r_dup hC dX5_give_148 rfl ?_
                      refine z_getI (jz := 3) hM dX5_give_149 fl_RX5_231 rfl rfl rfl (fun v38 h_v38 o_v38 t_v38 => ?_)
                      have w_v38 := ((t_v38 (Or.inl (by simp [Tb]))).trans (rfl)).symm
                      subst w_v38
                      refine r_iconst hC dX5_give_152 rfl ?_
                      refine r_iadd hC dX5_give_153 ?_
                      have f39 := inR_le (inR_wr ((σ 13 i 3) + 1))
                      refine z_putIT (jz := 3) hM dX5_give_154 fw_RX5_231 rfl rfl rfl ⟨Or.inr (by simp [DL]), Or.inr (by simp [DF])⟩ (by first | trivial | (simp only [Okv]; omega) | (simp [Okv]; try omega)) ?_
                      refine r_aload_n hC dX5_give_157 rfl ?_
                      refine r_aload hC dX5_give_158 rfl ?_
                      refine r_iload hC dX5_give_160 rfl ?_
                      refine r_sipush hC dX5_give_162 rfl ?_
                      refine r_sipush hC dX5_give_165 rfl ?_
                      refine r_iload hC dX5_give_168 rfl ?_
                      refine z_ins2 hM dX5_give_170 tl_RX5_234 rfl (Nat.le_of_ble_eq_true rfl) (Nat.le_of_ble_eq_true rfl) ?_
                      refine x_minE ?_
                      refine z_ins2 hM dX5_give_173 tl_RX5_239 rfl (Nat.le_of_ble_eq_true rfl) (Nat.le_of_ble_eq_true rfl) ?_
                      refine x_maxE ?_
                      refine z_inv3 hM dX5_give_176 vl_RX5_147 rfl rfl rfl (Nat.le_of_ble_eq_true rfl) (Nat.le_of_ble_eq_true rfl) ?_
                      have e7 : ∀ y : Int, (mu σ 13 i 3 (wr ((σ 13 i 3) + 1))) 7 (σ 13 i 0) y = σ 7 (σ 13 i 0) y := fun y => mu_ne (by omega)
                      have pl0 : (mu σ 13 i 3 (wr ((σ 13 i 3) + 1))) 7 (σ 13 i 0) 0 = (σ 13 i 0) := (e7 0).trans (hnL (σ 13 i 0) (by omega) (by omega))
                      have e6 := e7 6
                      have hh6 := hhL (σ 13 i 0) (by omega) (by omega)
                      have plF : FI ((mu σ 13 i 3 (wr ((σ 13 i 3) + 1))) 11 (σ 13 i 0)) ((mu σ 13 i 3 (wr ((σ 13 i 3) + 1))) 7 (σ 13 i 0) 6) := by rw [e6, show (mu σ 13 i 3 (wr ((σ 13 i 3) + 1))) 11 (σ 13 i 0) = σ 11 (σ 13 i 0) from funext fun y => mu_ne (by omega)]; exact hFL (σ 13 i 0) (by omega) (by omega)
                      refine x_place (by omega) (by omega) (by omega) pl0 plF (by omega) ?_
                      refine y_vret hK rfl dX5_give_179 ?_
                      have hN : gvN σ i = (cm (σ 16 0) (σ 15 0) (σ 7 i 2) (fun j => σ 9 i (w13 + j)) ((σ 7 i 6) - w13).toNat (σ 13 i 2)) := by unfold gvN; rw [hs_]
                      have hm : gvM σ i t = (plM (mu σ 13 i 3 (wr ((σ 13 i 3) + 1))) (σ 13 i 0) (σ 8 i ((σ 7 i 6) - 1)) (max (-1000) (min 1000 (cm (σ 16 0) (σ 15 0) (σ 7 i 2) (fun j => σ 9 i (w13 + j)) ((σ 7 i 6) - w13).toNat (σ 13 i 2))))) := by
                        unfold gvM
                        rw [if_pos ⟨by omega, by omega, by omega, by unfold fuV; omega, by rw [hN]; unfold NO; omega, by unfold ltV; omega⟩, hN]
                      rw [hm] at k
                      exact k
                  · refine y_vret hK rfl dX5_give_115 ?_
                    have hm : gvM σ i t = σ := if_neg (fun q => by have q1 := q.1; have q2 := q.2.1; have q3 := q.2.2.1; have q4 := q.2.2.2.1; have q5 := q.2.2.2.2.1; have q6 := q.2.2.2.2.2; have hses := hs_; unfold gvN at q5; rw [hses] at q5; unfold NO at q5; unfold fuV at *; unfold ltV at *; omega)
                    rw [hm] at k
                    exact k
                · refine r_if_ne (tgt := 91) hC dX5_give_82 rfl (fun h40 => by omega) (fun h40 => ?_)
                  refine r_iincE hC ((w13 - 1)) dX5_give_85 rfl rfl (by omega) (by unfold inR; omega) ?_
                  refine r_goto (tgt := 67) hC dX5_give_88 rfl ?_
                  exact ih67 ((w13 - 1))  (by omega) (by first | rfl | (rw [← ses_no (by omega) (by omega)]; exact i0_67)) (by omega)  
          exact L67 122 (((σ 7 i 6) - 1))  (by omega) (by first | rfl | (rw [← ses_no (by omega) (by omega)]; exact i0_67)) (by omega)  
  · -- h3
    refine r_astoreN hC dX5_give_18 rfl ?_
    refine r_aload_n hC dX5_give_20 rfl ?_
    refine z_getI (jz := 6) hM dX5_give_21 fl_RX5_154 rfl rfl rfl (fun v41 h_v41 o_v41 t_v41 => ?_)
    have w_v41 := ((t_v41 (Or.inl (by simp [Tb]))).trans (rfl)).symm
    subst w_v41
    have q_v41 : 0 ≤ (σ 7 i 6) ∧ (σ 7 i 6) ≤ 121 := o_v41.1 rfl
    refine r_iconst hC dX5_give_24 rfl ?_
    refine r_isubE hC (((σ 7 i 6) - 1)) dX5_give_25 (by omega) (by unfold inR; omega) ?_
    refine r_istore hC dX5_give_26 rfl ?_
    refine r_aloadN hC dX5_give_28 rfl ?_
    refine r_ifnullN (tgt := 62) hC dX5_give_30 rfl ?_
    refine y_vret hK rfl dX5_give_62 ?_
    have hm : gvM σ i t = σ := if_neg (fun q => by have q1 := q.1; have q2 := q.2.1; have q3 := q.2.2.1; have q4 := q.2.2.2.1; have q5 := q.2.2.2.2.1; have q6 := q.2.2.2.2.2; unfold fuV at *; unfold ltV at *; omega)
    rw [hm] at k
    exact k
-- B: what always holds at rest of the class's places, and what keeps it
def CI (V : Mm) : Prop := (∀ l : Int, 0 ≤ l → l ≤ 3 → V 7 l 0 = l) ∧ (∀ l : Int, 0 ≤ l → l ≤ 6 → FI (V 11 l) (V 7 l 6)) ∧ (∀ l : Int, 0 ≤ l → l ≤ 6 → Rst (V 7 l 3) (V 7 l 4) (V 7 l 6)) ∧ (∀ l : Int, 0 ≤ l → l ≤ 3 → V 13 l 0 ≠ l)
theorem CI.h7 {V : Mm} (h : CI V) {l : Int} (h0 : 0 ≤ l) (h1 : l ≤ 6) : 0 ≤ V 7 l 6 ∧ V 7 l 6 ≤ 120 := by
  have := h.2.2.1 l h0 h1
  unfold Rst at this
  omega
/-- the places that a call on LANE i may change -/
abbrev PS (i : Int) (c : Nat) (x y : Int) : Prop := (c = 12 ∧ 3 ≤ y ∧ y ≤ 5) ∨ (x = i ∧ (c = 8 ∨ c = 9 ∨ c = 10 ∨ c = 11 ∨ (c = 7 ∧ (y = 6 ∨ y = 10 ∨ y = 12 ∨ y = 13 ∨ y = 14))))
theorem enM_nx {V : Mm} {i t v x y : Int} {c : Nat} (h : ¬ PS i c x y) : enM V i t v c x y = V c x y := by
  unfold PS at h
  unfold enM
  rw [rgM_ne (by omega)]
  split
  · rw [adM_ne (by omega), insM_ne (by omega)]
  · rw [lyM_ne (by omega), insM_ne (by omega)]
theorem drps_nx {i x y : Int} {c : Nat} (h : ¬ PS i c x y) : ∀ (n : Nat) (V : Mm), drps i n V c x y = V c x y
  | 0, _ => rfl
  | n + 1, V => by
    show (if goV V i then drps i n (dpM V i) else V) c x y = V c x y
    split
    · rw [drps_nx h n, dpM_ne (by unfold PS at h; omega)]
    · rfl
theorem dpN_nx {i x y : Int} {c : Nat} (h : ¬ PS i c x y) : ∀ (n : Nat) (V : Mm), dpN i n V c x y = V c x y
  | 0, _ => rfl
  | n + 1, V => by
    show dpN i n (dpM V i) c x y = V c x y
    rw [dpN_nx h n, dpM_ne (by unfold PS at h; omega)]
theorem plM_nx {V : Mm} {i t v x y : Int} {c : Nat} (h : ¬ PS i c x y) : plM V i t v c x y = V c x y := by
  unfold plM
  rw [drps_nx h, enM_nx h]
theorem gvM_nx {V : Mm} {i t x y : Int} {c : Nat} (h : ¬ PS (V 13 i 0) c x y) (h13 : ¬ (c = 13 ∧ x = i ∧ y = 3)) : gvM V i t c x y = V c x y := by
  unfold gvM
  split
  · rw [plM_nx h, mu_ne h13]
  · rfl
theorem enM_6 {V : Mm} {i t v : Int} : enM V i t v 7 i 6 = V 7 i 6 + 1 := by
  unfold enM
  rw [rgM_ne (by omega)]
  split
  · rw [adM_ne (by omega), insM_6]
  · rw [lyM_ne (by omega), insM_6]
theorem drps_6 {i : Int} : ∀ (n : Nat) (V : Mm), 0 ≤ V 7 i 6 → (V 7 i 3 = 1 → 0 ≤ V 7 i 4) → 0 ≤ drps i n V 7 i 6 ∧ drps i n V 7 i 6 ≤ V 7 i 6
  | 0, _, h, _ => ⟨h, Int.le_refl _⟩
  | n + 1, V, h, hz => by
    show 0 ≤ (if goV V i then drps i n (dpM V i) else V) 7 i 6 ∧ (if goV V i then drps i n (dpM V i) else V) 7 i 6 ≤ V 7 i 6
    split
    · rename_i hg
      have h1 : 1 ≤ V 7 i 6 := by rcases hg with q | q <;> omega
      have ih := drps_6 n (dpM V i) (by rw [dpM_6]; omega) (by rw [dpM_ne (by omega), dpM_ne (by omega)]; exact hz)
      rw [dpM_6] at ih
      omega
    · omega
theorem drps_end {i : Int} : ∀ (n : Nat) (V : Mm), V 7 i 6 ≤ n → (V 7 i 3 = 1 → 0 ≤ V 7 i 4) → ¬ goV (drps i n V) i
  | 0, V, h, hz => by
    show ¬ goV V i
    unfold goV
    omega
  | n + 1, V, h, hz => by
    show ¬ goV (if goV V i then drps i n (dpM V i) else V) i
    split
    · exact drps_end n (dpM V i) (by rw [dpM_6]; omega) (by rw [dpM_ne (by omega), dpM_ne (by omega)]; exact hz)
    · assumption
theorem CI.to {V W : Mm} (h : CI V) (e : ∀ (c : Nat) (x y : Int), c = 11 ∨ (c = 7 ∧ (y = 0 ∨ y = 3 ∨ y = 4 ∨ y = 6)) ∨ (c = 13 ∧ y = 0) → W c x y = V c x y) : CI W := by
  refine ⟨fun l h0 h1 => ?_, fun l h0 h1 => ?_, fun l h0 h1 => ?_, fun l h0 h1 => ?_⟩
  · rw [e 7 l 0 (by omega)]; exact h.1 l h0 h1
  · rw [e 7 l 6 (by omega), show W 11 l = V 11 l from funext fun y => e 11 l y (by omega)]; exact h.2.1 l h0 h1
  · rw [e 7 l 3 (by omega), e 7 l 4 (by omega), e 7 l 6 (by omega)]; exact h.2.2.1 l h0 h1
  · rw [e 13 l 0 (by omega)]; exact h.2.2.2 l h0 h1
theorem CI.li {V : Mm} (h : CI V) {i : Int} (h0 : 0 ≤ i) (h1 : i ≤ 3) : LI V i := ⟨h.1 i h0 h1, h.2.1 i h0 (by omega), (h.h7 h0 (by omega)).1⟩
theorem CI.size {V : Mm} (h : CI V) {i : Int} (h0 : 0 ≤ i) (h1 : i ≤ 6) : V 7 i 3 = 1 → 1 ≤ V 7 i 4 ∧ V 7 i 4 ≤ 120 ∧ V 7 i 6 ≤ V 7 i 4 := fun q => by
  have := h.2.2.1 i h0 h1
  unfold Rst at this
  omega
theorem CI.pl {V : Mm} (h : CI V) {i t v : Int} (h0 : 0 ≤ i) (h1 : i ≤ 3) (hf : ¬ fuV V i) : CI (plM V i t v) := by
  have hz := h.size h0 (show i ≤ 6 by omega)
  have hL : LI (plM V i t v) i := (h.li h0 h1).pl (by omega)
  have e3 : enM V i t v 7 i 3 = V 7 i 3 := enM_nx (by unfold PS; omega)
  have e4 : enM V i t v 7 i 4 = V 7 i 4 := enM_nx (by unfold PS; omega)
  have h6 := h.h7 h0 (show i ≤ 6 by omega)
  have d6 := drps_6 (i := i) (V 7 i 6 + 1).toNat (enM V i t v) (by rw [enM_6]; omega) (by rw [e3, e4]; omega)
  have dE := drps_end (i := i) (V 7 i 6 + 1).toNat (enM V i t v) (by rw [enM_6]; omega) (by rw [e3, e4]; omega)
  have f3 : drps i (V 7 i 6 + 1).toNat (enM V i t v) 7 i 3 = V 7 i 3 := (drps_nx (by unfold PS; omega) _ _).trans e3
  have f4 : drps i (V 7 i 6 + 1).toNat (enM V i t v) 7 i 4 = V 7 i 4 := (drps_nx (by unfold PS; omega) _ _).trans e4
  rw [enM_6] at d6
  refine ⟨fun l a b => ?_, fun l a b => ?_, fun l a b => ?_, fun l a b => ?_⟩
  · rw [plM_nx (by unfold PS; omega)]; exact h.1 l a b
  · by_cases hl : l = i
    · subst hl; exact hL.2.1
    · rw [plM_nx (by unfold PS; omega), show plM V i t v 11 l = V 11 l from funext fun y => plM_nx (by unfold PS; omega)]; exact h.2.1 l a b
  · by_cases hl : l = i
    · subst hl
      unfold plM
      rw [f3, f4]
      unfold goV at dE
      rw [f3, f4] at dE
      unfold Rst
      unfold fuV at hf
      omega
    · rw [plM_nx (by unfold PS; omega), plM_nx (by unfold PS; omega), plM_nx (by unfold PS; omega)]; exact h.2.2.1 l a b
  · rw [plM_nx (by unfold PS; omega)]; exact h.2.2.2 l a b
theorem CI.gv {V : Mm} (h : CI V) {i t : Int} : CI (gvM V i t) := by
  unfold gvM
  split
  · rename_i q
    have hW : CI (mu V 13 i 3 (wr (V 13 i 3 + 1))) := h.to fun c x y e => mu_ne (by omega)
    refine hW.pl q.1.1 q.1.2.1 (fun z => q.2.2.2.1 ?_)
    unfold fuV at z ⊢
    rw [mu_ne (by omega), mu_ne (by omega)] at z
    exact z
  · exact h
theorem CI.dp {V : Mm} (h : CI V) {i : Int} (h0 : 0 ≤ i) (h1 : i ≤ 3) (h6 : 1 ≤ V 7 i 6) : CI (dpM V i) := by
  have hL := (h.li h0 h1).dp h6
  refine ⟨fun l a b => ?_, fun l a b => ?_, fun l a b => ?_, fun l a b => ?_⟩
  · rw [dpM_ne (by omega)]; exact h.1 l a b
  · by_cases hl : l = i
    · subst hl; exact hL.2.1
    · rw [dpM_ne (by omega), show dpM V i 11 l = V 11 l from funext fun y => dpM_ne (by omega)]; exact h.2.1 l a b
  · by_cases hl : l = i
    · subst hl
      rw [dpM_6, dpM_ne (by omega), dpM_ne (by omega)]
      have := h.2.2.1 l a b
      unfold Rst at this ⊢
      omega
    · rw [dpM_ne (by omega), dpM_ne (by omega), dpM_ne (by omega)]; exact h.2.2.1 l a b
  · rw [dpM_ne (by omega)]; exact h.2.2.2 l a b
theorem CI.nt {V : Mm} (h : CI V) : CI (ntM V) := h.to fun c x y e => if_neg (by omega)
theorem CI.rg {V : Mm} (h : CI V) {i : Int} : CI (rgM V i) := h.to fun c x y e => rgM_ne (by omega)
theorem CI.lay {V : Mm} (h : CI V) {i : Int} (h0 : 0 ≤ i) (h1 : i ≤ 3) : CI (lyM V i (V 7 i 6)) := by
  have h6 := h.h7 h0 (show i ≤ 6 by omega)
  refine ⟨fun l a b => ?_, fun l a b => ?_, fun l a b => ?_, fun l a b => ?_⟩
  · rw [lyM_ne (by omega)]; exact h.1 l a b
  · rw [lyM_ne (by omega)]
    by_cases hl : l = i
    · subst hl
      rw [show lyM V l (V 7 l 6) 11 l = lyR (V 7 l 6) (V 11 l) from funext fun y => su_at]
      exact FI_ly h6.1
    · rw [show lyM V i (V 7 i 6) 11 l = V 11 l from funext fun y => lyM_ne (by omega)]; exact h.2.1 l a b
  · rw [lyM_ne (by omega), lyM_ne (by omega), lyM_ne (by omega)]; exact h.2.2.1 l a b
  · rw [lyM_ne (by omega)]; exact h.2.2.2 l a b
-- the calls
abbrev opV (V : Mm) (l : Int) : Prop := (0 ≤ l ∧ l ≤ 3) ∧ V 7 l 1 = 1
abbrev coC (V : Mm) (l t v : Int) : Prop := opV V l ∧ (0 ≤ t ∧ t ≤ 100000) ∧ -1000 ≤ v ∧ v ≤ 1000
def coM (V : Mm) (l t v : Int) : Mm := if coC V l t v ∧ ¬ ltV V l t ∧ ¬ fuV V l then ntM (plM (gvM V l t) l t v) else V
def coR (V : Mm) (l t v : Int) : Int := if ¬ coC V l t v then -1 else if ltV V l t then -2 else if fuV V l then -1 else coM V l t v 7 l 6
def bst (l s : Int) : Nat → Int → Mm → Mm
  | 0, _, V => V
  | n + 1, v, V => bst l s n (v + s) (plM (gvM V l (wr (V 7 l 10 + 1))) l (wr (V 7 l 10 + 1)) v)
abbrev buC (V : Mm) (l m v s : Int) : Prop := opV V l ∧ (1 ≤ m ∧ m ≤ 40) ∧ (-1000 ≤ s ∧ s ≤ 1000) ∧ (-1000 ≤ v ∧ v ≤ 1000) ∧ (-1000 ≤ v + (m - 1) * s ∧ v + (m - 1) * s ≤ 1000) ∧ (0 ≤ wr (V 7 l 10 + m) ∧ wr (V 7 l 10 + m) ≤ 100000) ∧ ¬ (V 7 l 3 ≠ 1 ∧ 120 < V 7 l 6 + m)
def buM (V : Mm) (l m v s : Int) : Mm := if buC V l m v s then ntM (bst l s m.toNat v V) else V
def buR (V : Mm) (l m v s : Int) : Int := if buC V l m v s then buM V l m v s 7 l 6 else -1
abbrev leC (V : Mm) (l m : Int) : Prop := opV V l ∧ 0 ≤ m ∧ m ≤ V 7 l 6
def leM (V : Mm) (l m : Int) : Mm := if leC V l m then dpN l m.toNat V else V
def leR (V : Mm) (l m : Int) : Int := if leC V l m then leM V l m 7 l 6 else -1
def unM (V : Mm) (l t : Int) : Mm := if opV V l then dpN l (hU V l t).toNat V else V
def unR (V : Mm) (l t : Int) : Int := if opV V l then hU V l t else -1
abbrev evC (V : Mm) (l x : Int) : Prop := opV V l ∧ 0 ≤ x ∧ x < V 7 l 6
def taM (V : Mm) (l x : Int) : Mm := if evC V l x then rgM (lyM (remM V l x) l (V 7 l 6 - 1)) l else V
def taR (V : Mm) (l x : Int) : Int := if evC V l x then V 9 l x else -2147483648
abbrev alC (V : Mm) (l x v : Int) : Prop := evC V l x ∧ -1000 ≤ v ∧ v ≤ 1000
def alM (V : Mm) (l x v : Int) : Mm := if alC V l x v then rgM (lyM (mu V 9 l x v) l (V 7 l 6)) l else V
def alR (V : Mm) (l x v : Int) : Int := if alC V l x v then 1 else 0
theorem bst_s {l s v : Int} {n : Nat} {V : Mm} : bst l s (n + 1) v V = bst l s n (v + s) (plM (gvM V l (wr (V 7 l 10 + 1))) l (wr (V 7 l 10 + 1)) v) := rfl
theorem lin_btw {v m s i : Int} (h0 : 0 ≤ i) (h1 : i ≤ m) (ha : -1000 ≤ v ∧ v ≤ 1000) (hb : -1000 ≤ v + m * s ∧ v + m * s ≤ 1000) : -1000 ≤ v + i * s ∧ v + i * s ≤ 1000 := by
  rcases Int.le_total 0 s with hs | hs
  · have q0 := Int.mul_nonneg h0 hs
    have q1 := Int.mul_le_mul_of_nonneg_right h1 hs
    omega
  · have q0 := Int.mul_nonneg h0 (show 0 ≤ -s by omega)
    have q1 := Int.mul_le_mul_of_nonneg_right h1 (show 0 ≤ -s by omega)
    rw [Int.mul_neg] at q0 q1
    rw [Int.mul_neg] at q1
    omega
theorem gv_7 {V : Mm} (h : CI V) {l t : Int} (h0 : 0 ≤ l) (h1 : l ≤ 3) {y : Int} : gvM V l t 7 l y = V 7 l y := gvM_nx (by have := h.2.2.2 l h0 h1; unfold PS; omega) (by omega)
theorem pl_6 {V : Mm} (h : CI V) {i t v : Int} (h0 : 0 ≤ i) (h1 : i ≤ 3) : plM V i t v 7 i 6 ≤ V 7 i 6 + 1 := by
  have hz := h.size h0 (show i ≤ 6 by omega)
  have e3 : enM V i t v 7 i 3 = V 7 i 3 := enM_nx (by unfold PS; omega)
  have e4 : enM V i t v 7 i 4 = V 7 i 4 := enM_nx (by unfold PS; omega)
  have h6 := h.h7 h0 (show i ≤ 6 by omega)
  have d6 := drps_6 (i := i) (V 7 i 6 + 1).toNat (enM V i t v) (by rw [enM_6]; omega) (by rw [e3, e4]; omega)
  rw [enM_6] at d6
  unfold plM
  omega
-- B: the class's calls that move
theorem x_giveC {ec : Bool} {d : Nat} {P : Option Vl → Mm → Prop} {σ : Mm} {i t : Int} (hC : CI σ) (b_i : 0 ≤ i ∧ i ≤ 3) (b_t : -2147483648 ≤ t ∧ t ≤ 2147483647) (k : P none (gvM σ i t)) : WT (true, false, ec) (d + 7) 70 [vR 2 0, vR 7 i, vI t] σ P := x_give b_i b_t hC.1 (fun l a b => hC.2.1 l a (by omega)) (fun l a b => hC.h7 a (by omega)) (hC.2.2.2 i b_i.1 b_i.2) k
theorem x_placeC {ec : Bool} {d : Nat} {P : Option Vl → Mm → Prop} {σ : Mm} {i t v : Int} (hC : CI σ) (b_i : 0 ≤ i ∧ i ≤ 3) (b_t : -2147483648 ≤ t ∧ t ≤ 2147483647) (b_v : -1000 ≤ v ∧ v ≤ 1000) (k : P none (plM σ i t v)) : WT (true, false, ec) (d + 6) 67 [vR 2 0, vR 7 i, vI t, vI v] σ P := x_place ⟨b_i.1, by omega⟩ b_t b_v (hC.1 i b_i.1 b_i.2) (hC.2.1 i b_i.1 (by omega)) (hC.h7 b_i.1 (by omega)) k
theorem x_come {ec : Bool} {d : Nat} {P : Option Vl → Mm → Prop} {σ : Mm} {l t v : Int}  (hCI : CI σ)  (k : P (some (vI (coR σ l t v))) (coM σ l t v)) : WT (true, false, ec) (d + 8) 61 [vR 2 0, vI l, vI t, vI v] σ P := by
  refine WT_in fun K hK => ?_
  have hK : StpY (true, false, ec) cX5_come RX5 (some .int) (WT (true, false, ec) (d + 7)) P K := hK
  have hM := hK.1
  have hC := hK.1.1
  show K 0 [some (vR 2 0), some (vI l), some (vI t), some (vI v), none] [] σ
  refine r_rngz hC (fun g0 => ?_)
  have r_l : -2147483648 ≤ l ∧ l ≤ 2147483647 := inR_le (g0 (vI l) (by simp))
  have r_t : -2147483648 ≤ t ∧ t ≤ 2147483647 := inR_le (g0 (vI t) (by simp))
  have r_v : -2147483648 ≤ v ∧ v ≤ 2147483647 := inR_le (g0 (vI v) (by simp))
  refine r_aload_n hC dX5_come_0 rfl ?_
  refine r_iload_n hC dX5_come_1 rfl ?_
  refine z_inv1 hM dX5_come_2 vl_RX5_123 rfl rfl rfl (Nat.le_of_ble_eq_true rfl) (Nat.le_of_ble_eq_true rfl) ?_
  refine x_openLane (fun h1 => ?_) (fun h1 => ?_)
  · -- h1
    refine r_astore hC dX5_come_5 rfl ?_
    refine r_aload hC dX5_come_7 rfl ?_
    refine r_ifnullR hC dX5_come_9 ?_
    refine r_iload_n hC dX5_come_12 rfl ?_
    refine z_ins1 hM dX5_come_13 tl_RX5_127 rfl (Nat.le_of_ble_eq_true rfl) (Nat.le_of_ble_eq_true rfl) ?_
    refine s_isTime (fun h3 => ?_) (fun h3 => ?_)
    · refine r_if_eq (tgt := 26) hC dX5_come_16 rfl (fun h4 => by omega) (fun h4 => ?_)
      refine r_iload_n hC dX5_come_19 rfl ?_
      refine z_ins1 hM dX5_come_20 tl_RX5_130 rfl (Nat.le_of_ble_eq_true rfl) (Nat.le_of_ble_eq_true rfl) ?_
      refine s_isValue (fun h6 => ?_) (fun h6 => ?_)
      · refine r_if_ne (tgt := 28) hC dX5_come_23 rfl (fun h7 => ?_) (fun h7 => by omega)
        refine r_aload hC dX5_come_28 rfl ?_
        refine r_iload_n hC dX5_come_30 rfl ?_
        refine z_inv1 hM dX5_come_31 vl_RX5_133 rfl rfl rfl (Nat.le_of_ble_eq_true rfl) (Nat.le_of_ble_eq_true rfl) ?_
        refine x_isTooLate (by omega) (fun h8 => ?_) (fun h8 => ?_)
        · have y5_h8 : σ 7 l 5 = (σ 7 l 5) := (rfl)
          have y10_h8 : σ 7 l 10 = (σ 7 l 10) := (rfl)
          refine r_if_eq (tgt := 51) hC dX5_come_34 rfl (fun h9 => by omega) (fun h9 => ?_)
          refine r_aload hC dX5_come_37 rfl ?_
          refine r_dup hC dX5_come_39 rfl ?_
          refine z_getI (jz := 11) hM dX5_come_40 fl_RX5_136 rfl rfl rfl (fun v10 h_v10 o_v10 t_v10 => ?_)
          refine r_iconst hC dX5_come_43 rfl ?_
          refine r_iadd hC dX5_come_44 ?_
          have f11 := inR_le (inR_wr (v10 + 1))
          refine z_putIU (jz := 11) hM dX5_come_45 fw_RX5_136 rfl rfl rfl (by simp [Un, Tb, DL, DF, DR]) (by simp [Okv]) ?_
          refine r_bipush hC dX5_come_48 rfl ?_
          refine y_iret hK rfl dX5_come_50 ?_
          have hM : coM σ l t v = σ := by
            unfold coM
            first | exact if_pos (by omega) | exact if_neg (by omega)
          rw [hM] at k
          have hR : coR σ l t v = (-2) := by
            unfold coR
            first | (rw [if_pos (by omega)]; done) | (rw [if_neg (by omega), if_pos (by omega)]; done) | (rw [if_neg (by omega), if_neg (by omega), if_pos (by omega)]; done) | (rw [if_neg (by omega), if_neg (by omega), if_neg (by omega), hM]; exact ntM_ne (by omega))
          rw [hR] at k
          exact k
        · have y5_h8 : σ 7 l 5 = (σ 7 l 5) := (rfl)
          have y10_h8 : σ 7 l 10 = (σ 7 l 10) := (rfl)
          refine r_if_eq (tgt := 51) hC dX5_come_34 rfl (fun h12 => ?_) (fun h12 => by omega)
          refine r_aload hC dX5_come_51 rfl ?_
          refine z_inv0 hM dX5_come_53 vl_RX5_139 rfl rfl rfl (Nat.le_of_ble_eq_true rfl) (Nat.le_of_ble_eq_true rfl) ?_
          refine x_isFull (by omega) (fun h13 => ?_) (fun h13 => ?_)
          · have y3_h13 : σ 7 l 3 = (σ 7 l 3) := (rfl)
            have y6_h13 : σ 7 l 6 = (σ 7 l 6) := (rfl)
            refine r_if_eq (tgt := 61) hC dX5_come_56 rfl (fun h14 => by omega) (fun h14 => ?_)
            refine r_iconst hC dX5_come_59 rfl ?_
            refine y_iret hK rfl dX5_come_60 ?_
            have hM : coM σ l t v = σ := by
              unfold coM
              first | exact if_pos (by omega) | exact if_neg (by omega)
            rw [hM] at k
            have hR : coR σ l t v = (-1) := by
              unfold coR
              first | (rw [if_pos (by omega)]; done) | (rw [if_neg (by omega), if_pos (by omega)]; done) | (rw [if_neg (by omega), if_neg (by omega), if_pos (by omega)]; done) | (rw [if_neg (by omega), if_neg (by omega), if_neg (by omega), hM]; exact ntM_ne (by omega))
            rw [hR] at k
            exact k
          · have y3_h13 : σ 7 l 3 = (σ 7 l 3) := (rfl)
            have y6_h13 : σ 7 l 6 = (σ 7 l 6) := (rfl)
            refine r_if_eq (tgt := 61) hC dX5_come_56 rfl (fun h15 => ?_) (fun h15 => by omega)
            refine r_aload_n hC dX5_come_61 rfl ?_
            refine r_aload hC dX5_come_62 rfl ?_
            refine r_iload_n hC dX5_come_64 rfl ?_
            refine z_inv2 hM dX5_come_65 vl_RX5_143 rfl rfl rfl (Nat.le_of_ble_eq_true rfl) (Nat.le_of_ble_eq_true rfl) ?_
            refine x_giveC hCI (by omega) (by omega) ?_
            refine r_aload_n hC dX5_come_68 rfl ?_
            refine r_aload hC dX5_come_69 rfl ?_
            refine r_iload_n hC dX5_come_71 rfl ?_
            refine r_iload_n hC dX5_come_72 rfl ?_
            refine z_inv3 hM dX5_come_73 vl_RX5_147 rfl rfl rfl (Nat.le_of_ble_eq_true rfl) (Nat.le_of_ble_eq_true rfl) ?_
            refine x_placeC (CI.gv hCI) (by omega) (by omega) (by omega) ?_
            have u3_73 : (gvM σ l t) 7 l 3 = (σ 7 l 3) := ((gv_7 hCI (by omega) (by omega)).trans (rfl))
            have u6_73 : (gvM σ l t) 7 l 6 = (σ 7 l 6) := ((gv_7 hCI (by omega) (by omega)).trans (rfl))
            have nf_73 : ¬ fuV (gvM σ l t) l := by unfold fuV; omega
            refine r_aload_n hC dX5_come_76 rfl ?_
            refine z_inv0 hM dX5_come_77 vl_RX5_151 rfl rfl rfl (Nat.le_of_ble_eq_true rfl) (Nat.le_of_ble_eq_true rfl) ?_
            refine x_noteMost ?_
            refine r_aload hC dX5_come_80 rfl ?_
            refine z_getI (jz := 6) hM dX5_come_82 fl_RX5_154 rfl rfl rfl (fun v16 h_v16 o_v16 t_v16 => ?_)
            have w_v16 := ((t_v16 (Or.inl (by simp [Tb]))).trans ((ntM_ne (by omega)).trans (rfl))).symm
            subst w_v16
            have q_v16 : 0 ≤ ((plM (gvM σ l t) l t v) 7 l 6) ∧ ((plM (gvM σ l t) l t v) 7 l 6) ≤ 121 := o_v16.1 rfl
            refine y_iret hK rfl dX5_come_85 ?_
            have hM : coM σ l t v = (ntM (plM (gvM σ l t) l t v)) := by
              unfold coM
              first | exact if_pos (by omega) | exact if_neg (by omega)
            rw [hM] at k
            have hR : coR σ l t v = ((plM (gvM σ l t) l t v) 7 l 6) := by
              unfold coR
              first | (rw [if_pos (by omega)]; done) | (rw [if_neg (by omega), if_pos (by omega)]; done) | (rw [if_neg (by omega), if_neg (by omega), if_pos (by omega)]; done) | (rw [if_neg (by omega), if_neg (by omega), if_neg (by omega), hM]; exact ntM_ne (by omega))
            rw [hR] at k
            exact k
      · refine r_if_ne (tgt := 28) hC dX5_come_23 rfl (fun h17 => by omega) (fun h17 => ?_)
        refine r_iconst hC dX5_come_26 rfl ?_
        refine y_iret hK rfl dX5_come_27 ?_
        have hM : coM σ l t v = σ := by
          unfold coM
          first | exact if_pos (by omega) | exact if_neg (by omega)
        rw [hM] at k
        have hR : coR σ l t v = (-1) := by
          unfold coR
          first | (rw [if_pos (by omega)]; done) | (rw [if_neg (by omega), if_pos (by omega)]; done) | (rw [if_neg (by omega), if_neg (by omega), if_pos (by omega)]; done) | (rw [if_neg (by omega), if_neg (by omega), if_neg (by omega), hM]; exact ntM_ne (by omega))
        rw [hR] at k
        exact k
    · refine r_if_eq (tgt := 26) hC dX5_come_16 rfl (fun h18 => ?_) (fun h18 => by omega)
      refine r_iconst hC dX5_come_26 rfl ?_
      refine y_iret hK rfl dX5_come_27 ?_
      have hM : coM σ l t v = σ := by
        unfold coM
        first | exact if_pos (by omega) | exact if_neg (by omega)
      rw [hM] at k
      have hR : coR σ l t v = (-1) := by
        unfold coR
        first | (rw [if_pos (by omega)]; done) | (rw [if_neg (by omega), if_pos (by omega)]; done) | (rw [if_neg (by omega), if_neg (by omega), if_pos (by omega)]; done) | (rw [if_neg (by omega), if_neg (by omega), if_neg (by omega), hM]; exact ntM_ne (by omega))
      rw [hR] at k
      exact k
  · -- h1
    refine r_astoreN hC dX5_come_5 rfl ?_
    refine r_aloadN hC dX5_come_7 rfl ?_
    refine r_ifnullN (tgt := 26) hC dX5_come_9 rfl ?_
    refine r_iconst hC dX5_come_26 rfl ?_
    refine y_iret hK rfl dX5_come_27 ?_
    have hM : coM σ l t v = σ := by
      unfold coM
      first | exact if_pos (by omega) | exact if_neg (by omega)
    rw [hM] at k
    have hR : coR σ l t v = (-1) := by
      unfold coR
      first | (rw [if_pos (by omega)]; done) | (rw [if_neg (by omega), if_pos (by omega)]; done) | (rw [if_neg (by omega), if_neg (by omega), if_pos (by omega)]; done) | (rw [if_neg (by omega), if_neg (by omega), if_neg (by omega), hM]; exact ntM_ne (by omega))
    rw [hR] at k
    exact k
theorem x_burst {ec : Bool} {d : Nat} {P : Option Vl → Mm → Prop} {σ : Mm} {l m v z : Int}  (hCI : CI σ)  (k : P (some (vI (buR σ l m v z))) (buM σ l m v z)) : WT (true, false, ec) (d + 8) 62 [vR 2 0, vI l, vI m, vI v, vI z] σ P := by
  refine WT_in fun K hK => ?_
  have hK : StpY (true, false, ec) cX5_burst RX5 (some .int) (WT (true, false, ec) (d + 7)) P K := hK
  have hM := hK.1
  have hC := hK.1.1
  show K 0 [some (vR 2 0), some (vI l), some (vI m), some (vI v), some (vI z), none, none, none] [] σ
  refine r_rngz hC (fun g0 => ?_)
  have r_l : -2147483648 ≤ l ∧ l ≤ 2147483647 := inR_le (g0 (vI l) (by simp))
  have r_m : -2147483648 ≤ m ∧ m ≤ 2147483647 := inR_le (g0 (vI m) (by simp))
  have r_v : -2147483648 ≤ v ∧ v ≤ 2147483647 := inR_le (g0 (vI v) (by simp))
  have r_z : -2147483648 ≤ z ∧ z ≤ 2147483647 := inR_le (g0 (vI z) (by simp))
  refine r_aload_n hC dX5_burst_0 rfl ?_
  refine r_iload_n hC dX5_burst_1 rfl ?_
  refine z_inv1 hM dX5_burst_2 vl_RX5_123 rfl rfl rfl (Nat.le_of_ble_eq_true rfl) (Nat.le_of_ble_eq_true rfl) ?_
  refine x_openLane (fun h1 => ?_) (fun h1 => ?_)
  · -- h1
    refine r_astore hC dX5_burst_5 rfl ?_
    refine r_aload hC dX5_burst_7 rfl ?_
    refine r_ifnullR hC dX5_burst_9 ?_
    refine r_iload_n hC dX5_burst_12 rfl ?_
    refine r_iconst hC dX5_burst_13 rfl ?_
    refine r_bipush hC dX5_burst_14 rfl ?_
    refine z_ins3 hM dX5_burst_16 tl_RX5_59 rfl (Nat.le_of_ble_eq_true rfl) (Nat.le_of_ble_eq_true rfl) ?_
    refine s_within (fun h3 => ?_) (fun h3 => ?_)
    · refine r_if_eq (tgt := 36) hC dX5_burst_19 rfl (fun h4 => by omega) (fun h4 => ?_)
      refine r_iload hC dX5_burst_22 rfl ?_
      refine r_sipush hC dX5_burst_24 rfl ?_
      refine r_sipush hC dX5_burst_27 rfl ?_
      refine z_ins3 hM dX5_burst_30 tl_RX5_59 rfl (Nat.le_of_ble_eq_true rfl) (Nat.le_of_ble_eq_true rfl) ?_
      refine s_within (fun h6 => ?_) (fun h6 => ?_)
      · refine r_if_ne (tgt := 38) hC dX5_burst_33 rfl (fun h7 => ?_) (fun h7 => by omega)
        refine r_iload_n hC dX5_burst_38 rfl ?_
        refine z_ins1 hM dX5_burst_39 tl_RX5_130 rfl (Nat.le_of_ble_eq_true rfl) (Nat.le_of_ble_eq_true rfl) ?_
        refine s_isValue (fun h9 => ?_) (fun h9 => ?_)
        · refine r_if_eq (tgt := 72) hC dX5_burst_42 rfl (fun h10 => by omega) (fun h10 => ?_)
          refine r_iload_n hC dX5_burst_45 rfl ?_
          refine r_iload_n hC dX5_burst_46 rfl ?_
          refine r_iconst hC dX5_burst_47 rfl ?_
          refine r_isubE hC ((m - 1)) dX5_burst_48 (by omega) (by unfold inR; omega) ?_
          refine r_iload hC dX5_burst_49 rfl ?_
          have m11 := mul_bd (a := (m - 1)) (b := z) (A := 39) (B := 1000) (by omega) (by omega) (by omega) (by omega)
          refine r_imulE hC (((m - 1) * z)) dX5_burst_51 (by omega) (by unfold inR; omega) ?_
          refine r_iaddE hC ((v + ((m - 1) * z))) dX5_burst_52 (by omega) (by unfold inR; omega) ?_
          refine z_ins1 hM dX5_burst_53 tl_RX5_130 rfl (Nat.le_of_ble_eq_true rfl) (Nat.le_of_ble_eq_true rfl) ?_
          refine s_isValue (fun h13 => ?_) (fun h13 => ?_)
          · refine r_if_eq (tgt := 72) hC dX5_burst_56 rfl (fun h14 => by omega) (fun h14 => ?_)
            refine r_aload hC dX5_burst_59 rfl ?_
            refine z_getI (jz := 10) hM dX5_burst_61 fl_RX5_157 rfl rfl rfl (fun v15 h_v15 o_v15 t_v15 => ?_)
            have w_v15 := ((t_v15 (Or.inl (by simp [Tb]))).trans (rfl)).symm
            subst w_v15
            refine r_iload_n hC dX5_burst_64 rfl ?_
            refine r_iadd hC dX5_burst_65 ?_
            have f16 := inR_le (inR_wr ((σ 7 l 10) + m))
            refine z_ins1 hM dX5_burst_66 tl_RX5_127 rfl (Nat.le_of_ble_eq_true rfl) (Nat.le_of_ble_eq_true rfl) ?_
            refine s_isTime (fun h18 => ?_) (fun h18 => ?_)
            · refine r_if_ne (tgt := 74) hC dX5_burst_69 rfl (fun h19 => ?_) (fun h19 => by omega)
              refine r_aload hC dX5_burst_74 rfl ?_
              refine z_getI (jz := 3) hM dX5_burst_76 fl_RX5_160 rfl rfl rfl (fun v20 h_v20 o_v20 t_v20 => ?_)
              have w_v20 := ((t_v20 (Or.inl (by simp [Tb]))).trans (rfl)).symm
              subst w_v20
              refine r_iconst hC dX5_burst_79 rfl ?_
              refine r_icmp_eq (tgt := 97) hC dX5_burst_80 rfl (fun h21 => ?_) (fun h21 => ?_)
              · refine r_iconst hC dX5_burst_97 rfl ?_
                refine r_istore hC dX5_burst_98 rfl ?_
                have L100 : ∀ (n100 : Nat) (w22 : Int) (ρ23 : Mm), 0 ≤ w22 ∧ w22 ≤ 40 → ((w22) ≤ m) → 40 - w22 < (n100 : Int) → (bst l z (m - (w22)).toNat (v + (w22) * z) ρ23 = bst l z m.toNat v σ) → (CI ρ23) → (ρ23 7 l 3 = σ 7 l 3) → (σ 7 l 3 ≠ 1 → ρ23 7 l 6 + m - (w22) ≤ 120) → K 100 [some (vR 2 0), some (vI l), some (vI m), some (vI v), some (vI z), some (vR 7 l), some (vI w22), none] [] ρ23 := by
                  intro n100
                  induction n100 with
                  | zero => intro w22 ρ23 f_w22 i0_100 hm  m0_100 m1_100 m2_100 m3_100; omega
                  | succ n100 ih100 =>
                    intro w22 ρ23 f_w22 i0_100 hm100  m0_100 m1_100 m2_100 m3_100
                    refine r_iload hC dX5_burst_100 rfl ?_
                    refine r_iload_n hC dX5_burst_102 rfl ?_
                    refine r_icmp_ge (tgt := 144) hC dX5_burst_103 rfl (fun h24 => ?_) (fun h24 => ?_)
                    · refine r_aload_n hC dX5_burst_144 rfl ?_
                      refine z_inv0 hM dX5_burst_145 vl_RX5_151 rfl rfl rfl (Nat.le_of_ble_eq_true rfl) (Nat.le_of_ble_eq_true rfl) ?_
                      refine x_noteMost ?_
                      refine r_aload hC dX5_burst_148 rfl ?_
                      refine z_getI (jz := 6) hM dX5_burst_150 fl_RX5_154 rfl rfl rfl (fun v25 h_v25 o_v25 t_v25 => ?_)
                      have w_v25 := ((t_v25 (Or.inl (by simp [Tb]))).trans ((ntM_ne (by omega)).trans (rfl))).symm
                      subst w_v25
                      have q_v25 : 0 ≤ (ρ23 7 l 6) ∧ (ρ23 7 l 6) ≤ 121 := o_v25.1 rfl
                      refine y_iret hK rfl dX5_burst_153 ?_
                      have hM : buM σ l m v z = (ntM ρ23) := by
                        have e0 : bst l z m.toNat v σ = ρ23 := by
                          rw [← m0_100, show (m - w22).toNat = 0 from by omega]
                          rfl
                        unfold buM
                        rw [if_pos (by omega), e0]
                      rw [hM] at k
                      have hR : buR σ l m v z = (ρ23 7 l 6) := by
                        unfold buR
                        rw [if_pos (by omega), hM]
                        exact ntM_ne (by omega)
                      rw [hR] at k
                      exact k
                    · refine r_aload hC dX5_burst_106 rfl ?_
                      refine z_getI (jz := 10) hM dX5_burst_108 fl_RX5_157 rfl rfl rfl (fun v26 h_v26 o_v26 t_v26 => ?_)
                      have w_v26 := ((t_v26 (Or.inl (by simp [Tb]))).trans (rfl)).symm
                      subst w_v26
                      refine r_iconst hC dX5_burst_111 rfl ?_
                      refine r_iadd hC dX5_burst_112 ?_
                      have f27 := inR_le (inR_wr ((ρ23 7 l 10) + 1))
                      refine r_istore hC dX5_burst_113 rfl ?_
                      refine r_aload_n hC dX5_burst_115 rfl ?_
                      refine r_aload hC dX5_burst_116 rfl ?_
                      refine r_iload hC dX5_burst_118 rfl ?_
                      refine z_inv2 hM dX5_burst_120 vl_RX5_143 rfl rfl rfl (Nat.le_of_ble_eq_true rfl) (Nat.le_of_ble_eq_true rfl) ?_
                      refine x_giveC m1_100 (by omega) (by omega) ?_
                      refine r_aload_n hC dX5_burst_123 rfl ?_
                      refine r_aload hC dX5_burst_124 rfl ?_
                      refine r_iload hC dX5_burst_126 rfl ?_
                      refine r_iload_n hC dX5_burst_128 rfl ?_
                      refine r_iload hC dX5_burst_129 rfl ?_
                      refine r_iload hC dX5_burst_131 rfl ?_
                      have m28 := mul_bd (a := w22) (b := z) (A := 39) (B := 1000) (by omega) (by omega) (by omega) (by omega)
                      refine r_imulE hC ((w22 * z)) dX5_burst_133 (by omega) (by unfold inR; omega) ?_
                      refine r_iaddE hC ((v + (w22 * z))) dX5_burst_134 (by omega) (by unfold inR; omega) ?_
                      refine z_inv3 hM dX5_burst_135 vl_RX5_147 rfl rfl rfl (Nat.le_of_ble_eq_true rfl) (Nat.le_of_ble_eq_true rfl) ?_
                      have lb := lin_btw (v := v) (s := z) (i := w22) (m := (m - 1)) (by omega) (by omega) (by omega) (by omega)
                      refine x_placeC (CI.gv m1_100) (by omega) (by omega) (by omega) ?_
                      have u3_135 : (gvM ρ23 l (wr ((ρ23 7 l 10) + 1))) 7 l 3 = (ρ23 7 l 3) := ((gv_7 m1_100 (by omega) (by omega)).trans (rfl))
                      have u6_135 : (gvM ρ23 l (wr ((ρ23 7 l 10) + 1))) 7 l 6 = (ρ23 7 l 6) := ((gv_7 m1_100 (by omega) (by omega)).trans (rfl))
                      have nf_135 : ¬ fuV (gvM ρ23 l (wr ((ρ23 7 l 10) + 1))) l := by unfold fuV; omega
                      refine r_iincE hC ((w22 + 1)) dX5_burst_138 rfl rfl (by omega) (by unfold inR; omega) ?_
                      refine r_goto (tgt := 100) hC dX5_burst_141 rfl ?_
                      refine r_forget hC (ls2 := [some (vR 2 0), some (vI l), some (vI m), some (vI v), some (vI z), some (vR 7 l), some (vI (w22 + 1)), none]) (lsub_some (lsub_some (lsub_some (lsub_some (lsub_some (lsub_some (lsub_some (lsub_none lsub_nil)))))))) ?_
                      exact ih100 ((w22 + 1)) (plM (gvM ρ23 l (wr ((ρ23 7 l 10) + 1))) l (wr ((ρ23 7 l 10) + 1)) (v + (w22 * z))) (by omega) (by omega) (by omega)  (by have q := m0_100; rw [show (m - w22).toNat = (m - (w22 + 1)).toNat + 1 from by omega, bst_s] at q; rw [show v + (w22 + 1) * z = v + w22 * z + z from by rw [Int.add_mul]; omega]; exact q) ((CI.pl (CI.gv m1_100) (by omega) (by omega) nf_135)) (((plM_nx (by unfold PS; omega)).trans ((gv_7 m1_100 (by omega) (by omega)).trans (rfl))).trans m2_100) (by have hp := pl_6 (i := l) (t := (wr ((ρ23 7 l 10) + 1))) (v := (v + (w22 * z))) (CI.gv m1_100 (i := l) (t := (wr ((ρ23 7 l 10) + 1)))) (by omega) (by omega); rw [gv_7 m1_100 (by omega) (by omega)] at hp; omega)
                exact L100 42 (0) σ (by omega) (by omega) (by omega)  (by rw [show (m - 0).toNat = m.toNat from by omega, show v + 0 * z = v from by omega]) (hCI) (rfl) (by omega)
              · refine r_aload hC dX5_burst_83 rfl ?_
                refine z_getI (jz := 6) hM dX5_burst_85 fl_RX5_154 rfl rfl rfl (fun v29 h_v29 o_v29 t_v29 => ?_)
                have w_v29 := ((t_v29 (Or.inl (by simp [Tb]))).trans (rfl)).symm
                subst w_v29
                have q_v29 : 0 ≤ (σ 7 l 6) ∧ (σ 7 l 6) ≤ 121 := o_v29.1 rfl
                refine r_iload_n hC dX5_burst_88 rfl ?_
                refine r_iaddE hC (((σ 7 l 6) + m)) dX5_burst_89 (by omega) (by unfold inR; omega) ?_
                refine r_bipush hC dX5_burst_90 rfl ?_
                refine r_icmp_le (tgt := 97) hC dX5_burst_92 rfl (fun h30 => ?_) (fun h30 => ?_)
                · refine r_iconst hC dX5_burst_97 rfl ?_
                  refine r_istore hC dX5_burst_98 rfl ?_
                  have L100 : ∀ (n100 : Nat) (w31 : Int) (ρ32 : Mm), 0 ≤ w31 ∧ w31 ≤ 40 → ((w31) ≤ m) → 40 - w31 < (n100 : Int) → (bst l z (m - (w31)).toNat (v + (w31) * z) ρ32 = bst l z m.toNat v σ) → (CI ρ32) → (ρ32 7 l 3 = σ 7 l 3) → (σ 7 l 3 ≠ 1 → ρ32 7 l 6 + m - (w31) ≤ 120) → K 100 [some (vR 2 0), some (vI l), some (vI m), some (vI v), some (vI z), some (vR 7 l), some (vI w31), none] [] ρ32 := by
                    intro n100
                    induction n100 with
                    | zero => intro w31 ρ32 f_w31 i0_100 hm  m0_100 m1_100 m2_100 m3_100; omega
                    | succ n100 ih100 =>
                      intro w31 ρ32 f_w31 i0_100 hm100  m0_100 m1_100 m2_100 m3_100
                      refine r_iload hC dX5_burst_100 rfl ?_
                      refine r_iload_n hC dX5_burst_102 rfl ?_
                      refine r_icmp_ge (tgt := 144) hC dX5_burst_103 rfl (fun h33 => ?_) (fun h33 => ?_)
                      · refine r_aload_n hC dX5_burst_144 rfl ?_
                        refine z_inv0 hM dX5_burst_145 vl_RX5_151 rfl rfl rfl (Nat.le_of_ble_eq_true rfl) (Nat.le_of_ble_eq_true rfl) ?_
                        refine x_noteMost ?_
                        refine r_aload hC dX5_burst_148 rfl ?_
                        refine z_getI (jz := 6) hM dX5_burst_150 fl_RX5_154 rfl rfl rfl (fun v34 h_v34 o_v34 t_v34 => ?_)
                        have w_v34 := ((t_v34 (Or.inl (by simp [Tb]))).trans ((ntM_ne (by omega)).trans (rfl))).symm
                        subst w_v34
                        have q_v34 : 0 ≤ (ρ32 7 l 6) ∧ (ρ32 7 l 6) ≤ 121 := o_v34.1 rfl
                        refine y_iret hK rfl dX5_burst_153 ?_
                        have hM : buM σ l m v z = (ntM ρ32) := by
                          have e0 : bst l z m.toNat v σ = ρ32 := by
                            rw [← m0_100, show (m - w31).toNat = 0 from by omega]
                            rfl
                          unfold buM
                          rw [if_pos (by omega), e0]
                        rw [hM] at k
                        have hR : buR σ l m v z = (ρ32 7 l 6) := by
                          unfold buR
                          rw [if_pos (by omega), hM]
                          exact ntM_ne (by omega)
                        rw [hR] at k
                        exact k
                      · refine r_aload hC dX5_burst_106 rfl ?_
                        refine z_getI (jz := 10) hM dX5_burst_108 fl_RX5_157 rfl rfl rfl (fun v35 h_v35 o_v35 t_v35 => ?_)
                        have w_v35 := ((t_v35 (Or.inl (by simp [Tb]))).trans (rfl)).symm
                        subst w_v35
                        refine r_iconst hC dX5_burst_111 rfl ?_
                        refine r_iadd hC dX5_burst_112 ?_
                        have f36 := inR_le (inR_wr ((ρ32 7 l 10) + 1))
                        refine r_istore hC dX5_burst_113 rfl ?_
                        refine r_aload_n hC dX5_burst_115 rfl ?_
                        refine r_aload hC dX5_burst_116 rfl ?_
                        refine r_iload hC dX5_burst_118 rfl ?_
                        refine z_inv2 hM dX5_burst_120 vl_RX5_143 rfl rfl rfl (Nat.le_of_ble_eq_true rfl) (Nat.le_of_ble_eq_true rfl) ?_
                        refine x_giveC m1_100 (by omega) (by omega) ?_
                        refine r_aload_n hC dX5_burst_123 rfl ?_
                        refine r_aload hC dX5_burst_124 rfl ?_
                        refine r_iload hC dX5_burst_126 rfl ?_
                        refine r_iload_n hC dX5_burst_128 rfl ?_
                        refine r_iload hC dX5_burst_129 rfl ?_
                        refine r_iload hC dX5_burst_131 rfl ?_
                        have m37 := mul_bd (a := w31) (b := z) (A := 39) (B := 1000) (by omega) (by omega) (by omega) (by omega)
                        refine r_imulE hC ((w31 * z)) dX5_burst_133 (by omega) (by unfold inR; omega) ?_
                        refine r_iaddE hC ((v + (w31 * z))) dX5_burst_134 (by omega) (by unfold inR; omega) ?_
                        refine z_inv3 hM dX5_burst_135 vl_RX5_147 rfl rfl rfl (Nat.le_of_ble_eq_true rfl) (Nat.le_of_ble_eq_true rfl) ?_
                        have lb := lin_btw (v := v) (s := z) (i := w31) (m := (m - 1)) (by omega) (by omega) (by omega) (by omega)
                        refine x_placeC (CI.gv m1_100) (by omega) (by omega) (by omega) ?_
                        have u3_135 : (gvM ρ32 l (wr ((ρ32 7 l 10) + 1))) 7 l 3 = (ρ32 7 l 3) := ((gv_7 m1_100 (by omega) (by omega)).trans (rfl))
                        have u6_135 : (gvM ρ32 l (wr ((ρ32 7 l 10) + 1))) 7 l 6 = (ρ32 7 l 6) := ((gv_7 m1_100 (by omega) (by omega)).trans (rfl))
                        have nf_135 : ¬ fuV (gvM ρ32 l (wr ((ρ32 7 l 10) + 1))) l := by unfold fuV; omega
                        refine r_iincE hC ((w31 + 1)) dX5_burst_138 rfl rfl (by omega) (by unfold inR; omega) ?_
                        refine r_goto (tgt := 100) hC dX5_burst_141 rfl ?_
                        refine r_forget hC (ls2 := [some (vR 2 0), some (vI l), some (vI m), some (vI v), some (vI z), some (vR 7 l), some (vI (w31 + 1)), none]) (lsub_some (lsub_some (lsub_some (lsub_some (lsub_some (lsub_some (lsub_some (lsub_none lsub_nil)))))))) ?_
                        exact ih100 ((w31 + 1)) (plM (gvM ρ32 l (wr ((ρ32 7 l 10) + 1))) l (wr ((ρ32 7 l 10) + 1)) (v + (w31 * z))) (by omega) (by omega) (by omega)  (by have q := m0_100; rw [show (m - w31).toNat = (m - (w31 + 1)).toNat + 1 from by omega, bst_s] at q; rw [show v + (w31 + 1) * z = v + w31 * z + z from by rw [Int.add_mul]; omega]; exact q) ((CI.pl (CI.gv m1_100) (by omega) (by omega) nf_135)) (((plM_nx (by unfold PS; omega)).trans ((gv_7 m1_100 (by omega) (by omega)).trans (rfl))).trans m2_100) (by have hp := pl_6 (i := l) (t := (wr ((ρ32 7 l 10) + 1))) (v := (v + (w31 * z))) (CI.gv m1_100 (i := l) (t := (wr ((ρ32 7 l 10) + 1)))) (by omega) (by omega); rw [gv_7 m1_100 (by omega) (by omega)] at hp; omega)
                  exact L100 42 (0) σ (by omega) (by omega) (by omega)  (by rw [show (m - 0).toNat = m.toNat from by omega, show v + 0 * z = v from by omega]) (hCI) (rfl) (by omega)
                · refine r_iconst hC dX5_burst_95 rfl ?_
                  refine y_iret hK rfl dX5_burst_96 ?_
                  have hM : buM σ l m v z = σ := by
                    exact if_neg (by omega)
                  rw [hM] at k
                  have hR : buR σ l m v z = (-1) := by
                    exact if_neg (by omega)
                  rw [hR] at k
                  exact k
            · refine r_if_ne (tgt := 74) hC dX5_burst_69 rfl (fun h38 => by omega) (fun h38 => ?_)
              refine r_iconst hC dX5_burst_72 rfl ?_
              refine y_iret hK rfl dX5_burst_73 ?_
              have hM : buM σ l m v z = σ := by
                exact if_neg (by omega)
              rw [hM] at k
              have hR : buR σ l m v z = (-1) := by
                exact if_neg (by omega)
              rw [hR] at k
              exact k
          · refine r_if_eq (tgt := 72) hC dX5_burst_56 rfl (fun h39 => ?_) (fun h39 => by omega)
            refine r_iconst hC dX5_burst_72 rfl ?_
            refine y_iret hK rfl dX5_burst_73 ?_
            have hM : buM σ l m v z = σ := by
              exact if_neg (by omega)
            rw [hM] at k
            have hR : buR σ l m v z = (-1) := by
              exact if_neg (by omega)
            rw [hR] at k
            exact k
        · refine r_if_eq (tgt := 72) hC dX5_burst_42 rfl (fun h40 => ?_) (fun h40 => by omega)
          refine r_iconst hC dX5_burst_72 rfl ?_
          refine y_iret hK rfl dX5_burst_73 ?_
          have hM : buM σ l m v z = σ := by
            exact if_neg (by omega)
          rw [hM] at k
          have hR : buR σ l m v z = (-1) := by
            exact if_neg (by omega)
          rw [hR] at k
          exact k
      · refine r_if_ne (tgt := 38) hC dX5_burst_33 rfl (fun h41 => by omega) (fun h41 => ?_)
        refine r_iconst hC dX5_burst_36 rfl ?_
        refine y_iret hK rfl dX5_burst_37 ?_
        have hM : buM σ l m v z = σ := by
          exact if_neg (by omega)
        rw [hM] at k
        have hR : buR σ l m v z = (-1) := by
          exact if_neg (by omega)
        rw [hR] at k
        exact k
    · refine r_if_eq (tgt := 36) hC dX5_burst_19 rfl (fun h42 => ?_) (fun h42 => by omega)
      refine r_iconst hC dX5_burst_36 rfl ?_
      refine y_iret hK rfl dX5_burst_37 ?_
      have hM : buM σ l m v z = σ := by
        exact if_neg (by omega)
      rw [hM] at k
      have hR : buR σ l m v z = (-1) := by
        exact if_neg (by omega)
      rw [hR] at k
      exact k
  · -- h1
    refine r_astoreN hC dX5_burst_5 rfl ?_
    refine r_aloadN hC dX5_burst_7 rfl ?_
    refine r_ifnullN (tgt := 36) hC dX5_burst_9 rfl ?_
    refine r_iconst hC dX5_burst_36 rfl ?_
    refine y_iret hK rfl dX5_burst_37 ?_
    have hM : buM σ l m v z = σ := by
      exact if_neg (by omega)
    rw [hM] at k
    have hR : buR σ l m v z = (-1) := by
      exact if_neg (by omega)
    rw [hR] at k
    exact k
theorem x_dropC {ec : Bool} {d : Nat} {P : Option Vl → Mm → Prop} {σ : Mm} {i : Int} (hC : CI σ) (b_i : 0 ≤ i ∧ i ≤ 3) (h1 : 1 ≤ σ 7 i 6) (k : P none (dpM σ i)) : WT (true, false, ec) (d + 5) 68 [vR 2 0, vR 7 i] σ P := x_dropOldest ⟨b_i.1, by omega⟩ (hC.1 i b_i.1 b_i.2) (hC.2.1 i b_i.1 (by omega)) h1 (by have := hC.h7 (l := i) b_i.1 (by omega); omega) k
theorem dpN_s {i : Int} {n : Nat} {V : Mm} : dpN i (n + 1) V = dpN i n (dpM V i) := rfl
theorem x_leave {ec : Bool} {d : Nat} {P : Option Vl → Mm → Prop} {σ : Mm} {l m : Int}  (hCI : CI σ)  (k : P (some (vI (leR σ l m))) (leM σ l m)) : WT (true, false, ec) (d + 6) 63 [vR 2 0, vI l, vI m] σ P := by
  refine WT_in fun K hK => ?_
  have hK : StpY (true, false, ec) cX5_leave RX5 (some .int) (WT (true, false, ec) (d + 5)) P K := hK
  have hM := hK.1
  have hC := hK.1.1
  show K 0 [some (vR 2 0), some (vI l), some (vI m), none, none] [] σ
  refine r_rngz hC (fun g0 => ?_)
  have r_l : -2147483648 ≤ l ∧ l ≤ 2147483647 := inR_le (g0 (vI l) (by simp))
  have r_m : -2147483648 ≤ m ∧ m ≤ 2147483647 := inR_le (g0 (vI m) (by simp))
  have h6L : 0 ≤ l → l ≤ 3 → 0 ≤ σ 7 l 6 ∧ σ 7 l 6 ≤ 120 := fun a b => hCI.h7 a (by omega)
  refine r_aload_n hC dX5_leave_0 rfl ?_
  refine r_iload_n hC dX5_leave_1 rfl ?_
  refine z_inv1 hM dX5_leave_2 vl_RX5_123 rfl rfl rfl (Nat.le_of_ble_eq_true rfl) (Nat.le_of_ble_eq_true rfl) ?_
  refine x_openLane (fun h1 => ?_) (fun h1 => ?_)
  · -- h1
    refine r_astore_n hC dX5_leave_5 rfl ?_
    refine r_aload_n hC dX5_leave_6 rfl ?_
    refine r_ifnullR hC dX5_leave_7 ?_
    refine r_iload_n hC dX5_leave_10 rfl ?_
    refine r_iconst hC dX5_leave_11 rfl ?_
    refine r_aload_n hC dX5_leave_12 rfl ?_
    refine z_getI (jz := 6) hM dX5_leave_13 fl_RX5_154 rfl rfl rfl (fun v2 h_v2 o_v2 t_v2 => ?_)
    have w_v2 := ((t_v2 (Or.inl (by simp [Tb]))).trans (rfl)).symm
    subst w_v2
    have q_v2 : 0 ≤ (σ 7 l 6) ∧ (σ 7 l 6) ≤ 121 := o_v2.1 rfl
    refine z_ins3 hM dX5_leave_16 tl_RX5_59 rfl (Nat.le_of_ble_eq_true rfl) (Nat.le_of_ble_eq_true rfl) ?_
    refine s_within (fun h4 => ?_) (fun h4 => ?_)
    · refine r_if_ne (tgt := 24) hC dX5_leave_19 rfl (fun h5 => ?_) (fun h5 => by omega)
      refine r_iconst hC dX5_leave_24 rfl ?_
      refine r_istore hC dX5_leave_25 rfl ?_
      have L27 : ∀ (n27 : Nat) (w6 : Int) (ρ7 : Mm), 0 ≤ w6 ∧ w6 ≤ 121 → ((w6) ≤ m) → 121 - w6 < (n27 : Int) → (dpN l (m - (w6)).toNat ρ7 = dpN l (m).toNat σ) → (CI ρ7) → (ρ7 7 l 6 = σ 7 l 6 - (w6)) → K 27 [some (vR 2 0), some (vI l), some (vI m), some (vR 7 l), some (vI w6)] [] ρ7 := by
        intro n27
        induction n27 with
        | zero => intro w6 ρ7 f_w6 i0_27 hm  m0_27 m1_27 m2_27; omega
        | succ n27 ih27 =>
          intro w6 ρ7 f_w6 i0_27 hm27  m0_27 m1_27 m2_27
          refine r_iload hC dX5_leave_27 rfl ?_
          refine r_iload_n hC dX5_leave_29 rfl ?_
          refine r_icmp_ge (tgt := 44) hC dX5_leave_30 rfl (fun h8 => ?_) (fun h8 => ?_)
          · refine r_aload_n hC dX5_leave_44 rfl ?_
            refine z_getI (jz := 6) hM dX5_leave_45 fl_RX5_154 rfl rfl rfl (fun v9 h_v9 o_v9 t_v9 => ?_)
            have w_v9 := ((t_v9 (Or.inl (by simp [Tb]))).trans (rfl)).symm
            subst w_v9
            have q_v9 : 0 ≤ (ρ7 7 l 6) ∧ (ρ7 7 l 6) ≤ 121 := o_v9.1 rfl
            refine y_iret hK rfl dX5_leave_48 ?_
            have hM : leM σ l m = ρ7 := by
              have e0 : dpN l (m).toNat σ = ρ7 := by
                rw [← m0_27, show (m - w6).toNat = 0 from by omega]
                rfl
              unfold leM
              rw [if_pos (by omega), e0]
            rw [hM] at k
            have hR : leR σ l m = (ρ7 7 l 6) := by
              unfold leR
              rw [if_pos (by omega), hM]
            rw [hR] at k
            exact k
          · refine r_aload_n hC dX5_leave_33 rfl ?_
            refine r_aload_n hC dX5_leave_34 rfl ?_
            refine z_inv1 hM dX5_leave_35 vl_RX5_163 rfl rfl rfl (Nat.le_of_ble_eq_true rfl) (Nat.le_of_ble_eq_true rfl) ?_
            have u1_35 : 1 ≤ ρ7 7 l 6 := by omega
            refine x_dropC m1_27 (by omega) u1_35 ?_
            refine r_iincE hC ((w6 + 1)) dX5_leave_38 rfl rfl (by omega) (by unfold inR; omega) ?_
            refine r_goto (tgt := 27) hC dX5_leave_41 rfl ?_
            exact ih27 ((w6 + 1)) (dpM ρ7 l) (by omega) (by omega) (by omega)  (by have q := m0_27; rw [show (m - w6).toNat = (m - (w6 + 1)).toNat + 1 from by omega, dpN_s] at q; exact q) ((CI.dp m1_27 (by omega) (by omega) u1_35)) (by have q : (dpM ρ7 l) 7 l 6 = ((ρ7 7 l 6) - 1) := (dpM_6); omega)
      exact L27 123 (0) σ (by omega) (by omega) (by omega)  (by rw [show (m - 0).toNat = (m).toNat from by omega]) (hCI) (by omega)
    · refine r_if_ne (tgt := 24) hC dX5_leave_19 rfl (fun h10 => by omega) (fun h10 => ?_)
      refine r_iconst hC dX5_leave_22 rfl ?_
      refine y_iret hK rfl dX5_leave_23 ?_
      have hM : leM σ l m = σ := by
        exact if_neg (by omega)
      rw [hM] at k
      have hR : leR σ l m = (-1) := by
        exact if_neg (by omega)
      rw [hR] at k
      exact k
  · -- h1
    refine r_astoreN_n hC dX5_leave_5 rfl ?_
    refine r_aloadN_n hC dX5_leave_6 rfl ?_
    refine r_ifnullN (tgt := 22) hC dX5_leave_7 rfl ?_
    refine r_iconst hC dX5_leave_22 rfl ?_
    refine y_iret hK rfl dX5_leave_23 ?_
    have hM : leM σ l m = σ := by
      exact if_neg (by omega)
    rw [hM] at k
    have hR : leR σ l m = (-1) := by
      exact if_neg (by omega)
    rw [hR] at k
    exact k
theorem x_until {ec : Bool} {d : Nat} {P : Option Vl → Mm → Prop} {σ : Mm} {l t : Int}  (hCI : CI σ)  (k : P (some (vI (unR σ l t))) (unM σ l t)) : WT (true, false, ec) (d + 6) 64 [vR 2 0, vI l, vI t] σ P := by
  refine WT_in fun K hK => ?_
  have hK : StpY (true, false, ec) cX5_until RX5 (some .int) (WT (true, false, ec) (d + 5)) P K := hK
  have hM := hK.1
  have hC := hK.1.1
  show K 0 [some (vR 2 0), some (vI l), some (vI t), none, none, none] [] σ
  refine r_rngz hC (fun g0 => ?_)
  have r_l : -2147483648 ≤ l ∧ l ≤ 2147483647 := inR_le (g0 (vI l) (by simp))
  have r_t : -2147483648 ≤ t ∧ t ≤ 2147483647 := inR_le (g0 (vI t) (by simp))
  have h6L : 0 ≤ l → l ≤ 3 → 0 ≤ σ 7 l 6 ∧ σ 7 l 6 ≤ 120 := fun a b => hCI.h7 a (by omega)
  refine r_aload_n hC dX5_until_0 rfl ?_
  refine r_iload_n hC dX5_until_1 rfl ?_
  refine z_inv1 hM dX5_until_2 vl_RX5_123 rfl rfl rfl (Nat.le_of_ble_eq_true rfl) (Nat.le_of_ble_eq_true rfl) ?_
  refine x_openLane (fun h1 => ?_) (fun h1 => ?_)
  · -- h1
    refine r_astore_n hC dX5_until_5 rfl ?_
    refine r_aload_n hC dX5_until_6 rfl ?_
    refine r_ifnonnullR (tgt := 12) hC dX5_until_7 rfl ?_
    refine r_aload_n hC dX5_until_12 rfl ?_
    refine r_iload_n hC dX5_until_13 rfl ?_
    refine r_i2l hC dX5_until_14 ?_
    refine z_inv1 hM dX5_until_15 vl_RX5_167 rfl rfl rfl (Nat.le_of_ble_eq_true rfl) (Nat.le_of_ble_eq_true rfl) ?_
    refine x_heldUntil (by omega) (fun h2 => ?_)
    refine r_istore hC dX5_until_18 rfl ?_
    refine r_iconst hC dX5_until_20 rfl ?_
    refine r_istore hC dX5_until_21 rfl ?_
    have L23 : ∀ (n23 : Nat) (w3 : Int) (ρ4 : Mm), 0 ≤ w3 ∧ w3 ≤ 121 → ((w3) ≤ hU σ l t) → 121 - w3 < (n23 : Int) → (dpN l (hU σ l t - (w3)).toNat ρ4 = dpN l (hU σ l t).toNat σ) → (CI ρ4) → (ρ4 7 l 6 = σ 7 l 6 - (w3)) → K 23 [some (vR 2 0), some (vI l), some (vI t), some (vR 7 l), some (vI (hU σ l t)), some (vI w3)] [] ρ4 := by
      intro n23
      induction n23 with
      | zero => intro w3 ρ4 f_w3 i0_23 hm  m0_23 m1_23 m2_23; omega
      | succ n23 ih23 =>
        intro w3 ρ4 f_w3 i0_23 hm23  m0_23 m1_23 m2_23
        refine r_iload hC dX5_until_23 rfl ?_
        refine r_iload hC dX5_until_25 rfl ?_
        refine r_icmp_ge (tgt := 41) hC dX5_until_27 rfl (fun h5 => ?_) (fun h5 => ?_)
        · refine r_iload hC dX5_until_41 rfl ?_
          refine y_iret hK rfl dX5_until_43 ?_
          have hM : unM σ l t = ρ4 := by
            have e0 : dpN l (hU σ l t).toNat σ = ρ4 := by
              rw [← m0_23, show (hU σ l t - w3).toNat = 0 from by omega]
              rfl
            unfold unM
            rw [if_pos (by omega), e0]
          rw [hM] at k
          have hR : unR σ l t = (hU σ l t) := by
            unfold unR
            rw [if_pos (by omega)]
          rw [hR] at k
          exact k
        · refine r_aload_n hC dX5_until_30 rfl ?_
          refine r_aload_n hC dX5_until_31 rfl ?_
          refine z_inv1 hM dX5_until_32 vl_RX5_163 rfl rfl rfl (Nat.le_of_ble_eq_true rfl) (Nat.le_of_ble_eq_true rfl) ?_
          have u1_32 : 1 ≤ ρ4 7 l 6 := by omega
          refine x_dropC m1_23 (by omega) u1_32 ?_
          refine r_iincE hC ((w3 + 1)) dX5_until_35 rfl rfl (by omega) (by unfold inR; omega) ?_
          refine r_goto (tgt := 23) hC dX5_until_38 rfl ?_
          exact ih23 ((w3 + 1)) (dpM ρ4 l) (by omega) (by omega) (by omega)  (by have q := m0_23; rw [show (hU σ l t - w3).toNat = (hU σ l t - (w3 + 1)).toNat + 1 from by omega, dpN_s] at q; exact q) ((CI.dp m1_23 (by omega) (by omega) u1_32)) (by have q : (dpM ρ4 l) 7 l 6 = ((ρ4 7 l 6) - 1) := (dpM_6); omega)
    exact L23 123 (0) σ (by omega) (by omega) (by omega)  (by rw [show (hU σ l t - 0).toNat = (hU σ l t).toNat from by omega]) (hCI) (by omega)
  · -- h1
    refine r_astoreN_n hC dX5_until_5 rfl ?_
    refine r_aloadN_n hC dX5_until_6 rfl ?_
    refine r_ifnonnullN hC dX5_until_7 ?_
    refine r_iconst hC dX5_until_10 rfl ?_
    refine y_iret hK rfl dX5_until_11 ?_
    have hM : unM σ l t = σ := by
      exact if_neg (by omega)
    rw [hM] at k
    have hR : unR σ l t = (-1) := by
      exact if_neg (by omega)
    rw [hR] at k
    exact k
theorem x_take {ec : Bool} {d : Nat} {P : Option Vl → Mm → Prop} {σ : Mm} {l x : Int}  (hCI : CI σ)  (k : P (some (vI (taR σ l x))) (taM σ l x)) : WT (true, false, ec) (d + 6) 65 [vR 2 0, vI l, vI x] σ P := by
  refine WT_in fun K hK => ?_
  have hK : StpY (true, false, ec) cX5_take RX5 (some .int) (WT (true, false, ec) (d + 5)) P K := hK
  have hM := hK.1
  have hC := hK.1.1
  show K 0 [some (vR 2 0), some (vI l), some (vI x), none, none] [] σ
  refine r_rngz hC (fun g0 => ?_)
  have r_l : -2147483648 ≤ l ∧ l ≤ 2147483647 := inR_le (g0 (vI l) (by simp))
  have r_x : -2147483648 ≤ x ∧ x ≤ 2147483647 := inR_le (g0 (vI x) (by simp))
  have h6L : 0 ≤ l → l ≤ 3 → 0 ≤ σ 7 l 6 ∧ σ 7 l 6 ≤ 120 := fun a b => hCI.h7 a (by omega)
  refine r_aload_n hC dX5_take_0 rfl ?_
  refine r_iload_n hC dX5_take_1 rfl ?_
  refine r_iload_n hC dX5_take_2 rfl ?_
  refine z_inv2 hM dX5_take_3 vl_RX5_171 rfl rfl rfl (Nat.le_of_ble_eq_true rfl) (Nat.le_of_ble_eq_true rfl) ?_
  refine x_laneHolding (fun h1 => ?_) (fun h1 => ?_)
  · refine r_astore_n hC dX5_take_6 rfl ?_
    refine r_aload_n hC dX5_take_7 rfl ?_
    refine r_ifnonnullR (tgt := 14) hC dX5_take_8 rfl ?_
    refine r_aload_n hC dX5_take_14 rfl ?_
    refine z_getR hM dX5_take_15 fl_RX5_176 rfl rfl (vld_of (n := 7) rfl (by omega) (by omega)) ?_
    refine r_iload_n hC dX5_take_18 rfl ?_
    refine z_iald hM dX5_take_19 rfl (by omega) (by omega) (fun v2 h_v2 o_v2 t_v2 => ?_)
    have w_v2 := ((t_v2 (Or.inl (by simp [Tb]))).trans (rfl)).symm
    subst w_v2
    have q_v2 : -1000 ≤ (σ 9 l x) ∧ (σ 9 l x) ≤ 1000 := o_v2
    refine r_istore hC dX5_take_20 rfl ?_
    refine r_aload_n hC dX5_take_22 rfl ?_
    refine r_iload_n hC dX5_take_23 rfl ?_
    refine z_inv1 hM dX5_take_24 vl_RX5_179 rfl rfl rfl (Nat.le_of_ble_eq_true rfl) (Nat.le_of_ble_eq_true rfl) ?_
    have z6_24 : σ 7 l 6 = (σ 7 l 6) := (rfl)
    refine x_remove (by omega) (by omega) (by omega) ?_
    refine r_aload_n hC dX5_take_27 rfl ?_
    refine r_aload_n hC dX5_take_28 rfl ?_
    refine z_inv1 hM dX5_take_29 vl_RX5_182 rfl rfl rfl (Nat.le_of_ble_eq_true rfl) (Nat.le_of_ble_eq_true rfl) ?_
    refine x_layAnewS (by omega) (((remM_ne (by omega)).trans (rfl)).trans (hCI.1 l (by omega) (by omega))) ?_
    rw [show (remM σ l x) 7 l 6 = ((σ 7 l 6) - 1) from (remM_6.trans (congrArg (· - 1) (rfl)))]
    refine r_iload hC dX5_take_32 rfl ?_
    refine y_iret hK rfl dX5_take_34 ?_
    have hM : taM σ l x = (rgM (lyM (remM σ l x) l ((σ 7 l 6) - 1)) l) := by
      exact if_pos (by omega)
    rw [hM] at k
    have hR : taR σ l x = (σ 9 l x) := by
      exact if_pos (by omega)
    rw [hR] at k
    exact k
  · refine r_astoreN_n hC dX5_take_6 rfl ?_
    refine r_aloadN_n hC dX5_take_7 rfl ?_
    refine r_ifnonnullN hC dX5_take_8 ?_
    refine r_ldc hC dX5_take_11 co_RX5_175 rfl ?_
    refine y_iret hK rfl dX5_take_13 ?_
    have hM : taM σ l x = σ := by
      exact if_neg (by omega)
    rw [hM] at k
    have hR : taR σ l x = (-2147483648) := by
      exact if_neg (by omega)
    rw [hR] at k
    exact k
theorem x_alter {ec : Bool} {d : Nat} {P : Option Vl → Mm → Prop} {σ : Mm} {l x v : Int}  (hCI : CI σ)  (k : P (some (vI (alR σ l x v))) (alM σ l x v)) : WT (true, false, ec) (d + 6) 66 [vR 2 0, vI l, vI x, vI v] σ P := by
  refine WT_in fun K hK => ?_
  have hK : StpY (true, false, ec) cX5_alter RX5 (some .boolean) (WT (true, false, ec) (d + 5)) P K := hK
  have hM := hK.1
  have hC := hK.1.1
  show K 0 [some (vR 2 0), some (vI l), some (vI x), some (vI v), none] [] σ
  refine r_rngz hC (fun g0 => ?_)
  have r_l : -2147483648 ≤ l ∧ l ≤ 2147483647 := inR_le (g0 (vI l) (by simp))
  have r_x : -2147483648 ≤ x ∧ x ≤ 2147483647 := inR_le (g0 (vI x) (by simp))
  have r_v : -2147483648 ≤ v ∧ v ≤ 2147483647 := inR_le (g0 (vI v) (by simp))
  have h6L : 0 ≤ l → l ≤ 3 → 0 ≤ σ 7 l 6 ∧ σ 7 l 6 ≤ 120 := fun a b => hCI.h7 a (by omega)
  refine r_aload_n hC dX5_alter_0 rfl ?_
  refine r_iload_n hC dX5_alter_1 rfl ?_
  refine r_iload_n hC dX5_alter_2 rfl ?_
  refine z_inv2 hM dX5_alter_3 vl_RX5_171 rfl rfl rfl (Nat.le_of_ble_eq_true rfl) (Nat.le_of_ble_eq_true rfl) ?_
  refine x_laneHolding (fun h1 => ?_) (fun h1 => ?_)
  · refine r_astore hC dX5_alter_6 rfl ?_
    refine r_aload hC dX5_alter_8 rfl ?_
    refine r_ifnullR hC dX5_alter_10 ?_
    refine r_iload_n hC dX5_alter_13 rfl ?_
    refine z_ins1 hM dX5_alter_14 tl_RX5_130 rfl (Nat.le_of_ble_eq_true rfl) (Nat.le_of_ble_eq_true rfl) ?_
    refine s_isValue (fun h3 => ?_) (fun h3 => ?_)
    · refine r_if_ne (tgt := 22) hC dX5_alter_17 rfl (fun h4 => ?_) (fun h4 => by omega)
      refine r_aload hC dX5_alter_22 rfl ?_
      refine z_getR hM dX5_alter_24 fl_RX5_176 rfl rfl (vld_of (n := 7) rfl (by omega) (by omega)) ?_
      refine r_iload_n hC dX5_alter_27 rfl ?_
      refine r_iload_n hC dX5_alter_28 rfl ?_
      refine z_iastT hM dX5_alter_29 rfl (by omega) (by omega) ⟨Or.inr (by simp [DL]), Or.inr (by simp [DF])⟩ (by first | trivial | (simp only [Okv]; omega) | (simp [Okv]; try omega)) ?_
      refine r_aload_n hC dX5_alter_30 rfl ?_
      refine r_aload hC dX5_alter_31 rfl ?_
      refine z_inv1 hM dX5_alter_33 vl_RX5_182 rfl rfl rfl (Nat.le_of_ble_eq_true rfl) (Nat.le_of_ble_eq_true rfl) ?_
      refine x_layAnewS (by omega) (((mu_ne (by omega)).trans (rfl)).trans (hCI.1 l (by omega) (by omega))) ?_
      rw [show (mu σ 9 l x v) 7 l 6 = (σ 7 l 6) from ((mu_ne (by omega)).trans (rfl))]
      refine r_iconst hC dX5_alter_36 rfl ?_
      refine y_zret hK rfl dX5_alter_37 (by omega) ?_
      have hM : alM σ l x v = (rgM (lyM (mu σ 9 l x v) l (σ 7 l 6)) l) := by
        exact if_pos (by omega)
      rw [hM] at k
      have hR : alR σ l x v = 1 := by
        exact if_pos (by omega)
      rw [hR] at k
      exact k
    · refine r_if_ne (tgt := 22) hC dX5_alter_17 rfl (fun h5 => by omega) (fun h5 => ?_)
      refine r_iconst hC dX5_alter_20 rfl ?_
      refine y_zret hK rfl dX5_alter_21 (by omega) ?_
      have hM : alM σ l x v = σ := by
        exact if_neg (by omega)
      rw [hM] at k
      have hR : alR σ l x v = 0 := by
        exact if_neg (by omega)
      rw [hR] at k
      exact k
  · refine r_astoreN hC dX5_alter_6 rfl ?_
    refine r_aloadN hC dX5_alter_8 rfl ?_
    refine r_ifnullN (tgt := 20) hC dX5_alter_10 rfl ?_
    refine r_iconst hC dX5_alter_20 rfl ?_
    refine y_zret hK rfl dX5_alter_21 (by omega) ?_
    have hM : alM σ l x v = σ := by
      exact if_neg (by omega)
    rw [hM] at k
    have hR : alR σ l x v = 0 := by
      exact if_neg (by omega)
    rw [hR] at k
    exact k
