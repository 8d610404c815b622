-- B: rings
theorem noM_eq {V ρ : Mm} {w z t : Int} (g : ∀ (c : Nat) (x y : Int), ¬ (c = 12 ∧ x = w ∧ 3 ≤ y ∧ y ≤ 5) → ρ c x y = V c x y) (h3 : ρ 12 w 3 = z) (h4 : ρ 12 w 4 = if z = 1 ∧ V 12 w 3 = 0 then wr (V 12 w 4 + 1) else V 12 w 4) (h5 : ρ 12 w 5 = if z = 1 ∧ V 12 w 3 = 0 then t else V 12 w 5) : noM V w z t = ρ := by
  funext c x y
  by_cases hq : c = 12 ∧ x = w ∧ 3 ≤ y ∧ y ≤ 5
  · obtain ⟨rfl, rfl, hy⟩ := hq
    unfold noM
    rw [if_pos ⟨rfl, rfl⟩]
    rcases (by omega : y = 3 ∨ y = 4 ∨ y = 5) with rfl | rfl | rfl
    · rw [if_pos rfl, h3]
    · rw [if_neg (by omega), if_pos rfl, h4]
    · rw [if_neg (by omega), if_neg (by omega), if_pos rfl, h5]
  · rw [noM_ne hq, g c x y hq]
theorem x_note {e : Ev} {d : Nat} {P : Option Vl → Mm → Prop} {σ : Mm} {i z t : Int} (b_i : 0 ≤ i ∧ i ≤ 7) (b_z : 0 ≤ z ∧ z ≤ 1)  (k : P none (noM σ i z t)) : WT e (d + 1) 44 [vR 12 i, vI z, vI t] σ P := by
  refine WT_in fun K hK => ?_
  have hK : StpY e cX4_note RX4 (none) (WT e (d + 0)) P K := hK
  have hM := hK.1
  have hC := hK.1.1
  show K 0 [some (vR 12 i), some (vI z), some (vI t)] [] σ
  refine r_rngz hC (fun g0 => ?_)
  have r_t : -2147483648 ≤ t ∧ t ≤ 2147483647 := inR_le (g0 (vI t) (by simp))
  refine r_iload_n hC dX4_note_0 rfl ?_
  refine r_if_eq (tgt := 26) hC dX4_note_1 rfl (fun h1 => ?_) (fun h1 => ?_)
  · refine r_aload_n hC dX4_note_26 rfl ?_
    refine r_iload_n hC dX4_note_27 rfl ?_
    refine z_putZT (jz := 3) hM dX4_note_28 fw_RX4_21 rfl rfl rfl (by omega) ⟨Or.inr (by simp [DL]), Or.inr (by simp [DF])⟩ (by first | trivial | (simp only [Okv]; omega) | (simp [Okv]; try omega)) ?_
    refine y_vret hK rfl dX4_note_31 ?_
    have hm : noM σ i z t = (mu σ 12 i 3 z) := noM_eq (fun c x y h => (mu_ne (by omega)).trans (rfl)) ((mu_self _ _ _ _ _).trans (by first | rfl | exact (if_pos (by omega)).symm | exact (if_neg (by omega)).symm)) (((mu_ne (by omega)).trans (rfl)).trans (by first | rfl | exact (if_pos (by omega)).symm | exact (if_neg (by omega)).symm)) (((mu_ne (by omega)).trans (rfl)).trans (by first | rfl | exact (if_pos (by omega)).symm | exact (if_neg (by omega)).symm))
    rw [hm] at k
    exact k
  · refine r_aload_n hC dX4_note_4 rfl ?_
    refine z_getI (jz := 3) hM dX4_note_5 fl_RX4_21 rfl rfl rfl (fun v2 h_v2 o_v2 t_v2 => ?_)
    have w_v2 := ((t_v2 (Or.inl (by simp [Tb]))).trans (rfl)).symm
    subst w_v2
    refine r_if_ne (tgt := 26) hC dX4_note_8 rfl (fun h3 => ?_) (fun h3 => ?_)
    · refine r_aload_n hC dX4_note_26 rfl ?_
      refine r_iload_n hC dX4_note_27 rfl ?_
      refine z_putZT (jz := 3) hM dX4_note_28 fw_RX4_21 rfl rfl rfl (by omega) ⟨Or.inr (by simp [DL]), Or.inr (by simp [DF])⟩ (by first | trivial | (simp only [Okv]; omega) | (simp [Okv]; try omega)) ?_
      refine y_vret hK rfl dX4_note_31 ?_
      have hm : noM σ i z t = (mu σ 12 i 3 z) := noM_eq (fun c x y h => (mu_ne (by omega)).trans (rfl)) ((mu_self _ _ _ _ _).trans (by first | rfl | exact (if_pos (by omega)).symm | exact (if_neg (by omega)).symm)) (((mu_ne (by omega)).trans (rfl)).trans (by first | rfl | exact (if_pos (by omega)).symm | exact (if_neg (by omega)).symm)) (((mu_ne (by omega)).trans (rfl)).trans (by first | rfl | exact (if_pos (by omega)).symm | exact (if_neg (by omega)).symm))
      rw [hm] at k
      exact k
    · refine r_aload_n hC dX4_note_11 rfl ?_
      refine r_dup hC dX4_note_12 rfl ?_
      refine z_getI (jz := 4) hM dX4_note_13 fl_RX4_25 rfl rfl rfl (fun v4 h_v4 o_v4 t_v4 => ?_)
      have w_v4 := ((t_v4 (Or.inl (by simp [Tb]))).trans (rfl)).symm
      subst w_v4
      refine r_iconst hC dX4_note_16 rfl ?_
      refine r_iadd hC dX4_note_17 ?_
      have f5 := inR_le (inR_wr ((σ 12 i 4) + 1))
      refine z_putIT (jz := 4) hM dX4_note_18 fw_RX4_25 rfl rfl rfl ⟨Or.inr (by simp [DL]), Or.inr (by simp [DF])⟩ (by first | trivial | (simp only [Okv]; omega) | (simp [Okv]; try omega)) ?_
      refine r_aload_n hC dX4_note_21 rfl ?_
      refine r_iload_n hC dX4_note_22 rfl ?_
      refine z_putIT (jz := 5) hM dX4_note_23 fw_RX4_28 rfl rfl rfl ⟨Or.inr (by simp [DL]), Or.inr (by simp [DF])⟩ (by first | trivial | (simp only [Okv]; omega) | (simp [Okv]; try omega)) ?_
      refine r_aload_n hC dX4_note_26 rfl ?_
      refine r_iload_n hC dX4_note_27 rfl ?_
      refine z_putZT (jz := 3) hM dX4_note_28 fw_RX4_21 rfl rfl rfl (by omega) ⟨Or.inr (by simp [DL]), Or.inr (by simp [DF])⟩ (by first | trivial | (simp only [Okv]; omega) | (simp [Okv]; try omega)) ?_
      refine y_vret hK rfl dX4_note_31 ?_
      have hm : noM σ i z t = (mu (mu (mu σ 12 i 4 (wr ((σ 12 i 4) + 1))) 12 i 5 t) 12 i 3 z) := noM_eq (fun c x y h => (mu_ne (by omega)).trans ((mu_ne (by omega)).trans ((mu_ne (by omega)).trans (rfl)))) ((mu_self _ _ _ _ _).trans (by first | rfl | exact (if_pos (by omega)).symm | exact (if_neg (by omega)).symm)) (((mu_ne (by omega)).trans ((mu_ne (by omega)).trans (mu_self _ _ _ _ _))).trans (by first | rfl | exact (if_pos (by omega)).symm | exact (if_neg (by omega)).symm)) (((mu_ne (by omega)).trans (mu_self _ _ _ _ _)).trans (by first | rfl | exact (if_pos (by omega)).symm | exact (if_neg (by omega)).symm))
      rw [hm] at k
      exact k
theorem x_isWatched {e : Ev} {d : Nat} {P : Option Vl → Mm → Prop} {σ : Mm} {l : Int}   (k1 : P (some (vI 1)) σ) (k0 : (∀ j : Int, 0 ≤ j → j < 8 → σ 12 j 0 ≠ l) → P (some (vI 0)) σ) : WT e (d + 1) 103 [vR 2 0, vI l] σ P := by
  refine WT_in fun K hK => ?_
  have hK : StpY e cX5_isWatched RX5 (some .boolean) (WT e (d + 0)) P K := hK
  have hM := hK.1
  have hC := hK.1.1
  show K 0 [some (vR 2 0), some (vI l), none] [] σ
  refine r_rngz hC (fun g0 => ?_)
  have r_l : -2147483648 ≤ l ∧ l ≤ 2147483647 := inR_le (g0 (vI l) (by simp))
  refine r_iconst hC dX5_isWatched_0 rfl ?_
  refine r_istore_n hC dX5_isWatched_1 rfl ?_
  have L2 : ∀ (n2 : Nat) (w1 : Int), 0 ≤ w1 ∧ w1 ≤ 8 → (∀ j : Int, 0 ≤ j → j < (w1) → σ 12 j 0 ≠ l) → 8 - w1 < (n2 : Int) → K 2 [some (vR 2 0), some (vI l), some (vI w1)] [] σ := by
    intro n2
    induction n2 with
    | zero => intro w1  f_w1 i0_2 hm  ; omega
    | succ n2 ih2 =>
      intro w1  f_w1 i0_2 hm2  
      refine r_iload_n hC dX5_isWatched_2 rfl ?_
      refine r_bipush hC dX5_isWatched_3 rfl ?_
      refine r_icmp_ge (tgt := 29) hC dX5_isWatched_5 rfl (fun h2 => ?_) (fun h2 => ?_)
      · refine r_iconst hC dX5_isWatched_29 rfl ?_
        refine y_zret hK rfl dX5_isWatched_30 (by omega) ?_
        exact k0 (fun j h0 h1 => i0_2 j h0 (by omega))
      · refine r_aload_n hC dX5_isWatched_8 rfl ?_
        refine z_getR hM dX5_isWatched_9 fl_RX5_32 rfl rfl (vld_of (n := 1) rfl (by omega) (by omega)) ?_
        refine r_iload_n hC dX5_isWatched_12 rfl ?_
        refine z_aald hM dX5_isWatched_13 rfl (by decide) (by omega) (by omega) (vld_of (n := 8) rfl (by omega) (by omega)) ?_
        refine z_getI (jz := 0) hM dX5_isWatched_14 fl_RX5_321 rfl rfl rfl (fun v3 h_v3 o_v3 t_v3 => ?_)
        have w_v3 := ((t_v3 (Or.inl (by simp [Tb]))).trans (rfl)).symm
        subst w_v3
        refine r_iload_n hC dX5_isWatched_17 rfl ?_
        refine r_icmp_ne (tgt := 23) hC dX5_isWatched_18 rfl (fun h4 => ?_) (fun h4 => ?_)
        · refine r_iincE hC ((w1 + 1)) dX5_isWatched_23 rfl rfl (by omega) (by unfold inR; omega) ?_
          refine r_goto (tgt := 2) hC dX5_isWatched_26 rfl ?_
          exact ih2 ((w1 + 1))  (by omega) (by first | (intro j h0 h1; omega) | (intro j h0 h1; rcases (by omega : j < w1 ∨ j = w1) with h | h; exact i0_2 j h0 h; subst h; assumption)) (by omega)  
        · refine r_iconst hC dX5_isWatched_21 rfl ?_
          refine y_zret hK rfl dX5_isWatched_22 (by omega) ?_
          exact k1
  exact L2 10 (0)  (by omega) (by first | (intro j h0 h1; omega) | (intro j h0 h1; rcases (by omega : j < w1 ∨ j = w1) with h | h; exact i0_2 j h0 h; subst h; assumption)) (by omega)  
theorem x_reaches {eb : Bool} {u : Int → Int} {n : Nat} {o : Int} {d : Nat} {P : Option Vl → Mm → Prop} {σ : Mm} {w b : Int}  (b_o : 0 ≤ o ∧ o ≤ 9) (hn : n ≤ 242) (hF : FRc σ o u n)  (k1 : ((cm (σ 16 0) (σ 15 0) o u n w) ≠ NO ∧ b ≤ (cm (σ 16 0) (σ 15 0) o u n w)) → P (some (vI 1)) σ) (k0 : ¬ ((cm (σ 16 0) (σ 15 0) o u n w) ≠ NO ∧ b ≤ (cm (σ 16 0) (σ 15 0) o u n w)) → P (some (vI 0)) σ) : WT (true, true, eb) (d + 2) 11 [vR 14 0, vI w, vI b] σ P := by
  refine WT_in fun K hK => ?_
  have hK : StpY (true, true, eb) cX1_reaches RX1 (some .boolean) (WT (true, true, eb) (d + 1)) P K := hK
  have hM := hK.1
  have hC := hK.1.1
  show K 0 [some (vR 14 0), some (vI w), some (vI b), none] [] σ
  refine r_rngz hC (fun g0 => ?_)
  have r_w : -2147483648 ≤ w ∧ w ≤ 2147483647 := inR_le (g0 (vI w) (by simp))
  have r_b : -2147483648 ≤ b ∧ b ≤ 2147483647 := inR_le (g0 (vI b) (by simp))
  refine r_aload_n hC dX1_reaches_0 rfl ?_
  refine r_iload_n hC dX1_reaches_1 rfl ?_
  refine z_inv1 hM dX1_reaches_2 vl_RX1_44 rfl rfl rfl (Nat.le_of_ble_eq_true rfl) (Nat.le_of_ble_eq_true rfl) ?_
  refine x_number b_o hF.1 hF.2.1 hn hF ?_
  refine r_istore_n hC dX1_reaches_5 rfl ?_
  refine r_iload_n hC dX1_reaches_6 rfl ?_
  refine r_ldc hC dX1_reaches_7 co_RX1_40 rfl ?_
  refine r_icmp_eq (tgt := 21) hC dX1_reaches_9 rfl (fun h1 => ?_) (fun h1 => ?_)
  · refine r_iconst hC dX1_reaches_21 rfl ?_
    refine y_zret hK rfl dX1_reaches_22 (by omega) ?_
    exact k0 (by unfold NO; omega)
  · refine r_iload_n hC dX1_reaches_12 rfl ?_
    refine r_iload_n hC dX1_reaches_13 rfl ?_
    refine r_icmp_lt (tgt := 21) hC dX1_reaches_14 rfl (fun h2 => ?_) (fun h2 => ?_)
    · refine r_iconst hC dX1_reaches_21 rfl ?_
      refine y_zret hK rfl dX1_reaches_22 (by omega) ?_
      exact k0 (by unfold NO; omega)
    · refine r_iconst hC dX1_reaches_17 rfl ?_
      refine r_goto (tgt := 22) hC dX1_reaches_18 rfl ?_
      refine y_zret hK rfl dX1_reaches_22 (by omega) ?_
      exact k1 (by unfold NO; omega)
theorem x_ring_S {eb : Bool} {d : Nat} {P : Option Vl → Mm → Prop} {σ : Mm} {i : Int} (b_i : 0 ≤ i ∧ i ≤ 6) (hn0 : σ 7 i 0 = i) (hI : InF σ)  (k : ∀ ρ : Mm, (∀ (c : Nat) (x y : Int), ¬ (c = 17 ∧ x = 0 ∨ c = 14 ∧ x = 0 ∧ (y = 5 ∨ y = 6 ∨ y = 7)) → ρ c x y = rgM σ i c x y) → InF ρ → P none ρ) : WT (true, true, eb) (d + 4) 102 [vR 2 0, vR 7 i] σ P := by
  refine WT_in fun K hK => ?_
  have hK : StpY (true, true, eb) cX5_ringWatches RX5 (none) (WT (true, true, eb) (d + 3)) P K := hK
  have hM := hK.1
  have hC := hK.1.1
  show K 0 [some (vR 2 0), some (vR 7 i), none, none] [] σ
  refine z_ok hM (fun hok => ?_)
  refine r_aload_n hC dX5_ringWatches_0 rfl ?_
  refine r_aload_n hC dX5_ringWatches_1 rfl ?_
  refine z_getI (jz := 0) hM dX5_ringWatches_2 fl_RX5_212 rfl rfl rfl (fun v1 h_v1 o_v1 t_v1 => ?_)
  have w_v1 := t_v1 (Or.inl (by simp [Tb]))
  subst w_v1
  refine z_inv1 hM dX5_ringWatches_5 vl_RX5_324 rfl rfl rfl (Nat.le_of_ble_eq_true rfl) (Nat.le_of_ble_eq_true rfl) ?_
  refine x_isWatched ?_ (fun hnw => ?_)
  · refine r_if_ne (tgt := 12) hC dX5_ringWatches_8 rfl (fun h2 => ?_) (fun h2 => by omega)
    have b6 := (hok 7 i 6 (Or.inl (by simp [Tb]))).1 rfl
    refine r_aload_n hC dX5_ringWatches_12 rfl ?_
    refine z_getR hM dX5_ringWatches_13 fl_RX5_40 rfl rfl (vld_of (n := 1) rfl (by omega) (by omega)) ?_
    refine r_aload_n hC dX5_ringWatches_16 rfl ?_
    refine z_getI (jz := 2) hM dX5_ringWatches_17 fl_RX5_98 rfl rfl rfl (fun v3 h_v3 o_v3 t_v3 => ?_)
    have w_v3 := t_v3 (Or.inl (by simp [Tb]))
    subst w_v3
    have q_v3 : 0 ≤ (σ 7 i 2) ∧ (σ 7 i 2) ≤ 9 := o_v3.2.2 rfl
    refine z_inv1 hM dX5_ringWatches_20 vl_RX5_251 rfl rfl rfl (Nat.le_of_ble_eq_true rfl) (Nat.le_of_ble_eq_true rfl) ?_
    refine x_begin (by omega) rfl rfl rfl rfl rfl rfl rfl rfl rfl rfl (fun ρ4 g_ρ4 z_ρ4 => ?_)
    have t12_ρ4 : ∀ w y : Int, ρ4 12 w y = σ 12 w y := fun w y => g_ρ4 12 w y (by omega)
    refine r_iconst hC dX5_ringWatches_23 rfl ?_
    refine r_istore_n hC dX5_ringWatches_24 rfl ?_
    have L25 : ∀ (n25 : Nat) (w5 : Int) (ρ6 : Mm), 0 ≤ w5 ∧ w5 ≤ 121 → ((w5) ≤ σ 7 i 6) → 121 - w5 < (n25 : Int) → Gx (fun c x y => c = 17 ∧ x = 0 ∨ c = 14 ∧ x = 0 ∧ (y = 5 ∨ y = 6 ∨ y = 7) ∨ c = 12 ∧ 3 ≤ y ∧ y ≤ 5) σ ρ6 → (FRc ρ6 (σ 7 i 2) (σ 9 i) ((w5)).toNat) → (∀ w y : Int, ρ6 12 w y = σ 12 w y) → K 25 [some (vR 2 0), some (vR 7 i), some (vI w5), none] [] ρ6 := by
      intro n25
      induction n25 with
      | zero => intro w5 ρ6 f_w5 i0_25 hm g_ρ6 m0_25 m1_25; omega
      | succ n25 ih25 =>
        intro w5 ρ6 f_w5 i0_25 hm25 g_ρ6 m0_25 m1_25
        have q6_25 := (g_ρ6) 7 i 6 (by omega)
        refine r_iload_n hC dX5_ringWatches_25 rfl ?_
        refine r_aload_n hC dX5_ringWatches_26 rfl ?_
        refine z_getI (jz := 6) hM dX5_ringWatches_27 fl_RX5_154 rfl rfl rfl (fun v7 h_v7 o_v7 t_v7 => ?_)
        have w_v7 := t_v7 (Or.inl (by simp [Tb]))
        subst w_v7
        have q_v7 : 0 ≤ (ρ6 7 i 6) ∧ (ρ6 7 i 6) ≤ 121 := o_v7.1 rfl
        refine r_icmp_ge (tgt := 52) hC dX5_ringWatches_30 rfl (fun h8 => ?_) (fun h8 => ?_)
        · refine r_iconst hC dX5_ringWatches_52 rfl ?_
          refine r_istore_n hC dX5_ringWatches_53 rfl ?_
          have L54 : ∀ (n54 : Nat) (w9 : Int) (ρ10 : Mm), 0 ≤ w9 ∧ w9 ≤ 8 → 8 - w9 < (n54 : Int) → Gx (fun c x y => c = 17 ∧ x = 0 ∨ c = 14 ∧ x = 0 ∧ (y = 5 ∨ y = 6 ∨ y = 7) ∨ c = 12 ∧ 3 ≤ y ∧ y ≤ 5) σ ρ10 → (FRc ρ10 (σ 7 i 2) (σ 9 i) (σ 7 i 6).toNat) → (∀ x y : Int, ρ10 12 x y = rgK σ i (w9) 12 x y) → K 54 [some (vR 2 0), some (vR 7 i), some (vI w9), none] [] ρ10 := by
            intro n54
            induction n54 with
            | zero => intro w9 ρ10 f_w9  hm g_ρ10 m0_54 m1_54; omega
            | succ n54 ih54 =>
              intro w9 ρ10 f_w9  hm54 g_ρ10 m0_54 m1_54
              refine r_iload_n hC dX5_ringWatches_54 rfl ?_
              refine r_bipush hC dX5_ringWatches_55 rfl ?_
              refine r_icmp_ge (tgt := 107) hC dX5_ringWatches_57 rfl (fun h11 => ?_) (fun h11 => ?_)
              · refine y_vret hK rfl dX5_ringWatches_107 ?_
                refine k _ (fun c x y hc => ?_) (m0_54.inF (fun j h0 h1 => by rw [(g_ρ10) 15 0 j (by omega)]; exact hok 15 0 j (Or.inl trivial)))
                have h12 : ∀ x y : Int, ρ10 12 x y = rgM σ i 12 x y := fun x y => by rw [m1_54 x y, rgK_8 (by omega)]
                by_cases e12 : c = 12
                · subst e12; exact h12 x y
                · rw [rgM_ne (by omega)]; exact (g_ρ10) c x y (by omega)
              · refine r_aload_n hC dX5_ringWatches_60 rfl ?_
                refine z_getR hM dX5_ringWatches_61 fl_RX5_32 rfl rfl (vld_of (n := 1) rfl (by omega) (by omega)) ?_
                refine r_iload_n hC dX5_ringWatches_64 rfl ?_
                refine z_aald hM dX5_ringWatches_65 rfl (by decide) (by omega) (by omega) (vld_of (n := 8) rfl (by omega) (by omega)) ?_
                refine r_astore_n hC dX5_ringWatches_66 rfl ?_
                refine r_aload_n hC dX5_ringWatches_67 rfl ?_
                refine z_getI (jz := 0) hM dX5_ringWatches_68 fl_RX5_321 rfl rfl rfl (fun v12 h_v12 o_v12 t_v12 => ?_)
                have w_v12 := t_v12 (Or.inl (by simp [Tb]))
                subst w_v12
                refine r_aload_n hC dX5_ringWatches_71 rfl ?_
                refine z_getI (jz := 0) hM dX5_ringWatches_72 fl_RX5_212 rfl rfl rfl (fun v13 h_v13 o_v13 t_v13 => ?_)
                have w_v13 := t_v13 (Or.inl (by simp [Tb]))
                subst w_v13
                refine r_icmp_ne (tgt := 101) hC dX5_ringWatches_75 rfl (fun h14 => ?_) (fun h14 => ?_)
                · refine r_iincE hC ((w9 + 1)) dX5_ringWatches_101 rfl rfl (by omega) (by unfold inR; omega) ?_
                  refine r_goto (tgt := 54) hC dX5_ringWatches_104 rfl ?_
                  refine r_forget hC (ls2 := [some (vR 2 0), some (vR 7 i), some (vI (w9 + 1)), none]) (lsub_some (lsub_some (lsub_some (lsub_none lsub_nil)))) ?_
                  exact ih54 ((w9 + 1)) ρ10 (by omega)  (by omega) (g_ρ10) (m0_54) (fun x y => (m1_54 x y).trans (rgK_no (by have := (m1_54 w9 0).trans (rgK_lo (by omega)); have := (g_ρ10) 7 i 0 (by omega); omega) 12 x y).symm)
                · refine r_aload_n hC dX5_ringWatches_78 rfl ?_
                  refine r_aload_n hC dX5_ringWatches_79 rfl ?_
                  refine z_getR hM dX5_ringWatches_80 fl_RX5_40 rfl rfl (vld_of (n := 1) rfl (by omega) (by omega)) ?_
                  refine r_aload_n hC dX5_ringWatches_83 rfl ?_
                  refine z_getI (jz := 1) hM dX5_ringWatches_84 fl_RX5_327 rfl rfl rfl (fun v15 h_v15 o_v15 t_v15 => ?_)
                  have w_v15 := t_v15 (Or.inl (by simp [Tb]))
                  subst w_v15
                  refine r_aload_n hC dX5_ringWatches_87 rfl ?_
                  refine z_getI (jz := 2) hM dX5_ringWatches_88 fl_RX5_328 rfl rfl rfl (fun v16 h_v16 o_v16 t_v16 => ?_)
                  have w_v16 := t_v16 (Or.inl (by simp [Tb]))
                  subst w_v16
                  refine z_inv2 hM dX5_ringWatches_91 vl_RX5_256 rfl rfl rfl (Nat.le_of_ble_eq_true rfl) (Nat.le_of_ble_eq_true rfl) ?_
                  have e16 : ρ10 16 0 = σ 16 0 := funext fun j => (g_ρ10) 16 0 j (by omega)
                  have e15 : ρ10 15 0 = σ 15 0 := funext fun j => (g_ρ10) 15 0 j (by omega)
                  have eq1 : ρ10 12 w9 1 = σ 12 w9 1 := (m1_54 _ _).trans (rgK_lo (by omega))
                  have eq2 : ρ10 12 w9 2 = σ 12 w9 2 := (m1_54 _ _).trans (rgK_lo (by omega))
                  refine x_reaches (o := σ 7 i 2) (u := (σ 9 i)) (n := (σ 7 i 6).toNat) (by omega) (by omega) m0_54 (fun h17 => ?_) (fun h17 => ?_)
                  · have hz : (1 : Int) = isR σ i w9 := by
                      rw [e16, e15, eq1, eq2] at h17
                      exact (if_pos h17).symm
                    refine r_aload_n hC dX5_ringWatches_94 rfl ?_
                    refine z_getI (jz := 10) hM dX5_ringWatches_95 fl_RX5_157 rfl rfl rfl (fun v18 h_v18 o_v18 t_v18 => ?_)
                    have w_v18 := t_v18 (Or.inl (by simp [Tb]))
                    subst w_v18
                    refine z_inv2 hM dX5_ringWatches_98 vl_RX5_331 rfl rfl rfl (Nat.le_of_ble_eq_true rfl) (Nat.le_of_ble_eq_true rfl) ?_
                    refine x_note (by omega) (by omega) ?_
                    obtain ⟨ρ19, e_ρ19⟩ : ∃ ρ, ρ = noM ρ10 w9 1 (ρ10 7 i 10) := ⟨_, rfl⟩
                    rw [← e_ρ19]
                    have g_ρ19 : Gx (fun c x y => c = 12 ∧ 3 ≤ y ∧ y ≤ 5) ρ10 ρ19 := fun c x y h => by rw [e_ρ19]; exact noM_ne (by omega)
                    have r_ρ19 : ∀ x y : Int, ρ19 12 x y = rgK σ i (w9 + 1) 12 x y := fun x y => by rw [e_ρ19]; exact rgK_yes (by omega) (by have := (m1_54 w9 0).trans (rgK_lo (by omega)); have := (g_ρ10) 7 i 0 (by omega); omega) m1_54 hz ((g_ρ10) 7 i 10 (by omega)) x y
                    have f_ρ19 : FRc ρ19 (σ 7 i 2) (σ 9 i) (σ 7 i 6).toNat := m0_54.ext (fun j _ => g_ρ19 14 0 j (by omega)) (fun j => g_ρ19 17 0 j (by omega)) (funext fun j => g_ρ19 16 0 j (by omega)) (funext fun j => g_ρ19 15 0 j (by omega))
                    refine r_iincE hC ((w9 + 1)) dX5_ringWatches_101 rfl rfl (by omega) (by unfold inR; omega) ?_
                    refine r_goto (tgt := 54) hC dX5_ringWatches_104 rfl ?_
                    refine r_forget hC (ls2 := [some (vR 2 0), some (vR 7 i), some (vI (w9 + 1)), none]) (lsub_some (lsub_some (lsub_some (lsub_none lsub_nil)))) ?_
                    exact ih54 ((w9 + 1)) ρ19 (by omega)  (by omega) (Gx.gx (g_ρ10) g_ρ19 (by intro c x y h; omega)) (f_ρ19) (r_ρ19)
                  · have hz : (0 : Int) = isR σ i w9 := by
                      rw [e16, e15, eq1, eq2] at h17
                      exact (if_neg h17).symm
                    refine r_aload_n hC dX5_ringWatches_94 rfl ?_
                    refine z_getI (jz := 10) hM dX5_ringWatches_95 fl_RX5_157 rfl rfl rfl (fun v20 h_v20 o_v20 t_v20 => ?_)
                    have w_v20 := t_v20 (Or.inl (by simp [Tb]))
                    subst w_v20
                    refine z_inv2 hM dX5_ringWatches_98 vl_RX5_331 rfl rfl rfl (Nat.le_of_ble_eq_true rfl) (Nat.le_of_ble_eq_true rfl) ?_
                    refine x_note (by omega) (by omega) ?_
                    obtain ⟨ρ21, e_ρ21⟩ : ∃ ρ, ρ = noM ρ10 w9 0 (ρ10 7 i 10) := ⟨_, rfl⟩
                    rw [← e_ρ21]
                    have g_ρ21 : Gx (fun c x y => c = 12 ∧ 3 ≤ y ∧ y ≤ 5) ρ10 ρ21 := fun c x y h => by rw [e_ρ21]; exact noM_ne (by omega)
                    have r_ρ21 : ∀ x y : Int, ρ21 12 x y = rgK σ i (w9 + 1) 12 x y := fun x y => by rw [e_ρ21]; exact rgK_yes (by omega) (by have := (m1_54 w9 0).trans (rgK_lo (by omega)); have := (g_ρ10) 7 i 0 (by omega); omega) m1_54 hz ((g_ρ10) 7 i 10 (by omega)) x y
                    have f_ρ21 : FRc ρ21 (σ 7 i 2) (σ 9 i) (σ 7 i 6).toNat := m0_54.ext (fun j _ => g_ρ21 14 0 j (by omega)) (fun j => g_ρ21 17 0 j (by omega)) (funext fun j => g_ρ21 16 0 j (by omega)) (funext fun j => g_ρ21 15 0 j (by omega))
                    refine r_iincE hC ((w9 + 1)) dX5_ringWatches_101 rfl rfl (by omega) (by unfold inR; omega) ?_
                    refine r_goto (tgt := 54) hC dX5_ringWatches_104 rfl ?_
                    refine r_forget hC (ls2 := [some (vR 2 0), some (vR 7 i), some (vI (w9 + 1)), none]) (lsub_some (lsub_some (lsub_some (lsub_none lsub_nil)))) ?_
                    exact ih54 ((w9 + 1)) ρ21 (by omega)  (by omega) (Gx.gx (g_ρ10) g_ρ21 (by intro c x y h; omega)) (f_ρ21) (r_ρ21)
          exact L54 10 (0) ρ6 (by omega)  (by omega) (g_ρ6) (by have h := m0_25; rw [show (w5).toNat = (σ 7 i 6).toNat from by have := (g_ρ6) 7 i 6 (by omega); omega] at h; exact h) (fun x y => (m1_25 x y).trans (rgK_0 rfl 12 x y).symm)
        · refine r_aload_n hC dX5_ringWatches_33 rfl ?_
          refine z_getR hM dX5_ringWatches_34 fl_RX5_40 rfl rfl (vld_of (n := 1) rfl (by omega) (by omega)) ?_
          refine r_aload_n hC dX5_ringWatches_37 rfl ?_
          refine z_getR hM dX5_ringWatches_38 fl_RX5_176 rfl rfl (vld_of (n := 7) rfl (by omega) (by omega)) ?_
          refine r_iload_n hC dX5_ringWatches_41 rfl ?_
          refine z_iald hM dX5_ringWatches_42 rfl (by omega) (by omega) (fun v22 h_v22 o_v22 t_v22 => ?_)
          have w_v22 := t_v22 (Or.inl trivial)
          subst w_v22
          have q_v22 : -1000 ≤ (ρ6 9 i w5) ∧ (ρ6 9 i w5) ≤ 1000 := o_v22
          refine z_inv1 hM dX5_ringWatches_43 vl_RX5_253 rfl rfl rfl (Nat.le_of_ble_eq_true rfl) (Nat.le_of_ble_eq_true rfl) ?_
          refine x_append2 (u := (σ 9 i)) (n := (w5).toNat) (by rw [show (((w5).toNat : Nat) : Int) = w5 from by omega]; exact (g_ρ6) 9 i _ (by omega)) (by omega) (by omega) (by omega) (fun j h0 h1 => hok 9 i _ (Or.inl trivial)) m0_25 (fun j h0 h1 => by rw [(g_ρ6) 15 0 j (by omega)]; exact hok 15 0 j (Or.inl trivial)) (fun ρ23 g_ρ23 r_ρ23 => ?_)
          have t12_ρ23 : ∀ w y : Int, ρ23 12 w y = σ 12 w y := fun w y => (g_ρ23 12 w y (by omega)).trans (m1_25 w y)
          refine r_iincE hC ((w5 + 1)) dX5_ringWatches_46 rfl rfl (by omega) (by unfold inR; omega) ?_
          refine r_goto (tgt := 25) hC dX5_ringWatches_49 rfl ?_
          exact ih25 ((w5 + 1)) ρ23 (by omega) (by omega) (by omega) (Gx.gx (g_ρ6) g_ρ23 (by intro c x y h; omega)) (by rw [show ((w5 + 1)).toNat = ((w5 + 1) - 1).toNat + 1 from by omega]; have h := r_ρ23; rw [show (w5 + 1) - 1 = w5 from by omega]; exact h) (t12_ρ23)
    exact L25 123 (0) ρ4 (by omega) (by omega) (by omega) (Gx.gx (Gx.rf) g_ρ4 (by intro c x y h; omega)) (by have h := z_ρ4 (σ 9 i); exact h) (t12_ρ4)
  · refine r_if_ne (tgt := 12) hC dX5_ringWatches_8 rfl (fun h24 => by omega) (fun h24 => ?_)
    refine y_vret hK rfl dX5_ringWatches_11 ?_
    exact k σ (fun c x y _ => by rw [rgM_id (fun w h0 h1 => by have := hnw w h0 h1; omega)]) hI
