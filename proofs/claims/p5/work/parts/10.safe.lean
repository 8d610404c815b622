-- the class: what moves, with the lanes tracked
theorem s_maxx {e : Ev} {d : Nat} {P : Option Vl → Mm → Prop} {σ : Mm} {a b : Int}   (k : ∀ r : Int, (a ≤ r ∧ b ≤ r ∧ (r = a ∨ r = b)) → P (some (vI r)) σ) : WT e (d + 1) 264 [vI a, vI b] σ P := by
  refine WT_in fun K hK => ?_
  have hK : StpY e cJ9_max_7cf53 RJ9 (some .int) (WT e (d + 0)) P K := hK
  have hM := hK.1
  have hC := hK.1.1
  show K 0 [some (vI a), some (vI b)] [] σ
  refine r_rngz hC (fun g0 => ?_)
  have r_a : -2147483648 ≤ a ∧ a ≤ 2147483647 := inR_le (g0 (vI a) (by simp))
  have r_b : -2147483648 ≤ b ∧ b ≤ 2147483647 := inR_le (g0 (vI b) (by simp))
  refine r_iload_n hC dJ9_max_7cf53_0 rfl ?_
  refine r_iload_n hC dJ9_max_7cf53_1 rfl ?_
  refine r_icmp_lt (tgt := 9) hC dJ9_max_7cf53_2 rfl (fun h1 => ?_) (fun h1 => ?_)
  · refine r_iload_n hC dJ9_max_7cf53_9 rfl ?_
    refine y_iret hK rfl dJ9_max_7cf53_10 ?_
    exact k _ (by omega)
  · refine r_iload_n hC dJ9_max_7cf53_5 rfl ?_
    refine r_goto (tgt := 10) hC dJ9_max_7cf53_6 rfl ?_
    refine y_iret hK rfl dJ9_max_7cf53_10 ?_
    exact k _ (by omega)
theorem s_minx {e : Ev} {d : Nat} {P : Option Vl → Mm → Prop} {σ : Mm} {a b : Int}   (k : ∀ r : Int, (r ≤ a ∧ r ≤ b ∧ (r = a ∨ r = b)) → P (some (vI r)) σ) : WT e (d + 1) 265 [vI a, vI b] σ P := by
  refine WT_in fun K hK => ?_
  have hK : StpY e cJ9_min_7cf53 RJ9 (some .int) (WT e (d + 0)) P K := hK
  have hM := hK.1
  have hC := hK.1.1
  show K 0 [some (vI a), some (vI b)] [] σ
  refine r_rngz hC (fun g0 => ?_)
  have r_a : -2147483648 ≤ a ∧ a ≤ 2147483647 := inR_le (g0 (vI a) (by simp))
  have r_b : -2147483648 ≤ b ∧ b ≤ 2147483647 := inR_le (g0 (vI b) (by simp))
  refine r_iload_n hC dJ9_min_7cf53_0 rfl ?_
  refine r_iload_n hC dJ9_min_7cf53_1 rfl ?_
  refine r_icmp_gt (tgt := 9) hC dJ9_min_7cf53_2 rfl (fun h1 => ?_) (fun h1 => ?_)
  · refine r_iload_n hC dJ9_min_7cf53_9 rfl ?_
    refine y_iret hK rfl dJ9_min_7cf53_10 ?_
    exact k _ (by omega)
  · refine r_iload_n hC dJ9_min_7cf53_5 rfl ?_
    refine r_goto (tgt := 10) hC dJ9_min_7cf53_6 rfl ?_
    refine y_iret hK rfl dJ9_min_7cf53_10 ?_
    exact k _ (by omega)
theorem s_shift {e : Ev} {d : Nat} {P : Option Vl → Mm → Prop} {σ : Mm} {i f z m : Int} (b_i : 0 ≤ i ∧ i ≤ 6) (b_f : 0 ≤ f ∧ f ≤ 121) (b_z : 0 ≤ z ∧ z ≤ 121) (b_m : 0 ≤ m ∧ m ≤ 121) (h1 : f + m ≤ 121) (h2 : z + m ≤ 121)  (k : P none σ) : WT e (d + 1) 36 [vR 7 i, vI f, vI z, vI m] σ P := by
  refine WT_in fun K hK => ?_
  have hK : StpY e cX2_shift RX2 (none) (WT e (d + 0)) P K := hK
  have hM := hK.1
  have hC := hK.1.1
  show K 0 [some (vR 7 i), some (vI f), some (vI z), some (vI m)] [] σ
  refine r_aload_n hC dX2_shift_0 rfl ?_
  refine z_getR hM dX2_shift_1 fl_RX2_15 rfl rfl (vld_of (n := 7) rfl (by omega) (by omega)) ?_
  refine r_iload_n hC dX2_shift_4 rfl ?_
  refine r_aload_n hC dX2_shift_5 rfl ?_
  refine z_getR hM dX2_shift_6 fl_RX2_15 rfl rfl (vld_of (n := 7) rfl (by omega) (by omega)) ?_
  refine r_iload_n hC dX2_shift_9 rfl ?_
  refine r_iload_n hC dX2_shift_10 rfl ?_
  refine z_copyU hM dX2_shift_11 ac_RX2_72 rfl rfl (by omega) (by omega) (by omega) (by omega) (by omega) (Nat.le_of_ble_eq_true rfl) (fun _ => ⟨by simp [Un, Tb, DL, DF, DR], fun _ _ h => by simp [Okv] at *; try exact h⟩) ?_
  refine r_aload_n hC dX2_shift_14 rfl ?_
  refine z_getR hM dX2_shift_15 fl_RX2_19 rfl rfl (vld_of (n := 7) rfl (by omega) (by omega)) ?_
  refine r_iload_n hC dX2_shift_18 rfl ?_
  refine r_aload_n hC dX2_shift_19 rfl ?_
  refine z_getR hM dX2_shift_20 fl_RX2_19 rfl rfl (vld_of (n := 7) rfl (by omega) (by omega)) ?_
  refine r_iload_n hC dX2_shift_23 rfl ?_
  refine r_iload_n hC dX2_shift_24 rfl ?_
  refine z_copyU hM dX2_shift_25 ac_RX2_72 rfl rfl (by omega) (by omega) (by omega) (by omega) (by omega) (Nat.le_of_ble_eq_true rfl) (fun _ => ⟨by simp [Un, Tb, DL, DF, DR], fun _ _ h => by simp [Okv] at *; try exact h⟩) ?_
  refine r_aload_n hC dX2_shift_28 rfl ?_
  refine z_getR hM dX2_shift_29 fl_RX2_22 rfl rfl (vld_of (n := 7) rfl (by omega) (by omega)) ?_
  refine r_iload_n hC dX2_shift_32 rfl ?_
  refine r_aload_n hC dX2_shift_33 rfl ?_
  refine z_getR hM dX2_shift_34 fl_RX2_22 rfl rfl (vld_of (n := 7) rfl (by omega) (by omega)) ?_
  refine r_iload_n hC dX2_shift_37 rfl ?_
  refine r_iload_n hC dX2_shift_38 rfl ?_
  refine z_copyU hM dX2_shift_39 ac_RX2_72 rfl rfl (by omega) (by omega) (by omega) (by omega) (by omega) (Nat.le_of_ble_eq_true rfl) (fun _ => ⟨by simp [Un, Tb, DL, DF, DR], fun _ _ h => by simp [Okv] at *; try exact h⟩) ?_
  refine y_vret hK rfl dX2_shift_42 ?_
  exact k
theorem s_insertS {eb : Bool} {d : Nat} {P : Option Vl → Mm → Prop} {σ : Mm} {i x t v h a : Int} (b_i : 0 ≤ i ∧ i ≤ 6) (b_x : 0 ≤ x ∧ x ≤ 120) (b_v : -1000 ≤ v ∧ v ≤ 1000) (b_h : 0 ≤ h ∧ h ≤ 120) (qg0 : σ 7 i 6 = h) (qg1 : σ 7 i 14 = a) (hx : x ≤ h)  (k : ∀ ρ : Mm, Gx (fun c x y => c = 7 ∧ x = i ∧ (y = 6 ∨ y = 14)) σ ρ → ρ 7 i 6 = h + 1 → P none ρ) : WT (true, eb, true) (d + 2) 34 [vR 7 i, vI x, vI t, vI v] σ P := by
  refine WT_in fun K hK => ?_
  have hK : StpY (true, eb, true) cX2_insert RX2 (none) (WT (true, eb, true) (d + 1)) P K := hK
  have hM := hK.1
  have hC := hK.1.1
  show K 0 [some (vR 7 i), some (vI x), some (vI t), some (vI v)] [] σ
  refine r_rngz hC (fun g0 => ?_)
  have r_t : -2147483648 ≤ t ∧ t ≤ 2147483647 := inR_le (g0 (vI t) (by simp))
  refine r_aload_n hC dX2_insert_0 rfl ?_
  refine r_aload_n hC dX2_insert_1 rfl ?_
  refine z_getI (jz := 6) hM dX2_insert_2 fl_RX2_48 rfl rfl rfl (fun v1 h_v1 o_v1 t_v1 => ?_)
  have e_v1 : h = v1 := ((t_v1 (Or.inr (Or.inl ⟨rfl, Or.inr (Or.inr rfl)⟩))).trans qg0).symm
  subst e_v1
  refine r_iload_n hC dX2_insert_5 rfl ?_
  refine r_isubE hC ((h - x)) dX2_insert_6 (by omega) (by unfold inR; omega) ?_
  refine z_putIG (jz := 14) hM dX2_insert_7 fw_RX2_63 rfl rfl rfl ⟨Or.inl rfl, Or.inr (by simp [DF])⟩ (by simp [Okv]; try omega) (fun ρ2 a_ρ2 q_ρ2 => ?_)
  refine r_aload_n hC dX2_insert_10 rfl ?_
  refine r_iload_n hC dX2_insert_11 rfl ?_
  refine r_iload_n hC dX2_insert_12 rfl ?_
  refine r_iconst hC dX2_insert_13 rfl ?_
  refine r_iaddE hC ((x + 1)) dX2_insert_14 (by omega) (by unfold inR; omega) ?_
  refine r_aload_n hC dX2_insert_15 rfl ?_
  refine z_getI (jz := 14) hM dX2_insert_16 fl_RX2_63 rfl rfl rfl (fun v3 h_v3 o_v3 t_v3 => ?_)
  have e_v3 : (h - x) = v3 := ((t_v3 (Or.inr (Or.inr (Or.inr ⟨rfl, rfl⟩)))).trans q_ρ2).symm
  subst e_v3
  refine z_inv3 hM dX2_insert_19 vl_RX2_89 rfl rfl rfl (Nat.le_of_ble_eq_true rfl) (Nat.le_of_ble_eq_true rfl) ?_
  refine s_shift (by omega) (by omega) (by omega) (by omega) (by omega) (by omega) ?_
  refine r_aload_n hC dX2_insert_22 rfl ?_
  refine z_getR hM dX2_insert_23 fl_RX2_15 rfl rfl (vld_of (n := 7) rfl (by omega) (by omega)) ?_
  refine r_iload_n hC dX2_insert_26 rfl ?_
  refine r_iload_n hC dX2_insert_27 rfl ?_
  refine z_iastU hM dX2_insert_28 rfl (by omega) (by omega) (by simp [Un, Tb, DL, DF, DR]) (by simp [Okv]) ?_
  refine r_aload_n hC dX2_insert_29 rfl ?_
  refine z_getR hM dX2_insert_30 fl_RX2_19 rfl rfl (vld_of (n := 7) rfl (by omega) (by omega)) ?_
  refine r_iload_n hC dX2_insert_33 rfl ?_
  refine r_iload_n hC dX2_insert_34 rfl ?_
  refine z_iastU hM dX2_insert_35 rfl (by omega) (by omega) (by simp [Un, Tb, DL, DF, DR]) (by simp [Okv]; try omega) ?_
  refine r_aload_n hC dX2_insert_36 rfl ?_
  refine z_getR hM dX2_insert_37 fl_RX2_22 rfl rfl (vld_of (n := 7) rfl (by omega) (by omega)) ?_
  refine r_iload_n hC dX2_insert_40 rfl ?_
  refine r_aload_n hC dX2_insert_41 rfl ?_
  refine z_getI (jz := 12) hM dX2_insert_42 fl_RX2_57 rfl rfl rfl (fun v4 h_v4 o_v4 t_v4 => ?_)
  refine z_iastU hM dX2_insert_45 rfl (by omega) (by omega) (by simp [Un, Tb, DL, DF, DR]) (by simp [Okv]) ?_
  refine r_aload_n hC dX2_insert_46 rfl ?_
  refine r_dup hC dX2_insert_47 rfl ?_
  refine z_getI (jz := 6) hM dX2_insert_48 fl_RX2_48 rfl rfl rfl (fun v5 h_v5 o_v5 t_v5 => ?_)
  have e_v5 : h = v5 := ((t_v5 (Or.inr (Or.inl ⟨rfl, Or.inr (Or.inr rfl)⟩))).trans ((a_ρ2 _ _ _ (by omega)).trans qg0)).symm
  subst e_v5
  refine r_iconst hC dX2_insert_51 rfl ?_
  refine r_iaddE hC ((h + 1)) dX2_insert_52 (by omega) (by unfold inR; omega) ?_
  refine z_putIG (jz := 6) hM dX2_insert_53 fw_RX2_48 rfl rfl rfl ⟨Or.inl rfl, Or.inr (by simp [DF])⟩ (by simp [Okv]; try omega) (fun ρ6 a_ρ6 q_ρ6 => ?_)
  refine r_aload_n hC dX2_insert_56 rfl ?_
  refine r_dup hC dX2_insert_57 rfl ?_
  refine z_getI (jz := 12) hM dX2_insert_58 fl_RX2_57 rfl rfl rfl (fun v7 h_v7 o_v7 t_v7 => ?_)
  refine r_iconst hC dX2_insert_61 rfl ?_
  refine r_iaddG hC dX2_insert_62 (fun v8 h_v8 => ?_)
  refine z_putIU (jz := 12) hM dX2_insert_63 fw_RX2_57 rfl rfl rfl (by simp [Un, Tb, DL, DF, DR]) (by simp [Okv]) ?_
  refine r_aload_n hC dX2_insert_66 rfl ?_
  refine r_aload_n hC dX2_insert_67 rfl ?_
  refine z_getI (jz := 10) hM dX2_insert_68 fl_RX2_51 rfl rfl rfl (fun v9 h_v9 o_v9 t_v9 => ?_)
  refine r_iload_n hC dX2_insert_71 rfl ?_
  refine z_ins2 hM dX2_insert_72 tl_RX2_93 rfl (Nat.le_of_ble_eq_true rfl) (Nat.le_of_ble_eq_true rfl) ?_
  refine s_maxx (fun v10 h_v10 => ?_)
  refine z_putIU (jz := 10) hM dX2_insert_75 fw_RX2_51 rfl rfl rfl (by simp [Un, Tb, DL, DF, DR]) (by simp [Okv]) ?_
  refine y_vret hK rfl dX2_insert_78 ?_
  exact k _ (((Gx.rf).al a_ρ2 (by first | simp | omega)).al a_ρ6 (by first | simp | omega)) (by have hq := q_ρ6; omega)
theorem s_insert {eb : Bool} {d : Nat} {P : Option Vl → Mm → Prop} {σ : Mm} {i x t v h : Int} (b_i : 0 ≤ i ∧ i ≤ 6) (b_x : 0 ≤ x ∧ x ≤ 120) (b_v : -1000 ≤ v ∧ v ≤ 1000) (b_h : 0 ≤ h ∧ h ≤ 120) (qg0 : σ 7 i 6 = h) (hx : x ≤ h) (k : ∀ ρ : Mm, Al1 σ ρ 7 i 6 → ρ 7 i 6 = h + 1 → P none ρ) : WT (true, eb, false) (d + 2) 34 [vR 7 i, vI x, vI t, vI v] σ P := by
  refine WT_loose (true, eb, true) (fun h => h) (fun h => h) (fun c j q => ?_) (fun ρ hL hF hT hO => ?_)
  · rcases q with q | q | q | q
    · exact Or.inl q
    · exact Or.inr (Or.inl q)
    · exact Or.inr (Or.inr (Or.inl q))
    · cases q.1
  · refine s_insertS (a := ρ 7 i 14) b_i b_x b_v b_h ((hT 7 i 6 (Or.inr (Or.inl ⟨rfl, Or.inr (Or.inr rfl)⟩))).trans qg0) rfl hx (fun ρ2 g q => ⟨mu σ 7 i 6 (h + 1), k _ (fun _ _ _ h => mu_ne h) (mu_self _ _ _ _ _), fun h => Or.inl h, fun h => Or.inl h, fun c y j hq => ?_⟩)
    by_cases hc : c = 7 ∧ y = i ∧ j = 6
    · obtain ⟨rfl, rfl, rfl⟩ := hc
      rw [q, mu_self]
    · rw [mu_ne hc, g c y j ?_]
      · exact hT c y j hq
      · rintro ⟨rfl, rfl, h6 | h9⟩
        · exact hc ⟨rfl, rfl, h6⟩
        · subst h9
          rcases hq with hq | hq | hq | hq
          · simp [Tb] at hq
          · simp [DL] at hq
          · simp [DF] at hq
          · cases hq.1
theorem s_remove {eb : Bool} {d : Nat} {P : Option Vl → Mm → Prop} {σ : Mm} {i x h : Int} (b_i : 0 ≤ i ∧ i ≤ 6) (b_x : 0 ≤ x ∧ x ≤ 120) (b_h : 1 ≤ h ∧ h ≤ 121) (qg0 : σ 7 i 6 = h) (hx : x < h)  (k : ∀ ρ : Mm, Al1 σ ρ 7 i 6 → ρ 7 i 6 = h - 1 → P none ρ) : WT (true, eb, false) (d + 2) 35 [vR 7 i, vI x] σ P := by
  refine WT_in fun K hK => ?_
  have hK : StpY (true, eb, false) cX2_remove RX2 (none) (WT (true, eb, false) (d + 1)) P K := hK
  have hM := hK.1
  have hC := hK.1.1
  show K 0 [some (vR 7 i), some (vI x)] [] σ
  refine r_aload_n hC dX2_remove_0 rfl ?_
  refine r_iload_n hC dX2_remove_1 rfl ?_
  refine r_iconst hC dX2_remove_2 rfl ?_
  refine r_iaddE hC ((x + 1)) dX2_remove_3 (by omega) (by unfold inR; omega) ?_
  refine r_iload_n hC dX2_remove_4 rfl ?_
  refine r_aload_n hC dX2_remove_5 rfl ?_
  refine z_getI (jz := 6) hM dX2_remove_6 fl_RX2_48 rfl rfl rfl (fun v1 h_v1 o_v1 t_v1 => ?_)
  have e_v1 : h = v1 := ((t_v1 (Or.inr (Or.inl ⟨rfl, Or.inr (Or.inr rfl)⟩))).trans qg0).symm
  subst e_v1
  refine r_iload_n hC dX2_remove_9 rfl ?_
  refine r_isubE hC ((h - x)) dX2_remove_10 (by omega) (by unfold inR; omega) ?_
  refine r_iconst hC dX2_remove_11 rfl ?_
  refine r_isubE hC (((h - x) - 1)) dX2_remove_12 (by omega) (by unfold inR; omega) ?_
  refine z_inv3 hM dX2_remove_13 vl_RX2_89 rfl rfl rfl (Nat.le_of_ble_eq_true rfl) (Nat.le_of_ble_eq_true rfl) ?_
  refine s_shift (by omega) (by omega) (by omega) (by omega) (by omega) (by omega) ?_
  refine r_aload_n hC dX2_remove_16 rfl ?_
  refine r_dup hC dX2_remove_17 rfl ?_
  refine z_getI (jz := 6) hM dX2_remove_18 fl_RX2_48 rfl rfl rfl (fun v2 h_v2 o_v2 t_v2 => ?_)
  have e_v2 : h = v2 := ((t_v2 (Or.inr (Or.inl ⟨rfl, Or.inr (Or.inr rfl)⟩))).trans qg0).symm
  subst e_v2
  refine r_iconst hC dX2_remove_21 rfl ?_
  refine r_isubE hC ((h - 1)) dX2_remove_22 (by omega) (by unfold inR; omega) ?_
  refine z_putIG (jz := 6) hM dX2_remove_23 fw_RX2_48 rfl rfl rfl ⟨Or.inl rfl, Or.inr (by simp [DF])⟩ (by simp [Okv]; try omega) (fun ρ3 a_ρ3 q_ρ3 => ?_)
  refine y_vret hK rfl dX2_remove_26 ?_
  exact k _ ((Gx.rf).al a_ρ3 (by first | simp | omega)) (by have hq := q_ρ3; omega)
theorem s_dropOldest {d : Nat} {P : Option Vl → Mm → Prop} {σ : Mm} {i h : Int} (b_i : 0 ≤ i ∧ i ≤ 6) (b_h : 1 ≤ h ∧ h ≤ 121) (qg0 : σ 7 i 6 = h)  (k : ∀ ρ : Mm, Al1 σ ρ 7 i 6 → ρ 7 i 6 = h - 1 → P none ρ) : WT (true, false, false) (d + 5) 68 [vR 2 0, vR 7 i] σ P := by
  refine WT_in fun K hK => ?_
  have hK : StpY (true, false, false) cX5_dropOldest RX5 (none) (WT (true, false, false) (d + 4)) P K := hK
  have hM := hK.1
  have hC := hK.1.1
  show K 0 [some (vR 2 0), some (vR 7 i)] [] σ
  refine r_aload_n hC dX5_dropOldest_0 rfl ?_
  refine r_iconst hC dX5_dropOldest_1 rfl ?_
  refine z_inv1 hM dX5_dropOldest_2 vl_RX5_179 rfl rfl rfl (Nat.le_of_ble_eq_true rfl) (Nat.le_of_ble_eq_true rfl) ?_
  refine s_remove (h := h) (by omega) (by omega) (by omega) (by have hq := qg0; omega) (by omega) (fun ρ1 a_ρ1 q_ρ1 => ?_)
  refine r_aload_n hC dX5_dropOldest_5 rfl ?_
  refine r_dup hC dX5_dropOldest_6 rfl ?_
  refine z_getI (jz := 13) hM dX5_dropOldest_7 fl_RX5_204 rfl rfl rfl (fun v2 h_v2 o_v2 t_v2 => ?_)
  refine r_iconst hC dX5_dropOldest_10 rfl ?_
  refine r_iaddG hC dX5_dropOldest_11 (fun v3 h_v3 => ?_)
  refine z_putIU (jz := 13) hM dX5_dropOldest_12 fw_RX5_204 rfl rfl rfl (by simp [Un, Tb, DL, DF, DR]) (by simp [Okv]) ?_
  refine r_aload_n hC dX5_dropOldest_15 rfl ?_
  refine z_getR hM dX5_dropOldest_16 fl_RX5_189 rfl rfl (vld_of (n := 8) rfl (by omega) (by omega)) ?_
  refine z_inv0 hM dX5_dropOldest_19 vl_RX5_207 rfl rfl rfl (Nat.le_of_ble_eq_true rfl) (Nat.le_of_ble_eq_true rfl) ?_
  refine s_Flip_drop (by omega) ?_
  refine r_aload_n hC dX5_dropOldest_22 rfl ?_
  refine r_aload_n hC dX5_dropOldest_23 rfl ?_
  refine z_inv1 hM dX5_dropOldest_24 vl_RX5_195 rfl rfl rfl (Nat.le_of_ble_eq_true rfl) (Nat.le_of_ble_eq_true rfl) ?_
  refine s_ringWatches (by omega) ?_
  refine y_vret hK rfl dX5_dropOldest_27 ?_
  exact k _ ((Gx.rf).al a_ρ1 (by first | simp | omega)) (by have hq := q_ρ1; omega)
theorem s_layAnew {ea eb : Bool} {d : Nat} {P : Option Vl → Mm → Prop} {σ : Mm} {i : Int} (b_i : 0 ≤ i ∧ i ≤ 6)  (k : P none σ) : WT (ea, false, eb) (d + 5) 69 [vR 2 0, vR 7 i] σ P := by
  refine WT_in fun K hK => ?_
  have hK : StpY (ea, false, eb) cX5_layAnew RX5 (none) (WT (ea, false, eb) (d + 4)) P K := hK
  have hM := hK.1
  have hC := hK.1.1
  show K 0 [some (vR 2 0), some (vR 7 i)] [] σ
  refine r_aload_n hC dX5_layAnew_0 rfl ?_
  refine z_getR hM dX5_layAnew_1 fl_RX5_189 rfl rfl (vld_of (n := 8) rfl (by omega) (by omega)) ?_
  refine r_aload_n hC dX5_layAnew_4 rfl ?_
  refine z_getI (jz := 6) hM dX5_layAnew_5 fl_RX5_154 rfl rfl rfl (fun v1 h_v1 o_v1 t_v1 => ?_)
  have q_v1 : 0 ≤ v1 ∧ v1 ≤ 121 := o_v1.1 rfl
  refine z_inv1 hM dX5_layAnew_8 vl_RX5_210 rfl rfl rfl (Nat.le_of_ble_eq_true rfl) (Nat.le_of_ble_eq_true rfl) ?_
  refine s_Flip_layAnew (by omega) ?_
  refine r_aload_n hC dX5_layAnew_11 rfl ?_
  refine r_aload_n hC dX5_layAnew_12 rfl ?_
  refine z_inv1 hM dX5_layAnew_13 vl_RX5_195 rfl rfl rfl (Nat.le_of_ble_eq_true rfl) (Nat.le_of_ble_eq_true rfl) ?_
  refine s_ringWatches (by omega) ?_
  refine y_vret hK rfl dX5_layAnew_16 ?_
  exact k
theorem s_heldUntilL {eb : Bool} {d : Nat} {P : Option Vl → Mm → Prop} {σ : Mm} {i t : Int} (b_i : 0 ≤ i ∧ i ≤ 6)  (k : ∀ r : Int, 0 ≤ r ∧ r ≤ σ 7 i 6 → P (some (vI r)) σ) : WT (true, eb, false) (d + 1) 31 [vR 7 i, vL t] σ P := by
  refine WT_in fun K hK => ?_
  have hK : StpY (true, eb, false) cX2_heldUntil RX2 (some .int) (WT (true, eb, false) (d + 0)) P K := hK
  have hM := hK.1
  have hC := hK.1.1
  show K 0 [some (vR 7 i), some (vL t), none, none] [] σ
  refine r_aload_n hC dX2_heldUntil_0 rfl ?_
  refine z_getI (jz := 6) hM dX2_heldUntil_1 fl_RX2_48 rfl rfl rfl (fun v1 h_v1 o_v1 t_v1 => ?_)
  have w_v1 := t_v1 (Or.inr (Or.inl ⟨rfl, by simp [DL]⟩))
  have q_v1 : 0 ≤ v1 ∧ v1 ≤ 121 := o_v1.1 rfl
  refine r_istore_n hC dX2_heldUntil_4 rfl ?_
  have L5 : ∀ (n5 : Nat) (w2 : Int), 0 ≤ w2 ∧ w2 ≤ 121 → ((w2) ≤ σ 7 i 6) → w2 - 0 < (n5 : Int) → K 5 [some (vR 7 i), some (vL t), none, some (vI w2)] [] σ := by
    intro n5
    induction n5 with
    | zero => intro w2  f_w2 i0_5 hm ; omega
    | succ n5 ih5 =>
      intro w2  f_w2 i0_5 hm5 
      refine r_iload_n hC dX2_heldUntil_5 rfl ?_
      refine r_if_le (tgt := 29) hC dX2_heldUntil_6 rfl (fun h3 => ?_) (fun h3 => ?_)
      · refine r_iload_n hC dX2_heldUntil_29 rfl ?_
        refine y_iret hK rfl dX2_heldUntil_30 ?_
        exact k _ (by omega)
      · refine r_aload_n hC dX2_heldUntil_9 rfl ?_
        refine z_getR hM dX2_heldUntil_10 fl_RX2_15 rfl rfl (vld_of (n := 7) rfl (by omega) (by omega)) ?_
        refine r_iload_n hC dX2_heldUntil_13 rfl ?_
        refine r_iconst hC dX2_heldUntil_14 rfl ?_
        refine r_isubE hC ((w2 - 1)) dX2_heldUntil_15 (by omega) (by unfold inR; omega) ?_
        refine z_iald hM dX2_heldUntil_16 rfl (by omega) (by omega) (fun v4 h_v4 o_v4 t_v4 => ?_)
        refine r_i2l hC dX2_heldUntil_17 ?_
        refine r_lload_n hC dX2_heldUntil_18 rfl ?_
        refine r_lcmpG hC dX2_heldUntil_19 (fun v5 h_v5 => ?_)
        refine r_if_le (tgt := 29) hC dX2_heldUntil_20 rfl (fun h6 => ?_) (fun h6 => ?_)
        · refine r_iload_n hC dX2_heldUntil_29 rfl ?_
          refine y_iret hK rfl dX2_heldUntil_30 ?_
          exact k _ (by omega)
        · refine r_iincE hC ((w2 - 1)) dX2_heldUntil_23 rfl rfl (by omega) (by unfold inR; omega) ?_
          refine r_goto (tgt := 5) hC dX2_heldUntil_26 rfl ?_
          exact ih5 ((w2 - 1))  (by omega) (by omega) (by omega) 
  exact L5 123 (v1)  (by omega) (by omega) (by omega) 
theorem s_goesL {eb : Bool} {d : Nat} {P : Option Vl → Mm → Prop} {σ : Mm} {i m t z : Int} (b_i : 0 ≤ i ∧ i ≤ 6)  (k1 : P (some (vI 1)) σ) (k0 : (σ 7 i 3 = 1 → m ≤ σ 7 i 4) → P (some (vI 0)) σ) : WT (true, eb, false) (d + 1) 33 [vR 7 i, vI m, vI t, vI z] σ P := by
  refine WT_in fun K hK => ?_
  have hK : StpY (true, eb, false) cX2_goes RX2 (some .boolean) (WT (true, eb, false) (d + 0)) P K := hK
  have hM := hK.1
  have hC := hK.1.1
  show K 0 [some (vR 7 i), some (vI m), some (vI t), some (vI z)] [] σ
  refine r_rngz hC (fun g0 => ?_)
  have r_m : -2147483648 ≤ m ∧ m ≤ 2147483647 := inR_le (g0 (vI m) (by simp))
  have r_t : -2147483648 ≤ t ∧ t ≤ 2147483647 := inR_le (g0 (vI t) (by simp))
  have r_z : -2147483648 ≤ z ∧ z ≤ 2147483647 := inR_le (g0 (vI z) (by simp))
  refine r_aload_n hC dX2_goes_0 rfl ?_
  refine z_getI (jz := 3) hM dX2_goes_1 fl_RX2_39 rfl rfl rfl (fun v1 h_v1 o_v1 t_v1 => ?_)
  have w_v1 := t_v1 (Or.inr (Or.inl ⟨rfl, by simp [DL]⟩))
  refine r_iconst hC dX2_goes_4 rfl ?_
  refine r_icmp_ne (tgt := 16) hC dX2_goes_5 rfl (fun h2 => ?_) (fun h2 => ?_)
  · refine r_aload_n hC dX2_goes_16 rfl ?_
    refine z_getI (jz := 3) hM dX2_goes_17 fl_RX2_39 rfl rfl rfl (fun v3 h_v3 o_v3 t_v3 => ?_)
    have w_v3 := t_v3 (Or.inr (Or.inl ⟨rfl, by simp [DL]⟩))
    refine r_iconst hC dX2_goes_20 rfl ?_
    refine r_icmp_ne (tgt := 38) hC dX2_goes_21 rfl (fun h4 => ?_) (fun h4 => ?_)
    · refine r_iconst hC dX2_goes_38 rfl ?_
      refine y_zret hK rfl dX2_goes_39 (by omega) ?_
      exact k0 (by omega)
    · refine r_iload_n hC dX2_goes_24 rfl ?_
      refine r_iload_n hC dX2_goes_25 rfl ?_
      refine r_aload_n hC dX2_goes_26 rfl ?_
      refine z_getI (jz := 4) hM dX2_goes_27 fl_RX2_42 rfl rfl rfl (fun v5 h_v5 o_v5 t_v5 => ?_)
      have w_v5 := t_v5 (Or.inr (Or.inl ⟨rfl, by simp [DL]⟩))
      refine r_isubG hC dX2_goes_30 (fun v6 h_v6 => ?_)
      refine r_icmp_gt (tgt := 38) hC dX2_goes_31 rfl (fun h7 => ?_) (fun h7 => ?_)
      · refine r_iconst hC dX2_goes_38 rfl ?_
        refine y_zret hK rfl dX2_goes_39 (by omega) ?_
        exact k0 (by omega)
      · refine r_iconst hC dX2_goes_34 rfl ?_
        refine r_goto (tgt := 39) hC dX2_goes_35 rfl ?_
        refine y_zret hK rfl dX2_goes_39 (by omega) ?_
        exact k1
  · refine r_iload_n hC dX2_goes_8 rfl ?_
    refine r_aload_n hC dX2_goes_9 rfl ?_
    refine z_getI (jz := 4) hM dX2_goes_10 fl_RX2_42 rfl rfl rfl (fun v8 h_v8 o_v8 t_v8 => ?_)
    have w_v8 := t_v8 (Or.inr (Or.inl ⟨rfl, by simp [DL]⟩))
    refine r_icmp_gt (tgt := 34) hC dX2_goes_13 rfl (fun h9 => ?_) (fun h9 => ?_)
    · refine r_iconst hC dX2_goes_34 rfl ?_
      refine r_goto (tgt := 39) hC dX2_goes_35 rfl ?_
      refine y_zret hK rfl dX2_goes_39 (by omega) ?_
      exact k1
    · refine r_aload_n hC dX2_goes_16 rfl ?_
      refine z_getI (jz := 3) hM dX2_goes_17 fl_RX2_39 rfl rfl rfl (fun v10 h_v10 o_v10 t_v10 => ?_)
      have w_v10 := t_v10 (Or.inr (Or.inl ⟨rfl, by simp [DL]⟩))
      refine r_iconst hC dX2_goes_20 rfl ?_
      refine r_icmp_ne (tgt := 38) hC dX2_goes_21 rfl (fun h11 => ?_) (fun h11 => ?_)
      · refine r_iconst hC dX2_goes_38 rfl ?_
        refine y_zret hK rfl dX2_goes_39 (by omega) ?_
        exact k0 (by omega)
      · refine r_iload_n hC dX2_goes_24 rfl ?_
        refine r_iload_n hC dX2_goes_25 rfl ?_
        refine r_aload_n hC dX2_goes_26 rfl ?_
        refine z_getI (jz := 4) hM dX2_goes_27 fl_RX2_42 rfl rfl rfl (fun v12 h_v12 o_v12 t_v12 => ?_)
        have w_v12 := t_v12 (Or.inr (Or.inl ⟨rfl, by simp [DL]⟩))
        refine r_isubG hC dX2_goes_30 (fun v13 h_v13 => ?_)
        refine r_icmp_gt (tgt := 38) hC dX2_goes_31 rfl (fun h14 => ?_) (fun h14 => ?_)
        · refine r_iconst hC dX2_goes_38 rfl ?_
          refine y_zret hK rfl dX2_goes_39 (by omega) ?_
          exact k0 (by omega)
        · refine r_iconst hC dX2_goes_34 rfl ?_
          refine r_goto (tgt := 39) hC dX2_goes_35 rfl ?_
          refine y_zret hK rfl dX2_goes_39 (by omega) ?_
          exact k1
theorem s_isFullL {eb : Bool} {d : Nat} {P : Option Vl → Mm → Prop} {σ : Mm} {i : Int} (b_i : 0 ≤ i ∧ i ≤ 6)  (k1 : P (some (vI 1)) σ) (k0 : (σ 7 i 3 ≠ 1 → σ 7 i 6 ≤ 119) → P (some (vI 0)) σ) : WT (true, eb, false) (d + 1) 29 [vR 7 i] σ P := by
  refine WT_in fun K hK => ?_
  have hK : StpY (true, eb, false) cX2_isFull RX2 (some .boolean) (WT (true, eb, false) (d + 0)) P K := hK
  have hM := hK.1
  have hC := hK.1.1
  show K 0 [some (vR 7 i)] [] σ
  refine r_aload_n hC dX2_isFull_0 rfl ?_
  refine z_getI (jz := 3) hM dX2_isFull_1 fl_RX2_39 rfl rfl rfl (fun v1 h_v1 o_v1 t_v1 => ?_)
  have w_v1 := t_v1 (Or.inr (Or.inl ⟨rfl, by simp [DL]⟩))
  refine r_iconst hC dX2_isFull_4 rfl ?_
  refine r_icmp_eq (tgt := 21) hC dX2_isFull_5 rfl (fun h2 => ?_) (fun h2 => ?_)
  · refine r_iconst hC dX2_isFull_21 rfl ?_
    refine y_zret hK rfl dX2_isFull_22 (by omega) ?_
    exact k0 (by omega)
  · refine r_aload_n hC dX2_isFull_8 rfl ?_
    refine z_getI (jz := 6) hM dX2_isFull_9 fl_RX2_48 rfl rfl rfl (fun v3 h_v3 o_v3 t_v3 => ?_)
    have w_v3 := t_v3 (Or.inr (Or.inl ⟨rfl, by simp [DL]⟩))
    have q_v3 : 0 ≤ v3 ∧ v3 ≤ 121 := o_v3.1 rfl
    refine r_bipush hC dX2_isFull_12 rfl ?_
    refine r_icmp_lt (tgt := 21) hC dX2_isFull_14 rfl (fun h4 => ?_) (fun h4 => ?_)
    · refine r_iconst hC dX2_isFull_21 rfl ?_
      refine y_zret hK rfl dX2_isFull_22 (by omega) ?_
      exact k0 (by omega)
    · refine r_iconst hC dX2_isFull_17 rfl ?_
      refine r_goto (tgt := 22) hC dX2_isFull_18 rfl ?_
      refine y_zret hK rfl dX2_isFull_22 (by omega) ?_
      exact k1
theorem s_place {d : Nat} {P : Option Vl → Mm → Prop} {σ : Mm} {i t v h b z : Int} (b_i : 0 ≤ i ∧ i ≤ 6) (b_v : -1000 ≤ v ∧ v ≤ 1000) (b_h : 0 ≤ h ∧ h ≤ 120) (qg0 : σ 7 i 6 = h) (qg1 : σ 7 i 3 = b) (qg2 : σ 7 i 4 = z) (hr : Rst b z h) (hn : b ≠ 1 → h ≤ 119)  (k : ∀ ρ : Mm, Al1 σ ρ 7 i 6 → Rst b z (ρ 7 i 6) → ρ 7 i 6 ≤ h + 1 → P none ρ) : WT (true, false, false) (d + 6) 67 [vR 2 0, vR 7 i, vI t, vI v] σ P := by
  refine WT_in fun K hK => ?_
  have hK : StpY (true, false, false) cX5_place RX5 (none) (WT (true, false, false) (d + 5)) P K := hK
  have hM := hK.1
  have hC := hK.1.1
  show K 0 [some (vR 2 0), some (vR 7 i), some (vI t), some (vI v), none, none, none] [] σ
  refine r_rngz hC (fun g0 => ?_)
  have r_t : -2147483648 ≤ t ∧ t ≤ 2147483647 := inR_le (g0 (vI t) (by simp))
  refine r_aload_n hC dX5_place_0 rfl ?_
  refine r_iload_n hC dX5_place_1 rfl ?_
  refine r_i2l hC dX5_place_2 ?_
  refine z_inv1 hM dX5_place_3 vl_RX5_167 rfl rfl rfl (Nat.le_of_ble_eq_true rfl) (Nat.le_of_ble_eq_true rfl) ?_
  refine s_heldUntilL (by omega) (fun v1 h_v1 => ?_)
  have u_v1 : 0 ≤ v1 ∧ v1 ≤ h := by have hq := qg0; omega
  refine r_istore hC dX5_place_6 rfl ?_
  refine r_iload hC dX5_place_8 rfl ?_
  refine r_aload_n hC dX5_place_10 rfl ?_
  refine z_getI (jz := 6) hM dX5_place_11 fl_RX5_154 rfl rfl rfl (fun v2 h_v2 o_v2 t_v2 => ?_)
  have e_v2 : h = v2 := ((t_v2 (Or.inr (Or.inl ⟨rfl, Or.inr (Or.inr rfl)⟩))).trans qg0).symm
  subst e_v2
  have J22_4 : ∀ (w4 : Int), ∀ (ρ6 : Mm), 0 ≤ w4 ∧ w4 ≤ 1 → Gx (fun c x y => c = 7 ∧ x = i ∧ y = 6) σ ρ6 → ρ6 7 i 6 = h → ρ6 7 i 3 = b → ρ6 7 i 4 = z → K 22 [some (vR 2 0), some (vR 7 i), some (vI t), some (vI v), some (vI v1), none, none] [vI w4] ρ6 := by
    intro w4 ρ6 f_w4 g_ρ6 q0_ρ6 q1_ρ6 q2_ρ6
    refine r_istore hC dX5_place_22 rfl ?_
    refine r_aload_n hC dX5_place_24 rfl ?_
    refine r_iload hC dX5_place_25 rfl ?_
    refine r_iload_n hC dX5_place_27 rfl ?_
    refine r_iload_n hC dX5_place_28 rfl ?_
    refine z_inv3 hM dX5_place_29 vl_RX5_185 rfl rfl rfl (Nat.le_of_ble_eq_true rfl) (Nat.le_of_ble_eq_true rfl) ?_
    refine s_insert (h := h) (by omega) (by omega) (by omega) (by omega) (by have hq := q0_ρ6; omega) (by omega) (fun ρ7 a_ρ7 q_ρ7 => ?_)
    refine r_iload hC dX5_place_32 rfl ?_
    have J57_8 : ∀ (ρ10 : Mm), Gx (fun c x y => c = 7 ∧ x = i ∧ y = 6) σ ρ10 → ρ10 7 i 6 = (h + 1) → ρ10 7 i 3 = b → ρ10 7 i 4 = z → K 57 [some (vR 2 0), some (vR 7 i), some (vI t), some (vI v), some (vI v1), some (vI w4), none] [] ρ10 := by
      intro  ρ10  g_ρ10 q0_ρ10 q1_ρ10 q2_ρ10
      refine r_aload_n hC dX5_place_57 rfl ?_
      refine z_getI (jz := 6) hM dX5_place_58 fl_RX5_154 rfl rfl rfl (fun v11 h_v11 o_v11 t_v11 => ?_)
      have e_v11 : (h + 1) = v11 := ((t_v11 (Or.inr (Or.inl ⟨rfl, Or.inr (Or.inr rfl)⟩))).trans q0_ρ10).symm
      subst e_v11
      refine r_istore hC dX5_place_61 rfl ?_
      have L63 : ∀ (n63 : Nat) (w12 w13 : Int) (ρ14 : Mm), 0 ≤ w12 ∧ w12 ≤ 121 → 0 ≤ w13 ∧ w13 ≤ 121 → ((w13) = (w12)) → ((w12) ≤ h + 1) → (b ≠ 1 → (w12) ≤ 120) → w12 < (n63 : Int) → Gx (fun c x y => c = 7 ∧ x = i ∧ y = 6) σ ρ14 → ρ14 7 i 6 = w13 → ρ14 7 i 3 = b → ρ14 7 i 4 = z → K 63 [some (vR 2 0), some (vR 7 i), some (vI t), some (vI v), some (vI v1), some (vI w4), some (vI w12)] [] ρ14 := by
        intro n63
        induction n63 with
        | zero => intro w12 w13 ρ14 f_w12 f_w13 i0_63 i1_63 i2_63 hm g_ρ14 q0_ρ14 q1_ρ14 q2_ρ14; omega
        | succ n63 ih63 =>
          intro w12 w13 ρ14 f_w12 f_w13 i0_63 i1_63 i2_63 hm63 g_ρ14 q0_ρ14 q1_ρ14 q2_ρ14
          refine r_iload hC dX5_place_63 rfl ?_
          refine r_if_le (tgt := 100) hC dX5_place_65 rfl (fun h15 => ?_) (fun h15 => ?_)
          · refine y_vret hK rfl dX5_place_100 ?_
            exact k _ (g_ρ14) (by have hq := q0_ρ14; have hb := q1_ρ14; have hz := q2_ρ14; have hr2 := hr; unfold Rst at hr2 ⊢; omega) (by have hq := q0_ρ14; omega)
          · refine r_aload_n hC dX5_place_68 rfl ?_
            refine r_aload_n hC dX5_place_69 rfl ?_
            refine z_getI (jz := 6) hM dX5_place_70 fl_RX5_154 rfl rfl rfl (fun v16 h_v16 o_v16 t_v16 => ?_)
            have e_v16 : w13 = v16 := ((t_v16 (Or.inr (Or.inl ⟨rfl, Or.inr (Or.inr rfl)⟩))).trans q0_ρ14).symm
            subst e_v16
            refine r_aload_n hC dX5_place_73 rfl ?_
            refine z_getR hM dX5_place_74 fl_RX5_198 rfl rfl (vld_of (n := 7) rfl (by omega) (by omega)) ?_
            refine r_iconst hC dX5_place_77 rfl ?_
            refine z_iald hM dX5_place_78 rfl (by omega) (by omega) (fun v17 h_v17 o_v17 t_v17 => ?_)
            refine r_aload_n hC dX5_place_79 rfl ?_
            refine z_getI (jz := 10) hM dX5_place_80 fl_RX5_157 rfl rfl rfl (fun v18 h_v18 o_v18 t_v18 => ?_)
            refine z_inv3 hM dX5_place_83 vl_RX5_201 rfl rfl rfl (Nat.le_of_ble_eq_true rfl) (Nat.le_of_ble_eq_true rfl) ?_
            refine s_goesL (by omega) ?_ (fun h19 => ?_)
            · refine r_if_eq (tgt := 100) hC dX5_place_86 rfl (fun h20 => by omega) (fun h20 => ?_)
              refine r_aload_n hC dX5_place_89 rfl ?_
              refine r_aload_n hC dX5_place_90 rfl ?_
              refine z_inv1 hM dX5_place_91 vl_RX5_163 rfl rfl rfl (Nat.le_of_ble_eq_true rfl) (Nat.le_of_ble_eq_true rfl) ?_
              refine s_dropOldest (h := w13) (by omega) (by omega) (by have hq := q0_ρ14; omega) (fun ρ21 a_ρ21 q_ρ21 => ?_)
              refine r_iincE hC ((w12 - 1)) dX5_place_94 rfl rfl (by omega) (by unfold inR; omega) ?_
              refine r_goto (tgt := 63) hC dX5_place_97 rfl ?_
              exact ih63 ((w12 - 1)) ((w13 - 1)) ρ21 (by omega) (by omega) (by omega) (by omega) (by omega) (by omega) ((g_ρ14).al a_ρ21 (by first | simp | omega)) (by have hq := q_ρ21; omega) (by have hq := ((a_ρ21 _ _ _ (by omega)).trans q1_ρ14); omega) (by have hq := ((a_ρ21 _ _ _ (by omega)).trans q2_ρ14); omega)
            · refine r_if_eq (tgt := 100) hC dX5_place_86 rfl (fun h22 => ?_) (fun h22 => by omega)
              refine y_vret hK rfl dX5_place_100 ?_
              exact k _ (g_ρ14) (by have hq := q0_ρ14; have hb := q1_ρ14; have hz := q2_ρ14; have hr2 := hr; unfold Rst at hr2 ⊢; omega) (by have hq := q0_ρ14; omega)
      exact L63 123 ((h + 1)) ((h + 1)) ρ10 (by omega) (by omega) (by omega) (by omega) (by omega) (by omega) (g_ρ10) (by have hq := q0_ρ10; omega) (by have hq := q1_ρ10; omega) (by have hq := q2_ρ10; omega)
    refine r_if_eq (tgt := 52) hC dX5_place_34 rfl (fun h8 => ?_) (fun h8 => ?_)
    · refine r_aload_n hC dX5_place_52 rfl ?_
      refine r_aload_n hC dX5_place_53 rfl ?_
      refine z_inv1 hM dX5_place_54 vl_RX5_182 rfl rfl rfl (Nat.le_of_ble_eq_true rfl) (Nat.le_of_ble_eq_true rfl) ?_
      refine s_layAnew (by omega) ?_
      exact J57_8  ρ7  ((g_ρ6).al a_ρ7 (by first | simp | omega)) (by have hq := q_ρ7; omega) (by have hq := ((a_ρ7 _ _ _ (by omega)).trans q1_ρ6); omega) (by have hq := ((a_ρ7 _ _ _ (by omega)).trans q2_ρ6); omega)
    · refine r_aload_n hC dX5_place_37 rfl ?_
      refine z_getR hM dX5_place_38 fl_RX5_189 rfl rfl (vld_of (n := 8) rfl (by omega) (by omega)) ?_
      refine z_inv0 hM dX5_place_41 vl_RX5_192 rfl rfl rfl (Nat.le_of_ble_eq_true rfl) (Nat.le_of_ble_eq_true rfl) ?_
      refine s_Flip_add (by omega) ?_
      refine r_aload_n hC dX5_place_44 rfl ?_
      refine r_aload_n hC dX5_place_45 rfl ?_
      refine z_inv1 hM dX5_place_46 vl_RX5_195 rfl rfl rfl (Nat.le_of_ble_eq_true rfl) (Nat.le_of_ble_eq_true rfl) ?_
      refine s_ringWatches (by omega) ?_
      refine r_goto (tgt := 57) hC dX5_place_49 rfl ?_
      exact J57_8  ρ7  ((g_ρ6).al a_ρ7 (by first | simp | omega)) (by have hq := q_ρ7; omega) (by have hq := ((a_ρ7 _ _ _ (by omega)).trans q1_ρ6); omega) (by have hq := ((a_ρ7 _ _ _ (by omega)).trans q2_ρ6); omega)
  refine r_icmp_ne (tgt := 21) hC dX5_place_14 rfl (fun h3 => ?_) (fun h3 => ?_)
  · refine r_iconst hC dX5_place_21 rfl ?_
    exact J22_4 (0) σ (by omega) (Gx.rf) (by have hq := qg0; omega) (by have hq := qg1; omega) (by have hq := qg2; omega)
  · refine r_iconst hC dX5_place_17 rfl ?_
    refine r_goto (tgt := 22) hC dX5_place_18 rfl ?_
    exact J22_4 (1) σ (by omega) (Gx.rf) (by have hq := qg0; omega) (by have hq := qg1; omega) (by have hq := qg2; omega)
theorem s_give {d : Nat} {P : Option Vl → Mm → Prop} {σ : Mm} {i x t : Int} (b_i : 0 ≤ i ∧ i ≤ 3) (qg0 : σ 7 i 0 = i) (qg1 : σ 13 i 0 = t) (hL : InL σ) (ht : t ≠ i)  (k : ∀ ρ : Mm, GL (fun c x y => c = 7 ∧ y = 6 ∧ x ≠ i) σ ρ → P none ρ) : WT (true, false, false) (d + 7) 70 [vR 2 0, vR 7 i, vI x] σ P := by
  refine WT_in fun K hK => ?_
  have hK : StpY (true, false, false) cX5_give RX5 (none) (WT (true, false, false) (d + 6)) P K := hK
  have hM := hK.1
  have hC := hK.1.1
  show K 0 [some (vR 2 0), some (vR 7 i), some (vI x), none, none, none, none, none, none] [] σ
  refine r_rngz hC (fun g0 => ?_)
  have r_x : -2147483648 ≤ x ∧ x ≤ 2147483647 := inR_le (g0 (vI x) (by simp))
  refine r_aload_n hC dX5_give_0 rfl ?_
  refine z_getR hM dX5_give_1 fl_RX5_19 rfl rfl (vld_of (n := 1) rfl (by omega) (by omega)) ?_
  refine r_aload_n hC dX5_give_4 rfl ?_
  refine z_getI (jz := 0) hM dX5_give_5 fl_RX5_212 rfl rfl rfl (fun v1 h_v1 o_v1 t_v1 => ?_)
  have e_v1 : i = v1 := ((t_v1 (Or.inl (Or.inl rfl))).trans qg0).symm
  subst e_v1
  refine z_aald hM dX5_give_8 rfl (by decide) (by omega) (by omega) (vld_of (n := 4) rfl (by omega) (by omega)) ?_
  refine r_astore_n hC dX5_give_9 rfl ?_
  refine r_aload_n hC dX5_give_10 rfl ?_
  refine r_aload_n hC dX5_give_11 rfl ?_
  refine z_getI (jz := 0) hM dX5_give_12 fl_RX5_215 rfl rfl rfl (fun v2 h_v2 o_v2 t_v2 => ?_)
  have e_v2 : t = v2 := ((t_v2 (Or.inl rfl)).trans qg1).symm
  subst e_v2
  refine z_inv1 hM dX5_give_15 vl_RX5_123 rfl rfl rfl (Nat.le_of_ble_eq_true rfl) (Nat.le_of_ble_eq_true rfl) ?_
  refine s_openLane ?_ (fun h3 => ?_)
  · refine r_astoreN hC dX5_give_18 rfl ?_
    refine r_aload_n hC dX5_give_20 rfl ?_
    refine z_getI (jz := 6) hM dX5_give_21 fl_RX5_154 rfl rfl rfl (fun v4 h_v4 o_v4 t_v4 => ?_)
    have q_v4 : 0 ≤ v4 ∧ v4 ≤ 121 := o_v4.1 rfl
    refine r_iconst hC dX5_give_24 rfl ?_
    refine r_isubE hC ((v4 - 1)) dX5_give_25 (by omega) (by unfold inR; omega) ?_
    refine r_istore hC dX5_give_26 rfl ?_
    refine r_aloadN hC dX5_give_28 rfl ?_
    refine r_ifnullN (tgt := 62) hC dX5_give_30 rfl ?_
    refine y_vret hK rfl dX5_give_62 ?_
    exact k _ (GL.rf (S := fun c x y => c = 7 ∧ y = 6 ∧ x ≠ i) hL)
  · refine r_astore hC dX5_give_18 rfl ?_
    refine r_aload_n hC dX5_give_20 rfl ?_
    refine z_getI (jz := 6) hM dX5_give_21 fl_RX5_154 rfl rfl rfl (fun v5 h_v5 o_v5 t_v5 => ?_)
    have q_v5 : 0 ≤ v5 ∧ v5 ≤ 121 := o_v5.1 rfl
    refine r_iconst hC dX5_give_24 rfl ?_
    refine r_isubE hC ((v5 - 1)) dX5_give_25 (by omega) (by unfold inR; omega) ?_
    refine r_istore hC dX5_give_26 rfl ?_
    refine r_aload hC dX5_give_28 rfl ?_
    refine r_ifnullR hC dX5_give_30 ?_
    refine r_iload hC dX5_give_33 rfl ?_
    refine r_if_lt (tgt := 62) hC dX5_give_35 rfl (fun h6 => ?_) (fun h6 => ?_)
    · refine y_vret hK rfl dX5_give_62 ?_
      exact k _ (GL.rf (S := fun c x y => c = 7 ∧ y = 6 ∧ x ≠ i) hL)
    · refine r_iload_n hC dX5_give_38 rfl ?_
      refine r_aload_n hC dX5_give_39 rfl ?_
      refine z_getR hM dX5_give_40 fl_RX5_198 rfl rfl (vld_of (n := 7) rfl (by omega) (by omega)) ?_
      refine r_iload hC dX5_give_43 rfl ?_
      refine z_iald hM dX5_give_45 rfl (by omega) (by omega) (fun v7 h_v7 o_v7 t_v7 => ?_)
      refine r_isubG hC dX5_give_46 (fun v8 h_v8 => ?_)
      refine r_aload_n hC dX5_give_47 rfl ?_
      refine z_getI (jz := 1) hM dX5_give_48 fl_RX5_218 rfl rfl rfl (fun v9 h_v9 o_v9 t_v9 => ?_)
      refine r_icmp_le (tgt := 62) hC dX5_give_51 rfl (fun h10 => ?_) (fun h10 => ?_)
      · refine y_vret hK rfl dX5_give_62 ?_
        exact k _ (GL.rf (S := fun c x y => c = 7 ∧ y = 6 ∧ x ≠ i) hL)
      · refine r_aload hC dX5_give_54 rfl ?_
        refine z_inv0 hM dX5_give_56 vl_RX5_139 rfl rfl rfl (Nat.le_of_ble_eq_true rfl) (Nat.le_of_ble_eq_true rfl) ?_
        refine s_isFullL (by omega) ?_ (fun full56 => ?_)
        · refine r_if_eq (tgt := 63) hC dX5_give_59 rfl (fun h11 => by omega) (fun h11 => ?_)
          refine y_vret hK rfl dX5_give_62 ?_
          exact k _ (GL.rf (S := fun c x y => c = 7 ∧ y = 6 ∧ x ≠ i) hL)
        · refine r_if_eq (tgt := 63) hC dX5_give_59 rfl (fun h12 => ?_) (fun h12 => by omega)
          refine r_iload hC dX5_give_63 rfl ?_
          refine r_istore hC dX5_give_65 rfl ?_
          have L67 : ∀ (n67 : Nat) (w13 : Int), 0 ≤ w13 ∧ w13 ≤ 120 → w13 - 0 < (n67 : Int) → K 67 [some (vR 2 0), some (vR 7 i), some (vI x), some (vR 13 i), some (vR 7 t), some (vI (v5 - 1)), some (vI w13), none, none] [] σ := by
            intro n67
            induction n67 with
            | zero => intro w13  f_w13  hm ; omega
            | succ n67 ih67 =>
              intro w13  f_w13  hm67 
              refine r_iload hC dX5_give_67 rfl ?_
              refine r_if_le (tgt := 91) hC dX5_give_69 rfl (fun h14 => ?_) (fun h14 => ?_)
              · refine r_aload_n hC dX5_give_91 rfl ?_
                refine r_aload_n hC dX5_give_92 rfl ?_
                refine r_iload hC dX5_give_93 rfl ?_
                refine r_aload_n hC dX5_give_95 rfl ?_
                refine z_getI (jz := 6) hM dX5_give_96 fl_RX5_154 rfl rfl rfl (fun v15 h_v15 o_v15 t_v15 => ?_)
                have q_v15 : 0 ≤ v15 ∧ v15 ≤ 121 := o_v15.1 rfl
                refine r_aload_n hC dX5_give_99 rfl ?_
                refine z_getI (jz := 2) hM dX5_give_100 fl_RX5_224 rfl rfl rfl (fun v16 h_v16 o_v16 t_v16 => ?_)
                refine z_inv4 hM dX5_give_103 vl_RX5_227 rfl rfl rfl (Nat.le_of_ble_eq_true rfl) (Nat.le_of_ble_eq_true rfl) ?_
                refine s_comesTo (by omega) (by omega) (by omega) (fun v17 h_v17 => ?_)
                refine r_istore hC dX5_give_106 rfl ?_
                refine r_iload hC dX5_give_108 rfl ?_
                refine r_ldc hC dX5_give_110 co_RX5_175 rfl ?_
                refine r_icmp_ne (tgt := 116) hC dX5_give_112 rfl (fun h18 => ?_) (fun h18 => ?_)
                · refine r_aload_n hC dX5_give_116 rfl ?_
                  refine z_getR hM dX5_give_117 fl_RX5_198 rfl rfl (vld_of (n := 7) rfl (by omega) (by omega)) ?_
                  refine r_iload hC dX5_give_120 rfl ?_
                  refine z_iald hM dX5_give_122 rfl (by omega) (by omega) (fun v19 h_v19 o_v19 t_v19 => ?_)
                  refine r_istore hC dX5_give_123 rfl ?_
                  refine r_aload hC dX5_give_125 rfl ?_
                  refine r_iload hC dX5_give_127 rfl ?_
                  refine z_inv1 hM dX5_give_129 vl_RX5_133 rfl rfl rfl (Nat.le_of_ble_eq_true rfl) (Nat.le_of_ble_eq_true rfl) ?_
                  refine s_isTooLate (by omega) (fun v20 h_v20 => ?_)
                  refine r_if_eq (tgt := 147) hC dX5_give_132 rfl (fun h21 => ?_) (fun h21 => ?_)
                  · refine r_aload_n hC dX5_give_147 rfl ?_
                    refine r_dup hC dX5_give_148 rfl ?_
                    refine z_getI (jz := 3) hM dX5_give_149 fl_RX5_231 rfl rfl rfl (fun v22 h_v22 o_v22 t_v22 => ?_)
                    refine r_iconst hC dX5_give_152 rfl ?_
                    refine r_iaddG hC dX5_give_153 (fun v23 h_v23 => ?_)
                    refine z_putIU (jz := 3) hM dX5_give_154 fw_RX5_231 rfl rfl rfl (by simp [Un, Tb, DL, DF, DR]) (by simp [Okv]) ?_
                    refine r_aload_n hC dX5_give_157 rfl ?_
                    refine r_aload hC dX5_give_158 rfl ?_
                    refine r_iload hC dX5_give_160 rfl ?_
                    refine r_sipush hC dX5_give_162 rfl ?_
                    refine r_sipush hC dX5_give_165 rfl ?_
                    refine r_iload hC dX5_give_168 rfl ?_
                    refine z_ins2 hM dX5_give_170 tl_RX5_234 rfl (Nat.le_of_ble_eq_true rfl) (Nat.le_of_ble_eq_true rfl) ?_
                    refine s_minx (fun v24 h_v24 => ?_)
                    refine z_ins2 hM dX5_give_173 tl_RX5_239 rfl (Nat.le_of_ble_eq_true rfl) (Nat.le_of_ble_eq_true rfl) ?_
                    refine s_maxx (fun v25 h_v25 => ?_)
                    refine z_inv3 hM dX5_give_176 vl_RX5_147 rfl rfl rfl (Nat.le_of_ble_eq_true rfl) (Nat.le_of_ble_eq_true rfl) ?_
                    refine s_place (h := σ 7 t 6) (b := σ 7 t 3) (z := σ 7 t 4) (by omega) (by omega) (hL.h7 (by omega) (by omega)) rfl rfl rfl (hL.1 t (by omega) (by omega)) full56 (fun ρ26 a_ρ26 r_ρ26 _ => ?_)
                    refine y_vret hK rfl dX5_give_179 ?_
                    exact k _ (GL.put (GL.rf (S := fun c x y => c = 7 ∧ y = 6 ∧ x ≠ i) hL) (by simp; omega) a_ρ26 r_ρ26)
                  · refine r_aload hC dX5_give_135 rfl ?_
                    refine r_dup hC dX5_give_137 rfl ?_
                    refine z_getI (jz := 11) hM dX5_give_138 fl_RX5_136 rfl rfl rfl (fun v27 h_v27 o_v27 t_v27 => ?_)
                    refine r_iconst hC dX5_give_141 rfl ?_
                    refine r_iaddG hC dX5_give_142 (fun v28 h_v28 => ?_)
                    refine z_putIU (jz := 11) hM dX5_give_143 fw_RX5_136 rfl rfl rfl (by simp [Un, Tb, DL, DF, DR]) (by simp [Okv]) ?_
                    refine y_vret hK rfl dX5_give_146 ?_
                    exact k _ (GL.rf (S := fun c x y => c = 7 ∧ y = 6 ∧ x ≠ i) hL)
                · refine y_vret hK rfl dX5_give_115 ?_
                  exact k _ (GL.rf (S := fun c x y => c = 7 ∧ y = 6 ∧ x ≠ i) hL)
              · refine r_aload_n hC dX5_give_72 rfl ?_
                refine r_iload hC dX5_give_73 rfl ?_
                refine r_aload_n hC dX5_give_75 rfl ?_
                refine z_getI (jz := 1) hM dX5_give_76 fl_RX5_218 rfl rfl rfl (fun v29 h_v29 o_v29 t_v29 => ?_)
                refine z_inv2 hM dX5_give_79 vl_RX5_221 rfl rfl rfl (Nat.le_of_ble_eq_true rfl) (Nat.le_of_ble_eq_true rfl) ?_
                refine s_startsSession (by omega) (by omega) (fun v30 h_v30 => ?_)
                refine r_if_ne (tgt := 91) hC dX5_give_82 rfl (fun h31 => ?_) (fun h31 => ?_)
                · refine r_aload_n hC dX5_give_91 rfl ?_
                  refine r_aload_n hC dX5_give_92 rfl ?_
                  refine r_iload hC dX5_give_93 rfl ?_
                  refine r_aload_n hC dX5_give_95 rfl ?_
                  refine z_getI (jz := 6) hM dX5_give_96 fl_RX5_154 rfl rfl rfl (fun v32 h_v32 o_v32 t_v32 => ?_)
                  have q_v32 : 0 ≤ v32 ∧ v32 ≤ 121 := o_v32.1 rfl
                  refine r_aload_n hC dX5_give_99 rfl ?_
                  refine z_getI (jz := 2) hM dX5_give_100 fl_RX5_224 rfl rfl rfl (fun v33 h_v33 o_v33 t_v33 => ?_)
                  refine z_inv4 hM dX5_give_103 vl_RX5_227 rfl rfl rfl (Nat.le_of_ble_eq_true rfl) (Nat.le_of_ble_eq_true rfl) ?_
                  refine s_comesTo (by omega) (by omega) (by omega) (fun v34 h_v34 => ?_)
                  refine r_istore hC dX5_give_106 rfl ?_
                  refine r_iload hC dX5_give_108 rfl ?_
                  refine r_ldc hC dX5_give_110 co_RX5_175 rfl ?_
                  refine r_icmp_ne (tgt := 116) hC dX5_give_112 rfl (fun h35 => ?_) (fun h35 => ?_)
                  · refine r_aload_n hC dX5_give_116 rfl ?_
                    refine z_getR hM dX5_give_117 fl_RX5_198 rfl rfl (vld_of (n := 7) rfl (by omega) (by omega)) ?_
                    refine r_iload hC dX5_give_120 rfl ?_
                    refine z_iald hM dX5_give_122 rfl (by omega) (by omega) (fun v36 h_v36 o_v36 t_v36 => ?_)
                    refine r_istore hC dX5_give_123 rfl ?_
                    refine r_aload hC dX5_give_125 rfl ?_
                    refine r_iload hC dX5_give_127 rfl ?_
                    refine z_inv1 hM dX5_give_129 vl_RX5_133 rfl rfl rfl (Nat.le_of_ble_eq_true rfl) (Nat.le_of_ble_eq_true rfl) ?_
                    refine s_isTooLate (by omega) (fun v37 h_v37 => ?_)
                    refine r_if_eq (tgt := 147) hC dX5_give_132 rfl (fun h38 => ?_) (fun h38 => ?_)
                    · refine r_aload_n hC dX5_give_147 rfl ?_
                      refine r_dup hC dX5_give_148 rfl ?_
                      refine z_getI (jz := 3) hM dX5_give_149 fl_RX5_231 rfl rfl rfl (fun v39 h_v39 o_v39 t_v39 => ?_)
                      refine r_iconst hC dX5_give_152 rfl ?_
                      refine r_iaddG hC dX5_give_153 (fun v40 h_v40 => ?_)
                      refine z_putIU (jz := 3) hM dX5_give_154 fw_RX5_231 rfl rfl rfl (by simp [Un, Tb, DL, DF, DR]) (by simp [Okv]) ?_
                      refine r_aload_n hC dX5_give_157 rfl ?_
                      refine r_aload hC dX5_give_158 rfl ?_
                      refine r_iload hC dX5_give_160 rfl ?_
                      refine r_sipush hC dX5_give_162 rfl ?_
                      refine r_sipush hC dX5_give_165 rfl ?_
                      refine r_iload hC dX5_give_168 rfl ?_
                      refine z_ins2 hM dX5_give_170 tl_RX5_234 rfl (Nat.le_of_ble_eq_true rfl) (Nat.le_of_ble_eq_true rfl) ?_
                      refine s_minx (fun v41 h_v41 => ?_)
                      refine z_ins2 hM dX5_give_173 tl_RX5_239 rfl (Nat.le_of_ble_eq_true rfl) (Nat.le_of_ble_eq_true rfl) ?_
                      refine s_maxx (fun v42 h_v42 => ?_)
                      refine z_inv3 hM dX5_give_176 vl_RX5_147 rfl rfl rfl (Nat.le_of_ble_eq_true rfl) (Nat.le_of_ble_eq_true rfl) ?_
                      refine s_place (h := σ 7 t 6) (b := σ 7 t 3) (z := σ 7 t 4) (by omega) (by omega) (hL.h7 (by omega) (by omega)) rfl rfl rfl (hL.1 t (by omega) (by omega)) full56 (fun ρ43 a_ρ43 r_ρ43 _ => ?_)
                      refine y_vret hK rfl dX5_give_179 ?_
                      exact k _ (GL.put (GL.rf (S := fun c x y => c = 7 ∧ y = 6 ∧ x ≠ i) hL) (by simp; omega) a_ρ43 r_ρ43)
                    · refine r_aload hC dX5_give_135 rfl ?_
                      refine r_dup hC dX5_give_137 rfl ?_
                      refine z_getI (jz := 11) hM dX5_give_138 fl_RX5_136 rfl rfl rfl (fun v44 h_v44 o_v44 t_v44 => ?_)
                      refine r_iconst hC dX5_give_141 rfl ?_
                      refine r_iaddG hC dX5_give_142 (fun v45 h_v45 => ?_)
                      refine z_putIU (jz := 11) hM dX5_give_143 fw_RX5_136 rfl rfl rfl (by simp [Un, Tb, DL, DF, DR]) (by simp [Okv]) ?_
                      refine y_vret hK rfl dX5_give_146 ?_
                      exact k _ (GL.rf (S := fun c x y => c = 7 ∧ y = 6 ∧ x ≠ i) hL)
                  · refine y_vret hK rfl dX5_give_115 ?_
                    exact k _ (GL.rf (S := fun c x y => c = 7 ∧ y = 6 ∧ x ≠ i) hL)
                · refine r_iincE hC ((w13 - 1)) dX5_give_85 rfl rfl (by omega) (by unfold inR; omega) ?_
                  refine r_goto (tgt := 67) hC dX5_give_88 rfl ?_
                  exact ih67 ((w13 - 1))  (by omega)  (by omega) 
          exact L67 122 ((v5 - 1))  (by omega)  (by omega) 
theorem s_noteMost {e : Ev} {d : Nat} {P : Option Vl → Mm → Prop} {σ : Mm}   (k : P none σ) : WT e (d + 2) 71 [vR 2 0] σ P := by
  refine WT_in fun K hK => ?_
  have hK : StpY e cX5_noteMost RX5 (none) (WT e (d + 1)) P K := hK
  have hM := hK.1
  have hC := hK.1.1
  show K 0 [some (vR 2 0), none] [] σ
  refine r_iconst hC dX5_noteMost_0 rfl ?_
  refine r_istore_n hC dX5_noteMost_1 rfl ?_
  have L2 : ∀ (n2 : Nat) (w1 : Int), 0 ≤ w1 ∧ w1 ≤ 4 → 4 - w1 < (n2 : Int) → K 2 [some (vR 2 0), some (vI w1)] [] σ := by
    intro n2
    induction n2 with
    | zero => intro w1  f_w1  hm ; omega
    | succ n2 ih2 =>
      intro w1  f_w1  hm2 
      refine r_iload_n hC dX5_noteMost_2 rfl ?_
      refine r_iconst hC dX5_noteMost_3 rfl ?_
      refine r_icmp_ge (tgt := 43) hC dX5_noteMost_4 rfl (fun h2 => ?_) (fun h2 => ?_)
      · refine y_vret hK rfl dX5_noteMost_43 ?_
        exact k
      · refine r_aload_n hC dX5_noteMost_7 rfl ?_
        refine z_getR hM dX5_noteMost_8 fl_RX5_13 rfl rfl (vld_of (n := 1) rfl (by omega) (by omega)) ?_
        refine r_iload_n hC dX5_noteMost_11 rfl ?_
        refine z_aald hM dX5_noteMost_12 rfl (by decide) (by omega) (by omega) (vld_of (n := 7) rfl (by omega) (by omega)) ?_
        refine r_aload_n hC dX5_noteMost_13 rfl ?_
        refine z_getR hM dX5_noteMost_14 fl_RX5_13 rfl rfl (vld_of (n := 1) rfl (by omega) (by omega)) ?_
        refine r_iload_n hC dX5_noteMost_17 rfl ?_
        refine z_aald hM dX5_noteMost_18 rfl (by decide) (by omega) (by omega) (vld_of (n := 7) rfl (by omega) (by omega)) ?_
        refine z_getI (jz := 15) hM dX5_noteMost_19 fl_RX5_242 rfl rfl rfl (fun v3 h_v3 o_v3 t_v3 => ?_)
        refine r_aload_n hC dX5_noteMost_22 rfl ?_
        refine z_getR hM dX5_noteMost_23 fl_RX5_13 rfl rfl (vld_of (n := 1) rfl (by omega) (by omega)) ?_
        refine r_iload_n hC dX5_noteMost_26 rfl ?_
        refine z_aald hM dX5_noteMost_27 rfl (by decide) (by omega) (by omega) (vld_of (n := 7) rfl (by omega) (by omega)) ?_
        refine z_getI (jz := 6) hM dX5_noteMost_28 fl_RX5_154 rfl rfl rfl (fun v4 h_v4 o_v4 t_v4 => ?_)
        have q_v4 : 0 ≤ v4 ∧ v4 ≤ 121 := o_v4.1 rfl
        refine z_ins2 hM dX5_noteMost_31 tl_RX5_239 rfl (Nat.le_of_ble_eq_true rfl) (Nat.le_of_ble_eq_true rfl) ?_
        refine s_maxx (fun v5 h_v5 => ?_)
        refine z_putIU (jz := 15) hM dX5_noteMost_34 fw_RX5_242 rfl rfl rfl (by simp [Un, Tb, DL, DF, DR]) (by simp [Okv]) ?_
        refine r_iincE hC ((w1 + 1)) dX5_noteMost_37 rfl rfl (by omega) (by unfold inR; omega) ?_
        refine r_goto (tgt := 2) hC dX5_noteMost_40 rfl ?_
        exact ih2 ((w1 + 1))  (by omega)  (by omega) 
  exact L2 6 (0)  (by omega)  (by omega) 
theorem s_come_S {d : Nat} {P : Option Vl → Mm → Prop} {σ : Mm} {l t v h b : Int} (qg0 : σ 7 l 6 = h) (qg1 : σ 7 l 3 = b) (hL : InL σ) (hnum : ∀ i : Int, 0 ≤ i → i ≤ 3 → σ 7 i 0 = i) (hto : ∀ i : Int, 0 ≤ i → i ≤ 3 → σ 13 i 0 ≠ i)  (k : ∀ (r : Int) (ρ : Mm), GL (fun c x y => c = 7 ∧ y = 6) σ ρ → P (some (vI r)) ρ) : WT (true, false, false) (d + 8) 61 [vR 2 0, vI l, vI t, vI v] σ P := by
  refine WT_in fun K hK => ?_
  have hK : StpY (true, false, false) cX5_come RX5 (some .int) (WT (true, false, false) (d + 7)) P K := hK
  have hM := hK.1
  have hC := hK.1.1
  show K 0 [some (vR 2 0), some (vI l), some (vI t), some (vI v), none] [] σ
  refine r_rngz hC (fun g0 => ?_)
  have r_l : -2147483648 ≤ l ∧ l ≤ 2147483647 := inR_le (g0 (vI l) (by simp))
  have r_t : -2147483648 ≤ t ∧ t ≤ 2147483647 := inR_le (g0 (vI t) (by simp))
  have r_v : -2147483648 ≤ v ∧ v ≤ 2147483647 := inR_le (g0 (vI v) (by simp))
  refine r_aload_n hC dX5_come_0 rfl ?_
  refine r_iload_n hC dX5_come_1 rfl ?_
  refine z_inv1 hM dX5_come_2 vl_RX5_123 rfl rfl rfl (Nat.le_of_ble_eq_true rfl) (Nat.le_of_ble_eq_true rfl) ?_
  refine s_openLane ?_ (fun h1 => ?_)
  · refine r_astoreN hC dX5_come_5 rfl ?_
    refine r_aloadN hC dX5_come_7 rfl ?_
    refine r_ifnullN (tgt := 26) hC dX5_come_9 rfl ?_
    refine r_iconst hC dX5_come_26 rfl ?_
    refine y_iret hK rfl dX5_come_27 ?_
    exact k _ _ (GL.rf (S := fun c x y => c = 7 ∧ y = 6) hL)
  · have b_h1 : 0 ≤ h ∧ h ≤ 120 := by have := InL.h7 hL (i := l) (by omega) (by omega); have := qg0; omega
    refine r_astore hC dX5_come_5 rfl ?_
    refine r_aload hC dX5_come_7 rfl ?_
    refine r_ifnullR hC dX5_come_9 ?_
    refine r_iload_n hC dX5_come_12 rfl ?_
    refine z_ins1 hM dX5_come_13 tl_RX5_127 rfl (Nat.le_of_ble_eq_true rfl) (Nat.le_of_ble_eq_true rfl) ?_
    refine s_isTime (fun h3 => ?_) (fun h3 => ?_)
    · refine r_if_eq (tgt := 26) hC dX5_come_16 rfl (fun h4 => by omega) (fun h4 => ?_)
      refine r_iload_n hC dX5_come_19 rfl ?_
      refine z_ins1 hM dX5_come_20 tl_RX5_130 rfl (Nat.le_of_ble_eq_true rfl) (Nat.le_of_ble_eq_true rfl) ?_
      refine s_isValue (fun h6 => ?_) (fun h6 => ?_)
      · refine r_if_ne (tgt := 28) hC dX5_come_23 rfl (fun h7 => ?_) (fun h7 => by omega)
        refine r_aload hC dX5_come_28 rfl ?_
        refine r_iload_n hC dX5_come_30 rfl ?_
        refine z_inv1 hM dX5_come_31 vl_RX5_133 rfl rfl rfl (Nat.le_of_ble_eq_true rfl) (Nat.le_of_ble_eq_true rfl) ?_
        refine s_isTooLate (by omega) (fun v8 h_v8 => ?_)
        refine r_if_eq (tgt := 51) hC dX5_come_34 rfl (fun h9 => ?_) (fun h9 => ?_)
        · refine r_aload hC dX5_come_51 rfl ?_
          refine z_inv0 hM dX5_come_53 vl_RX5_139 rfl rfl rfl (Nat.le_of_ble_eq_true rfl) (Nat.le_of_ble_eq_true rfl) ?_
          refine s_isFullL (by omega) ?_ (fun full53 => ?_)
          · refine r_if_eq (tgt := 61) hC dX5_come_56 rfl (fun h10 => by omega) (fun h10 => ?_)
            refine r_iconst hC dX5_come_59 rfl ?_
            refine y_iret hK rfl dX5_come_60 ?_
            exact k _ _ (GL.rf (S := fun c x y => c = 7 ∧ y = 6) hL)
          · have ffull53 : b ≠ 1 → h ≤ 119 := by have hq := qg0; have hr := qg1; omega
            refine r_if_eq (tgt := 61) hC dX5_come_56 rfl (fun h11 => ?_) (fun h11 => by omega)
            refine r_aload_n hC dX5_come_61 rfl ?_
            refine r_aload hC dX5_come_62 rfl ?_
            refine r_iload_n hC dX5_come_64 rfl ?_
            refine z_inv2 hM dX5_come_65 vl_RX5_143 rfl rfl rfl (Nat.le_of_ble_eq_true rfl) (Nat.le_of_ble_eq_true rfl) ?_
            refine s_give (t := σ 13 l 0) (by omega) (by have hq := hnum l (by omega) (by omega); have hg := (GL.rf (S := fun c x y => c = 7 ∧ y = 6) hL).1 7 l 0 (by simp); omega) rfl (GL.rf (S := fun c x y => c = 7 ∧ y = 6) hL).2 (by have hq := hto l (by omega) (by omega); have hg := (GL.rf (S := fun c x y => c = 7 ∧ y = 6) hL).1 13 l 0 (by simp); omega) (fun ρ12 g_ρ12 => ?_)
            refine r_aload_n hC dX5_come_68 rfl ?_
            refine r_aload hC dX5_come_69 rfl ?_
            refine r_iload_n hC dX5_come_71 rfl ?_
            refine r_iload_n hC dX5_come_72 rfl ?_
            refine z_inv3 hM dX5_come_73 vl_RX5_147 rfl rfl rfl (Nat.le_of_ble_eq_true rfl) (Nat.le_of_ble_eq_true rfl) ?_
            refine s_place (h := h) (b := b) (z := ρ12 7 l 4) (by omega) (by omega) (by have hq := (GL.gl (GL.rf (S := fun c x y => c = 7 ∧ y = 6) hL) g_ρ12 (by intro c x y h; omega)).2.h7 (i := l) (by omega) (by omega); have hr := ((g_ρ12.1 _ _ _ (by omega)).trans qg0); omega) ((g_ρ12.1 _ _ _ (by omega)).trans qg0) ((g_ρ12.1 _ _ _ (by omega)).trans qg1) rfl (by have hq := (GL.gl (GL.rf (S := fun c x y => c = 7 ∧ y = 6) hL) g_ρ12 (by intro c x y h; omega)).2.1 l (by omega) (by omega); rw [((g_ρ12.1 _ _ _ (by omega)).trans qg0), ((g_ρ12.1 _ _ _ (by omega)).trans qg1)] at hq; exact hq) (by omega) (fun ρ13 a_ρ13 r_ρ13 l_ρ13 => ?_)
            obtain ⟨x14, e_x14⟩ : ∃ v, ρ13 7 l 6 = v := ⟨_, rfl⟩
            have b_x14 : 0 ≤ x14 ∧ x14 ≤ 120 := by have hr := r_ρ13; unfold Rst at hr; have hq := (GL.gl (GL.rf (S := fun c x y => c = 7 ∧ y = 6) hL) g_ρ12 (by intro c x y h; omega)).2.1 l (by omega) (by omega); unfold Rst at hq; rw [((g_ρ12.1 _ _ _ (by omega)).trans qg0), ((g_ρ12.1 _ _ _ (by omega)).trans qg1)] at hq; omega
            refine r_aload_n hC dX5_come_76 rfl ?_
            refine z_inv0 hM dX5_come_77 vl_RX5_151 rfl rfl rfl (Nat.le_of_ble_eq_true rfl) (Nat.le_of_ble_eq_true rfl) ?_
            refine s_noteMost ?_
            refine r_aload hC dX5_come_80 rfl ?_
            refine z_getI (jz := 6) hM dX5_come_82 fl_RX5_154 rfl rfl rfl (fun v15 h_v15 o_v15 t_v15 => ?_)
            have e_v15 : x14 = v15 := ((t_v15 (Or.inr (Or.inl ⟨rfl, Or.inr (Or.inr rfl)⟩))).trans e_x14).symm
            subst e_v15
            refine y_iret hK rfl dX5_come_85 ?_
            exact k _ _ (GL.put (GL.gl (GL.rf (S := fun c x y => c = 7 ∧ y = 6) hL) g_ρ12 (by intro c x y h; omega)) (by simp) a_ρ13 (by have hq := r_ρ13; rw [← ((g_ρ12.1 _ _ _ (by omega)).trans qg1)] at hq; exact hq))
        · refine r_aload hC dX5_come_37 rfl ?_
          refine r_dup hC dX5_come_39 rfl ?_
          refine z_getI (jz := 11) hM dX5_come_40 fl_RX5_136 rfl rfl rfl (fun v16 h_v16 o_v16 t_v16 => ?_)
          refine r_iconst hC dX5_come_43 rfl ?_
          refine r_iaddG hC dX5_come_44 (fun v17 h_v17 => ?_)
          refine z_putIU (jz := 11) hM dX5_come_45 fw_RX5_136 rfl rfl rfl (by simp [Un, Tb, DL, DF, DR]) (by simp [Okv]) ?_
          refine r_bipush hC dX5_come_48 rfl ?_
          refine y_iret hK rfl dX5_come_50 ?_
          exact k _ _ (GL.rf (S := fun c x y => c = 7 ∧ y = 6) hL)
      · refine r_if_ne (tgt := 28) hC dX5_come_23 rfl (fun h18 => by omega) (fun h18 => ?_)
        refine r_iconst hC dX5_come_26 rfl ?_
        refine y_iret hK rfl dX5_come_27 ?_
        exact k _ _ (GL.rf (S := fun c x y => c = 7 ∧ y = 6) hL)
    · refine r_if_eq (tgt := 26) hC dX5_come_16 rfl (fun h19 => ?_) (fun h19 => by omega)
      refine r_iconst hC dX5_come_26 rfl ?_
      refine y_iret hK rfl dX5_come_27 ?_
      exact k _ _ (GL.rf (S := fun c x y => c = 7 ∧ y = 6) hL)
theorem s_come {d : Nat} {P : Option Vl → Mm → Prop} {σ : Mm} {l t v : Int} (hnum : ∀ i : Int, 0 ≤ i → i ≤ 3 → σ 7 i 0 = i) (hto : ∀ i : Int, 0 ≤ i → i ≤ 3 → σ 13 i 0 ≠ i) (k : ∀ r : Int, P (some (vI r)) σ) : WT (false, false, false) (d + 8) 61 [vR 2 0, vI l, vI t, vI v] σ P := by
  refine WT_loose (true, false, false) (fun h => by cases h) (fun h => h) (fun c j q => ?_) (fun ρ hL hF hT hO => ?_)
  · rcases q with q | q | q | q
    · exact Or.inl q
    · cases q.1
    · cases q.1
    · exact Or.inr (Or.inr (Or.inr q))
  · refine s_come_S (qg0 := rfl) (qg1 := rfl) (hL rfl) (fun i h0 h1 => (hT 7 i 0 (Or.inl (by simp [Tb]))).trans (hnum i h0 h1)) (fun i h0 h1 => by rw [hT 13 i 0 (Or.inl (by simp [Tb]))]; exact hto i h0 h1) (fun r ρ2 h2 => ⟨σ, k r, fun _ => Or.inr h2.2, fun _ => Or.inl rfl, fun c i j q => ?_⟩)
    rw [h2.1 c i j ?_]
    · exact hT c i j q
    · rintro ⟨rfl, rfl⟩
      rcases q with q | q | q | q
      · simp [Tb] at q
      · cases q.1
      · cases q.1
      · cases q.1
theorem lin_btw {v m s i : Int} (h0 : 0 ≤ i) (h1 : i ≤ m) (ha : -1000 ≤ v ∧ v ≤ 1000) (hb : -1000 ≤ v + m * s ∧ v + m * s ≤ 1000) : -1000 ≤ v + i * s ∧ v + i * s ≤ 1000 := by
  rcases Int.le_total 0 s with hs | hs
  · have q0 := Int.mul_nonneg h0 hs
    have q1 := Int.mul_le_mul_of_nonneg_right h1 hs
    omega
  · have q0 := Int.mul_nonneg h0 (show 0 ≤ -s by omega)
    have q1 := Int.mul_le_mul_of_nonneg_right h1 (show 0 ≤ -s by omega)
    rw [Int.mul_neg] at q0 q1
    rw [Int.mul_neg] at q1
    omega
theorem s_burst_S {d : Nat} {P : Option Vl → Mm → Prop} {σ : Mm} {l m v z h b : Int} (qg0 : σ 7 l 6 = h) (qg1 : σ 7 l 3 = b) (hL : InL σ) (hnum : ∀ i : Int, 0 ≤ i → i ≤ 3 → σ 7 i 0 = i) (hto : ∀ i : Int, 0 ≤ i → i ≤ 3 → σ 13 i 0 ≠ i)  (k : ∀ (r : Int) (ρ : Mm), GL (fun c x y => c = 7 ∧ y = 6) σ ρ → P (some (vI r)) ρ) : WT (true, false, false) (d + 8) 62 [vR 2 0, vI l, vI m, vI v, vI z] σ P := by
  refine WT_in fun K hK => ?_
  have hK : StpY (true, false, false) cX5_burst RX5 (some .int) (WT (true, false, false) (d + 7)) P K := hK
  have hM := hK.1
  have hC := hK.1.1
  show K 0 [some (vR 2 0), some (vI l), some (vI m), some (vI v), some (vI z), none, none, none] [] σ
  refine r_rngz hC (fun g0 => ?_)
  have r_l : -2147483648 ≤ l ∧ l ≤ 2147483647 := inR_le (g0 (vI l) (by simp))
  have r_m : -2147483648 ≤ m ∧ m ≤ 2147483647 := inR_le (g0 (vI m) (by simp))
  have r_v : -2147483648 ≤ v ∧ v ≤ 2147483647 := inR_le (g0 (vI v) (by simp))
  have r_z : -2147483648 ≤ z ∧ z ≤ 2147483647 := inR_le (g0 (vI z) (by simp))
  refine r_aload_n hC dX5_burst_0 rfl ?_
  refine r_iload_n hC dX5_burst_1 rfl ?_
  refine z_inv1 hM dX5_burst_2 vl_RX5_123 rfl rfl rfl (Nat.le_of_ble_eq_true rfl) (Nat.le_of_ble_eq_true rfl) ?_
  refine s_openLane ?_ (fun h1 => ?_)
  · refine r_astoreN hC dX5_burst_5 rfl ?_
    refine r_aloadN hC dX5_burst_7 rfl ?_
    refine r_ifnullN (tgt := 36) hC dX5_burst_9 rfl ?_
    refine r_iconst hC dX5_burst_36 rfl ?_
    refine y_iret hK rfl dX5_burst_37 ?_
    exact k _ _ (GL.rf (S := fun c x y => c = 7 ∧ y = 6) hL)
  · have b_h1 : 0 ≤ h ∧ h ≤ 120 := by have := InL.h7 hL (i := l) (by omega) (by omega); have := qg0; omega
    refine r_astore hC dX5_burst_5 rfl ?_
    refine r_aload hC dX5_burst_7 rfl ?_
    refine r_ifnullR hC dX5_burst_9 ?_
    refine r_iload_n hC dX5_burst_12 rfl ?_
    refine r_iconst hC dX5_burst_13 rfl ?_
    refine r_bipush hC dX5_burst_14 rfl ?_
    refine z_ins3 hM dX5_burst_16 tl_RX5_59 rfl (Nat.le_of_ble_eq_true rfl) (Nat.le_of_ble_eq_true rfl) ?_
    refine s_within (fun h3 => ?_) (fun h3 => ?_)
    · refine r_if_eq (tgt := 36) hC dX5_burst_19 rfl (fun h4 => by omega) (fun h4 => ?_)
      refine r_iload hC dX5_burst_22 rfl ?_
      refine r_sipush hC dX5_burst_24 rfl ?_
      refine r_sipush hC dX5_burst_27 rfl ?_
      refine z_ins3 hM dX5_burst_30 tl_RX5_59 rfl (Nat.le_of_ble_eq_true rfl) (Nat.le_of_ble_eq_true rfl) ?_
      refine s_within (fun h6 => ?_) (fun h6 => ?_)
      · refine r_if_ne (tgt := 38) hC dX5_burst_33 rfl (fun h7 => ?_) (fun h7 => by omega)
        refine r_iload_n hC dX5_burst_38 rfl ?_
        refine z_ins1 hM dX5_burst_39 tl_RX5_130 rfl (Nat.le_of_ble_eq_true rfl) (Nat.le_of_ble_eq_true rfl) ?_
        refine s_isValue (fun h9 => ?_) (fun h9 => ?_)
        · refine r_if_eq (tgt := 72) hC dX5_burst_42 rfl (fun h10 => by omega) (fun h10 => ?_)
          refine r_iload_n hC dX5_burst_45 rfl ?_
          refine r_iload_n hC dX5_burst_46 rfl ?_
          refine r_iconst hC dX5_burst_47 rfl ?_
          refine r_isubE hC ((m - 1)) dX5_burst_48 (by omega) (by unfold inR; omega) ?_
          refine r_iload hC dX5_burst_49 rfl ?_
          have m11 := mul_bd (a := (m - 1)) (b := z) (A := 39) (B := 1000) (by omega) (by omega) (by omega) (by omega)
          refine r_imulE hC (((m - 1) * z)) dX5_burst_51 (by omega) (by unfold inR; omega) ?_
          refine r_iaddE hC ((v + ((m - 1) * z))) dX5_burst_52 (by omega) (by unfold inR; omega) ?_
          refine z_ins1 hM dX5_burst_53 tl_RX5_130 rfl (Nat.le_of_ble_eq_true rfl) (Nat.le_of_ble_eq_true rfl) ?_
          refine s_isValue (fun h13 => ?_) (fun h13 => ?_)
          · refine r_if_eq (tgt := 72) hC dX5_burst_56 rfl (fun h14 => by omega) (fun h14 => ?_)
            refine r_aload hC dX5_burst_59 rfl ?_
            refine z_getI (jz := 10) hM dX5_burst_61 fl_RX5_157 rfl rfl rfl (fun v15 h_v15 o_v15 t_v15 => ?_)
            refine r_iload_n hC dX5_burst_64 rfl ?_
            refine r_iaddG hC dX5_burst_65 (fun v16 h_v16 => ?_)
            refine z_ins1 hM dX5_burst_66 tl_RX5_127 rfl (Nat.le_of_ble_eq_true rfl) (Nat.le_of_ble_eq_true rfl) ?_
            refine s_isTime (fun h18 => ?_) (fun h18 => ?_)
            · refine r_if_ne (tgt := 74) hC dX5_burst_69 rfl (fun h19 => ?_) (fun h19 => by omega)
              refine r_aload hC dX5_burst_74 rfl ?_
              refine z_getI (jz := 3) hM dX5_burst_76 fl_RX5_160 rfl rfl rfl (fun v20 h_v20 o_v20 t_v20 => ?_)
              have e_v20 : b = v20 := ((t_v20 (Or.inr (Or.inl ⟨rfl, Or.inl rfl⟩))).trans qg1).symm
              subst e_v20
              refine r_iconst hC dX5_burst_79 rfl ?_
              refine r_icmp_eq (tgt := 97) hC dX5_burst_80 rfl (fun h21 => ?_) (fun h21 => ?_)
              · refine r_iconst hC dX5_burst_97 rfl ?_
                refine r_istore hC dX5_burst_98 rfl ?_
                have L100 : ∀ (n100 : Nat) (w22 w23 : Int) (ρ24 : Mm), 0 ≤ w22 ∧ w22 ≤ 40 → 0 ≤ w23 ∧ w23 ≤ 120 → (b ≠ 1 → (w23) + m - (w22) ≤ 120) → ((w22) ≤ m) → 40 - w22 < (n100 : Int) → GL (fun c x y => c = 7 ∧ y = 6) σ ρ24 → ρ24 7 l 6 = w23 → ρ24 7 l 3 = b → K 100 [some (vR 2 0), some (vI l), some (vI m), some (vI v), some (vI z), some (vR 7 l), some (vI w22), none] [] ρ24 := by
                  intro n100
                  induction n100 with
                  | zero => intro w22 w23 ρ24 f_w22 f_w23 i0_100 i1_100 hm g_ρ24 q0_ρ24 q1_ρ24; omega
                  | succ n100 ih100 =>
                    intro w22 w23 ρ24 f_w22 f_w23 i0_100 i1_100 hm100 g_ρ24 q0_ρ24 q1_ρ24
                    refine r_iload hC dX5_burst_100 rfl ?_
                    refine r_iload_n hC dX5_burst_102 rfl ?_
                    refine r_icmp_ge (tgt := 144) hC dX5_burst_103 rfl (fun h25 => ?_) (fun h25 => ?_)
                    · refine r_aload_n hC dX5_burst_144 rfl ?_
                      refine z_inv0 hM dX5_burst_145 vl_RX5_151 rfl rfl rfl (Nat.le_of_ble_eq_true rfl) (Nat.le_of_ble_eq_true rfl) ?_
                      refine s_noteMost ?_
                      refine r_aload hC dX5_burst_148 rfl ?_
                      refine z_getI (jz := 6) hM dX5_burst_150 fl_RX5_154 rfl rfl rfl (fun v26 h_v26 o_v26 t_v26 => ?_)
                      have e_v26 : w23 = v26 := ((t_v26 (Or.inr (Or.inl ⟨rfl, Or.inr (Or.inr rfl)⟩))).trans q0_ρ24).symm
                      subst e_v26
                      refine y_iret hK rfl dX5_burst_153 ?_
                      exact k _ _ (g_ρ24)
                    · refine r_aload hC dX5_burst_106 rfl ?_
                      refine z_getI (jz := 10) hM dX5_burst_108 fl_RX5_157 rfl rfl rfl (fun v27 h_v27 o_v27 t_v27 => ?_)
                      refine r_iconst hC dX5_burst_111 rfl ?_
                      refine r_iaddG hC dX5_burst_112 (fun v28 h_v28 => ?_)
                      refine r_istore hC dX5_burst_113 rfl ?_
                      refine r_aload_n hC dX5_burst_115 rfl ?_
                      refine r_aload hC dX5_burst_116 rfl ?_
                      refine r_iload hC dX5_burst_118 rfl ?_
                      refine z_inv2 hM dX5_burst_120 vl_RX5_143 rfl rfl rfl (Nat.le_of_ble_eq_true rfl) (Nat.le_of_ble_eq_true rfl) ?_
                      refine s_give (t := ρ24 13 l 0) (by omega) (by have hq := hnum l (by omega) (by omega); have hg := (g_ρ24).1 7 l 0 (by simp); omega) rfl (g_ρ24).2 (by have hq := hto l (by omega) (by omega); have hg := (g_ρ24).1 13 l 0 (by simp); omega) (fun ρ29 g_ρ29 => ?_)
                      refine r_aload_n hC dX5_burst_123 rfl ?_
                      refine r_aload hC dX5_burst_124 rfl ?_
                      refine r_iload hC dX5_burst_126 rfl ?_
                      refine r_iload_n hC dX5_burst_128 rfl ?_
                      refine r_iload hC dX5_burst_129 rfl ?_
                      refine r_iload hC dX5_burst_131 rfl ?_
                      have m30 := mul_bd (a := w22) (b := z) (A := 39) (B := 1000) (by omega) (by omega) (by omega) (by omega)
                      refine r_imulE hC ((w22 * z)) dX5_burst_133 (by omega) (by unfold inR; omega) ?_
                      refine r_iaddE hC ((v + (w22 * z))) dX5_burst_134 (by omega) (by unfold inR; omega) ?_
                      refine z_inv3 hM dX5_burst_135 vl_RX5_147 rfl rfl rfl (Nat.le_of_ble_eq_true rfl) (Nat.le_of_ble_eq_true rfl) ?_
                      have lb := lin_btw (v := v) (s := z) (i := w22) (m := (m - 1)) (by omega) (by omega) (by omega) (by omega)
                      refine s_place (h := w23) (b := b) (z := ρ29 7 l 4) (by omega) (by omega) (by have hq := (GL.gl (g_ρ24) g_ρ29 (by intro c x y h; omega)).2.h7 (i := l) (by omega) (by omega); have hr := ((g_ρ29.1 _ _ _ (by omega)).trans q0_ρ24); omega) ((g_ρ29.1 _ _ _ (by omega)).trans q0_ρ24) ((g_ρ29.1 _ _ _ (by omega)).trans q1_ρ24) rfl (by have hq := (GL.gl (g_ρ24) g_ρ29 (by intro c x y h; omega)).2.1 l (by omega) (by omega); rw [((g_ρ29.1 _ _ _ (by omega)).trans q0_ρ24), ((g_ρ29.1 _ _ _ (by omega)).trans q1_ρ24)] at hq; exact hq) (by omega) (fun ρ31 a_ρ31 r_ρ31 l_ρ31 => ?_)
                      obtain ⟨x32, e_x32⟩ : ∃ v, ρ31 7 l 6 = v := ⟨_, rfl⟩
                      have b_x32 : 0 ≤ x32 ∧ x32 ≤ 120 := by have hr := r_ρ31; unfold Rst at hr; have hq := (GL.gl (g_ρ24) g_ρ29 (by intro c x y h; omega)).2.1 l (by omega) (by omega); unfold Rst at hq; rw [((g_ρ29.1 _ _ _ (by omega)).trans q0_ρ24), ((g_ρ29.1 _ _ _ (by omega)).trans q1_ρ24)] at hq; omega
                      refine r_iincE hC ((w22 + 1)) dX5_burst_138 rfl rfl (by omega) (by unfold inR; omega) ?_
                      refine r_goto (tgt := 100) hC dX5_burst_141 rfl ?_
                      refine r_forget hC (ls2 := [some (vR 2 0), some (vI l), some (vI m), some (vI v), some (vI z), some (vR 7 l), some (vI (w22 + 1)), none]) (lsub_some (lsub_some (lsub_some (lsub_some (lsub_some (lsub_some (lsub_some (lsub_none lsub_nil)))))))) ?_
                      exact ih100 ((w22 + 1)) (x32) ρ31 (by omega) (by omega) (by omega) (by omega) (by omega) (GL.put (GL.gl (g_ρ24) g_ρ29 (by intro c x y h; omega)) (by simp) a_ρ31 (by have hq := r_ρ31; rw [← ((g_ρ29.1 _ _ _ (by omega)).trans q1_ρ24)] at hq; exact hq)) (by have hq := e_x32; omega) (by have hq := ((a_ρ31 _ _ _ (by omega)).trans ((g_ρ29.1 _ _ _ (by omega)).trans q1_ρ24)); omega)
                exact L100 42 (0) (h) σ (by omega) (by omega) (by omega) (by omega) (by omega) (GL.rf (S := fun c x y => c = 7 ∧ y = 6) hL) (by have hq := qg0; omega) (by have hq := qg1; omega)
              · refine r_aload hC dX5_burst_83 rfl ?_
                refine z_getI (jz := 6) hM dX5_burst_85 fl_RX5_154 rfl rfl rfl (fun v33 h_v33 o_v33 t_v33 => ?_)
                have e_v33 : h = v33 := ((t_v33 (Or.inr (Or.inl ⟨rfl, Or.inr (Or.inr rfl)⟩))).trans qg0).symm
                subst e_v33
                refine r_iload_n hC dX5_burst_88 rfl ?_
                refine r_iaddE hC ((h + m)) dX5_burst_89 (by omega) (by unfold inR; omega) ?_
                refine r_bipush hC dX5_burst_90 rfl ?_
                refine r_icmp_le (tgt := 97) hC dX5_burst_92 rfl (fun h34 => ?_) (fun h34 => ?_)
                · refine r_iconst hC dX5_burst_97 rfl ?_
                  refine r_istore hC dX5_burst_98 rfl ?_
                  have L100 : ∀ (n100 : Nat) (w35 w36 : Int) (ρ37 : Mm), 0 ≤ w35 ∧ w35 ≤ 40 → 0 ≤ w36 ∧ w36 ≤ 120 → (b ≠ 1 → (w36) + m - (w35) ≤ 120) → ((w35) ≤ m) → 40 - w35 < (n100 : Int) → GL (fun c x y => c = 7 ∧ y = 6) σ ρ37 → ρ37 7 l 6 = w36 → ρ37 7 l 3 = b → K 100 [some (vR 2 0), some (vI l), some (vI m), some (vI v), some (vI z), some (vR 7 l), some (vI w35), none] [] ρ37 := by
                    intro n100
                    induction n100 with
                    | zero => intro w35 w36 ρ37 f_w35 f_w36 i0_100 i1_100 hm g_ρ37 q0_ρ37 q1_ρ37; omega
                    | succ n100 ih100 =>
                      intro w35 w36 ρ37 f_w35 f_w36 i0_100 i1_100 hm100 g_ρ37 q0_ρ37 q1_ρ37
                      refine r_iload hC dX5_burst_100 rfl ?_
                      refine r_iload_n hC dX5_burst_102 rfl ?_
                      refine r_icmp_ge (tgt := 144) hC dX5_burst_103 rfl (fun h38 => ?_) (fun h38 => ?_)
                      · refine r_aload_n hC dX5_burst_144 rfl ?_
                        refine z_inv0 hM dX5_burst_145 vl_RX5_151 rfl rfl rfl (Nat.le_of_ble_eq_true rfl) (Nat.le_of_ble_eq_true rfl) ?_
                        refine s_noteMost ?_
                        refine r_aload hC dX5_burst_148 rfl ?_
                        refine z_getI (jz := 6) hM dX5_burst_150 fl_RX5_154 rfl rfl rfl (fun v39 h_v39 o_v39 t_v39 => ?_)
                        have e_v39 : w36 = v39 := ((t_v39 (Or.inr (Or.inl ⟨rfl, Or.inr (Or.inr rfl)⟩))).trans q0_ρ37).symm
                        subst e_v39
                        refine y_iret hK rfl dX5_burst_153 ?_
                        exact k _ _ (g_ρ37)
                      · refine r_aload hC dX5_burst_106 rfl ?_
                        refine z_getI (jz := 10) hM dX5_burst_108 fl_RX5_157 rfl rfl rfl (fun v40 h_v40 o_v40 t_v40 => ?_)
                        refine r_iconst hC dX5_burst_111 rfl ?_
                        refine r_iaddG hC dX5_burst_112 (fun v41 h_v41 => ?_)
                        refine r_istore hC dX5_burst_113 rfl ?_
                        refine r_aload_n hC dX5_burst_115 rfl ?_
                        refine r_aload hC dX5_burst_116 rfl ?_
                        refine r_iload hC dX5_burst_118 rfl ?_
                        refine z_inv2 hM dX5_burst_120 vl_RX5_143 rfl rfl rfl (Nat.le_of_ble_eq_true rfl) (Nat.le_of_ble_eq_true rfl) ?_
                        refine s_give (t := ρ37 13 l 0) (by omega) (by have hq := hnum l (by omega) (by omega); have hg := (g_ρ37).1 7 l 0 (by simp); omega) rfl (g_ρ37).2 (by have hq := hto l (by omega) (by omega); have hg := (g_ρ37).1 13 l 0 (by simp); omega) (fun ρ42 g_ρ42 => ?_)
                        refine r_aload_n hC dX5_burst_123 rfl ?_
                        refine r_aload hC dX5_burst_124 rfl ?_
                        refine r_iload hC dX5_burst_126 rfl ?_
                        refine r_iload_n hC dX5_burst_128 rfl ?_
                        refine r_iload hC dX5_burst_129 rfl ?_
                        refine r_iload hC dX5_burst_131 rfl ?_
                        have m43 := mul_bd (a := w35) (b := z) (A := 39) (B := 1000) (by omega) (by omega) (by omega) (by omega)
                        refine r_imulE hC ((w35 * z)) dX5_burst_133 (by omega) (by unfold inR; omega) ?_
                        refine r_iaddE hC ((v + (w35 * z))) dX5_burst_134 (by omega) (by unfold inR; omega) ?_
                        refine z_inv3 hM dX5_burst_135 vl_RX5_147 rfl rfl rfl (Nat.le_of_ble_eq_true rfl) (Nat.le_of_ble_eq_true rfl) ?_
                        have lb := lin_btw (v := v) (s := z) (i := w35) (m := (m - 1)) (by omega) (by omega) (by omega) (by omega)
                        refine s_place (h := w36) (b := b) (z := ρ42 7 l 4) (by omega) (by omega) (by have hq := (GL.gl (g_ρ37) g_ρ42 (by intro c x y h; omega)).2.h7 (i := l) (by omega) (by omega); have hr := ((g_ρ42.1 _ _ _ (by omega)).trans q0_ρ37); omega) ((g_ρ42.1 _ _ _ (by omega)).trans q0_ρ37) ((g_ρ42.1 _ _ _ (by omega)).trans q1_ρ37) rfl (by have hq := (GL.gl (g_ρ37) g_ρ42 (by intro c x y h; omega)).2.1 l (by omega) (by omega); rw [((g_ρ42.1 _ _ _ (by omega)).trans q0_ρ37), ((g_ρ42.1 _ _ _ (by omega)).trans q1_ρ37)] at hq; exact hq) (by omega) (fun ρ44 a_ρ44 r_ρ44 l_ρ44 => ?_)
                        obtain ⟨x45, e_x45⟩ : ∃ v, ρ44 7 l 6 = v := ⟨_, rfl⟩
                        have b_x45 : 0 ≤ x45 ∧ x45 ≤ 120 := by have hr := r_ρ44; unfold Rst at hr; have hq := (GL.gl (g_ρ37) g_ρ42 (by intro c x y h; omega)).2.1 l (by omega) (by omega); unfold Rst at hq; rw [((g_ρ42.1 _ _ _ (by omega)).trans q0_ρ37), ((g_ρ42.1 _ _ _ (by omega)).trans q1_ρ37)] at hq; omega
                        refine r_iincE hC ((w35 + 1)) dX5_burst_138 rfl rfl (by omega) (by unfold inR; omega) ?_
                        refine r_goto (tgt := 100) hC dX5_burst_141 rfl ?_
                        refine r_forget hC (ls2 := [some (vR 2 0), some (vI l), some (vI m), some (vI v), some (vI z), some (vR 7 l), some (vI (w35 + 1)), none]) (lsub_some (lsub_some (lsub_some (lsub_some (lsub_some (lsub_some (lsub_some (lsub_none lsub_nil)))))))) ?_
                        exact ih100 ((w35 + 1)) (x45) ρ44 (by omega) (by omega) (by omega) (by omega) (by omega) (GL.put (GL.gl (g_ρ37) g_ρ42 (by intro c x y h; omega)) (by simp) a_ρ44 (by have hq := r_ρ44; rw [← ((g_ρ42.1 _ _ _ (by omega)).trans q1_ρ37)] at hq; exact hq)) (by have hq := e_x45; omega) (by have hq := ((a_ρ44 _ _ _ (by omega)).trans ((g_ρ42.1 _ _ _ (by omega)).trans q1_ρ37)); omega)
                  exact L100 42 (0) (h) σ (by omega) (by omega) (by omega) (by omega) (by omega) (GL.rf (S := fun c x y => c = 7 ∧ y = 6) hL) (by have hq := qg0; omega) (by have hq := qg1; omega)
                · refine r_iconst hC dX5_burst_95 rfl ?_
                  refine y_iret hK rfl dX5_burst_96 ?_
                  exact k _ _ (GL.rf (S := fun c x y => c = 7 ∧ y = 6) hL)
            · refine r_if_ne (tgt := 74) hC dX5_burst_69 rfl (fun h46 => by omega) (fun h46 => ?_)
              refine r_iconst hC dX5_burst_72 rfl ?_
              refine y_iret hK rfl dX5_burst_73 ?_
              exact k _ _ (GL.rf (S := fun c x y => c = 7 ∧ y = 6) hL)
          · refine r_if_eq (tgt := 72) hC dX5_burst_56 rfl (fun h47 => ?_) (fun h47 => by omega)
            refine r_iconst hC dX5_burst_72 rfl ?_
            refine y_iret hK rfl dX5_burst_73 ?_
            exact k _ _ (GL.rf (S := fun c x y => c = 7 ∧ y = 6) hL)
        · refine r_if_eq (tgt := 72) hC dX5_burst_42 rfl (fun h48 => ?_) (fun h48 => by omega)
          refine r_iconst hC dX5_burst_72 rfl ?_
          refine y_iret hK rfl dX5_burst_73 ?_
          exact k _ _ (GL.rf (S := fun c x y => c = 7 ∧ y = 6) hL)
      · refine r_if_ne (tgt := 38) hC dX5_burst_33 rfl (fun h49 => by omega) (fun h49 => ?_)
        refine r_iconst hC dX5_burst_36 rfl ?_
        refine y_iret hK rfl dX5_burst_37 ?_
        exact k _ _ (GL.rf (S := fun c x y => c = 7 ∧ y = 6) hL)
    · refine r_if_eq (tgt := 36) hC dX5_burst_19 rfl (fun h50 => ?_) (fun h50 => by omega)
      refine r_iconst hC dX5_burst_36 rfl ?_
      refine y_iret hK rfl dX5_burst_37 ?_
      exact k _ _ (GL.rf (S := fun c x y => c = 7 ∧ y = 6) hL)
theorem s_burst {d : Nat} {P : Option Vl → Mm → Prop} {σ : Mm} {l m v z : Int} (hnum : ∀ i : Int, 0 ≤ i → i ≤ 3 → σ 7 i 0 = i) (hto : ∀ i : Int, 0 ≤ i → i ≤ 3 → σ 13 i 0 ≠ i) (k : ∀ r : Int, P (some (vI r)) σ) : WT (false, false, false) (d + 8) 62 [vR 2 0, vI l, vI m, vI v, vI z] σ P := by
  refine WT_loose (true, false, false) (fun h => by cases h) (fun h => h) (fun c j q => ?_) (fun ρ hL hF hT hO => ?_)
  · rcases q with q | q | q | q
    · exact Or.inl q
    · cases q.1
    · cases q.1
    · exact Or.inr (Or.inr (Or.inr q))
  · refine s_burst_S (qg0 := rfl) (qg1 := rfl) (hL rfl) (fun i h0 h1 => (hT 7 i 0 (Or.inl (by simp [Tb]))).trans (hnum i h0 h1)) (fun i h0 h1 => by rw [hT 13 i 0 (Or.inl (by simp [Tb]))]; exact hto i h0 h1) (fun r ρ2 h2 => ⟨σ, k r, fun _ => Or.inr h2.2, fun _ => Or.inl rfl, fun c i j q => ?_⟩)
    rw [h2.1 c i j ?_]
    · exact hT c i j q
    · rintro ⟨rfl, rfl⟩
      rcases q with q | q | q | q
      · simp [Tb] at q
      · cases q.1
      · cases q.1
      · cases q.1
theorem s_leave_S {d : Nat} {P : Option Vl → Mm → Prop} {σ : Mm} {l m h : Int} (qg0 : σ 7 l 6 = h) (hL : InL σ)  (k : ∀ (r : Int) (ρ : Mm), GL (fun c x y => c = 7 ∧ y = 6) σ ρ → P (some (vI r)) ρ) : WT (true, false, false) (d + 6) 63 [vR 2 0, vI l, vI m] σ P := by
  refine WT_in fun K hK => ?_
  have hK : StpY (true, false, false) cX5_leave RX5 (some .int) (WT (true, false, false) (d + 5)) P K := hK
  have hM := hK.1
  have hC := hK.1.1
  show K 0 [some (vR 2 0), some (vI l), some (vI m), none, none] [] σ
  refine r_rngz hC (fun g0 => ?_)
  have r_l : -2147483648 ≤ l ∧ l ≤ 2147483647 := inR_le (g0 (vI l) (by simp))
  have r_m : -2147483648 ≤ m ∧ m ≤ 2147483647 := inR_le (g0 (vI m) (by simp))
  refine r_aload_n hC dX5_leave_0 rfl ?_
  refine r_iload_n hC dX5_leave_1 rfl ?_
  refine z_inv1 hM dX5_leave_2 vl_RX5_123 rfl rfl rfl (Nat.le_of_ble_eq_true rfl) (Nat.le_of_ble_eq_true rfl) ?_
  refine s_openLane ?_ (fun h1 => ?_)
  · refine r_astoreN_n hC dX5_leave_5 rfl ?_
    refine r_aloadN_n hC dX5_leave_6 rfl ?_
    refine r_ifnullN (tgt := 22) hC dX5_leave_7 rfl ?_
    refine r_iconst hC dX5_leave_22 rfl ?_
    refine y_iret hK rfl dX5_leave_23 ?_
    exact k _ _ (GL.rf (S := fun c x y => c = 7 ∧ y = 6) hL)
  · have b_h1 : 0 ≤ h ∧ h ≤ 120 := by have := InL.h7 hL (i := l) (by omega) (by omega); have := qg0; omega
    refine r_astore_n hC dX5_leave_5 rfl ?_
    refine r_aload_n hC dX5_leave_6 rfl ?_
    refine r_ifnullR hC dX5_leave_7 ?_
    refine r_iload_n hC dX5_leave_10 rfl ?_
    refine r_iconst hC dX5_leave_11 rfl ?_
    refine r_aload_n hC dX5_leave_12 rfl ?_
    refine z_getI (jz := 6) hM dX5_leave_13 fl_RX5_154 rfl rfl rfl (fun v2 h_v2 o_v2 t_v2 => ?_)
    have e_v2 : h = v2 := ((t_v2 (Or.inr (Or.inl ⟨rfl, Or.inr (Or.inr rfl)⟩))).trans qg0).symm
    subst e_v2
    refine z_ins3 hM dX5_leave_16 tl_RX5_59 rfl (Nat.le_of_ble_eq_true rfl) (Nat.le_of_ble_eq_true rfl) ?_
    refine s_within (fun h4 => ?_) (fun h4 => ?_)
    · refine r_if_ne (tgt := 24) hC dX5_leave_19 rfl (fun h5 => ?_) (fun h5 => by omega)
      refine r_iconst hC dX5_leave_24 rfl ?_
      refine r_istore hC dX5_leave_25 rfl ?_
      have L27 : ∀ (n27 : Nat) (w6 w7 : Int) (ρ8 : Mm), 0 ≤ w6 ∧ w6 ≤ 121 → 0 ≤ w7 ∧ w7 ≤ 120 → ((w7) = h - (w6)) → ((w6) ≤ m) → 121 - w6 < (n27 : Int) → GL (fun c x y => c = 7 ∧ y = 6) σ ρ8 → ρ8 7 l 6 = w7 → K 27 [some (vR 2 0), some (vI l), some (vI m), some (vR 7 l), some (vI w6)] [] ρ8 := by
        intro n27
        induction n27 with
        | zero => intro w6 w7 ρ8 f_w6 f_w7 i0_27 i1_27 hm g_ρ8 q0_ρ8; omega
        | succ n27 ih27 =>
          intro w6 w7 ρ8 f_w6 f_w7 i0_27 i1_27 hm27 g_ρ8 q0_ρ8
          refine r_iload hC dX5_leave_27 rfl ?_
          refine r_iload_n hC dX5_leave_29 rfl ?_
          refine r_icmp_ge (tgt := 44) hC dX5_leave_30 rfl (fun h9 => ?_) (fun h9 => ?_)
          · refine r_aload_n hC dX5_leave_44 rfl ?_
            refine z_getI (jz := 6) hM dX5_leave_45 fl_RX5_154 rfl rfl rfl (fun v10 h_v10 o_v10 t_v10 => ?_)
            have e_v10 : w7 = v10 := ((t_v10 (Or.inr (Or.inl ⟨rfl, Or.inr (Or.inr rfl)⟩))).trans q0_ρ8).symm
            subst e_v10
            refine y_iret hK rfl dX5_leave_48 ?_
            exact k _ _ (g_ρ8)
          · refine r_aload_n hC dX5_leave_33 rfl ?_
            refine r_aload_n hC dX5_leave_34 rfl ?_
            refine z_inv1 hM dX5_leave_35 vl_RX5_163 rfl rfl rfl (Nat.le_of_ble_eq_true rfl) (Nat.le_of_ble_eq_true rfl) ?_
            refine s_dropOldest (h := w7) (by omega) (by omega) (by have hq := q0_ρ8; omega) (fun ρ11 a_ρ11 q_ρ11 => ?_)
            refine r_iincE hC ((w6 + 1)) dX5_leave_38 rfl rfl (by omega) (by unfold inR; omega) ?_
            refine r_goto (tgt := 27) hC dX5_leave_41 rfl ?_
            exact ih27 ((w6 + 1)) ((w7 - 1)) ρ11 (by omega) (by omega) (by omega) (by omega) (by omega) (GL.drop (g_ρ8) (by first | simp | omega) a_ρ11 (by omega) (by omega) (by have hq := q0_ρ8; have hr := q_ρ11; omega) (by have hq := q0_ρ8; omega)) (by have hq := q_ρ11; omega)
      exact L27 123 (0) (h) σ (by omega) (by omega) (by omega) (by omega) (by omega) (GL.rf (S := fun c x y => c = 7 ∧ y = 6) hL) (by have hq := qg0; omega)
    · refine r_if_ne (tgt := 24) hC dX5_leave_19 rfl (fun h12 => by omega) (fun h12 => ?_)
      refine r_iconst hC dX5_leave_22 rfl ?_
      refine y_iret hK rfl dX5_leave_23 ?_
      exact k _ _ (GL.rf (S := fun c x y => c = 7 ∧ y = 6) hL)
theorem s_leave {d : Nat} {P : Option Vl → Mm → Prop} {σ : Mm} {l m : Int} (k : ∀ r : Int, P (some (vI r)) σ) : WT (false, false, false) (d + 6) 63 [vR 2 0, vI l, vI m] σ P := by
  refine WT_loose (true, false, false) (fun h => by cases h) (fun h => h) (fun c j q => ?_) (fun ρ hL hF hT hO => ?_)
  · rcases q with q | q | q | q
    · exact Or.inl q
    · cases q.1
    · cases q.1
    · exact Or.inr (Or.inr (Or.inr q))
  · refine s_leave_S (qg0 := rfl) (hL rfl) (fun r ρ2 h2 => ⟨σ, k r, fun _ => Or.inr h2.2, fun _ => Or.inl rfl, fun c i j q => ?_⟩)
    rw [h2.1 c i j ?_]
    · exact hT c i j q
    · rintro ⟨rfl, rfl⟩
      rcases q with q | q | q | q
      · simp [Tb] at q
      · cases q.1
      · cases q.1
      · cases q.1
theorem s_until_S {d : Nat} {P : Option Vl → Mm → Prop} {σ : Mm} {l t h : Int} (qg0 : σ 7 l 6 = h) (hL : InL σ)  (k : ∀ (r : Int) (ρ : Mm), GL (fun c x y => c = 7 ∧ y = 6) σ ρ → P (some (vI r)) ρ) : WT (true, false, false) (d + 6) 64 [vR 2 0, vI l, vI t] σ P := by
  refine WT_in fun K hK => ?_
  have hK : StpY (true, false, false) cX5_until RX5 (some .int) (WT (true, false, false) (d + 5)) P K := hK
  have hM := hK.1
  have hC := hK.1.1
  show K 0 [some (vR 2 0), some (vI l), some (vI t), none, none, none] [] σ
  refine r_rngz hC (fun g0 => ?_)
  have r_l : -2147483648 ≤ l ∧ l ≤ 2147483647 := inR_le (g0 (vI l) (by simp))
  have r_t : -2147483648 ≤ t ∧ t ≤ 2147483647 := inR_le (g0 (vI t) (by simp))
  refine r_aload_n hC dX5_until_0 rfl ?_
  refine r_iload_n hC dX5_until_1 rfl ?_
  refine z_inv1 hM dX5_until_2 vl_RX5_123 rfl rfl rfl (Nat.le_of_ble_eq_true rfl) (Nat.le_of_ble_eq_true rfl) ?_
  refine s_openLane ?_ (fun h1 => ?_)
  · refine r_astoreN_n hC dX5_until_5 rfl ?_
    refine r_aloadN_n hC dX5_until_6 rfl ?_
    refine r_ifnonnullN hC dX5_until_7 ?_
    refine r_iconst hC dX5_until_10 rfl ?_
    refine y_iret hK rfl dX5_until_11 ?_
    exact k _ _ (GL.rf (S := fun c x y => c = 7 ∧ y = 6) hL)
  · have b_h1 : 0 ≤ h ∧ h ≤ 120 := by have := InL.h7 hL (i := l) (by omega) (by omega); have := qg0; omega
    refine r_astore_n hC dX5_until_5 rfl ?_
    refine r_aload_n hC dX5_until_6 rfl ?_
    refine r_ifnonnullR (tgt := 12) hC dX5_until_7 rfl ?_
    refine r_aload_n hC dX5_until_12 rfl ?_
    refine r_iload_n hC dX5_until_13 rfl ?_
    refine r_i2l hC dX5_until_14 ?_
    refine z_inv1 hM dX5_until_15 vl_RX5_167 rfl rfl rfl (Nat.le_of_ble_eq_true rfl) (Nat.le_of_ble_eq_true rfl) ?_
    refine s_heldUntilL (by omega) (fun v2 h_v2 => ?_)
    have u_v2 : 0 ≤ v2 ∧ v2 ≤ h := by have hq := qg0; omega
    refine r_istore hC dX5_until_18 rfl ?_
    refine r_iconst hC dX5_until_20 rfl ?_
    refine r_istore hC dX5_until_21 rfl ?_
    have L23 : ∀ (n23 : Nat) (w3 w4 : Int) (ρ5 : Mm), 0 ≤ w3 ∧ w3 ≤ 121 → 0 ≤ w4 ∧ w4 ≤ 120 → ((w4) = h - (w3)) → ((w3) ≤ (v2)) → 121 - w3 < (n23 : Int) → GL (fun c x y => c = 7 ∧ y = 6) σ ρ5 → ρ5 7 l 6 = w4 → K 23 [some (vR 2 0), some (vI l), some (vI t), some (vR 7 l), some (vI v2), some (vI w3)] [] ρ5 := by
      intro n23
      induction n23 with
      | zero => intro w3 w4 ρ5 f_w3 f_w4 i0_23 i1_23 hm g_ρ5 q0_ρ5; omega
      | succ n23 ih23 =>
        intro w3 w4 ρ5 f_w3 f_w4 i0_23 i1_23 hm23 g_ρ5 q0_ρ5
        refine r_iload hC dX5_until_23 rfl ?_
        refine r_iload hC dX5_until_25 rfl ?_
        refine r_icmp_ge (tgt := 41) hC dX5_until_27 rfl (fun h6 => ?_) (fun h6 => ?_)
        · refine r_iload hC dX5_until_41 rfl ?_
          refine y_iret hK rfl dX5_until_43 ?_
          exact k _ _ (g_ρ5)
        · refine r_aload_n hC dX5_until_30 rfl ?_
          refine r_aload_n hC dX5_until_31 rfl ?_
          refine z_inv1 hM dX5_until_32 vl_RX5_163 rfl rfl rfl (Nat.le_of_ble_eq_true rfl) (Nat.le_of_ble_eq_true rfl) ?_
          refine s_dropOldest (h := w4) (by omega) (by omega) (by have hq := q0_ρ5; omega) (fun ρ7 a_ρ7 q_ρ7 => ?_)
          refine r_iincE hC ((w3 + 1)) dX5_until_35 rfl rfl (by omega) (by unfold inR; omega) ?_
          refine r_goto (tgt := 23) hC dX5_until_38 rfl ?_
          exact ih23 ((w3 + 1)) ((w4 - 1)) ρ7 (by omega) (by omega) (by omega) (by omega) (by omega) (GL.drop (g_ρ5) (by first | simp | omega) a_ρ7 (by omega) (by omega) (by have hq := q0_ρ5; have hr := q_ρ7; omega) (by have hq := q0_ρ5; omega)) (by have hq := q_ρ7; omega)
    exact L23 123 (0) (h) σ (by omega) (by omega) (by omega) (by omega) (by omega) (GL.rf (S := fun c x y => c = 7 ∧ y = 6) hL) (by have hq := qg0; omega)
theorem s_until {d : Nat} {P : Option Vl → Mm → Prop} {σ : Mm} {l t : Int} (k : ∀ r : Int, P (some (vI r)) σ) : WT (false, false, false) (d + 6) 64 [vR 2 0, vI l, vI t] σ P := by
  refine WT_loose (true, false, false) (fun h => by cases h) (fun h => h) (fun c j q => ?_) (fun ρ hL hF hT hO => ?_)
  · rcases q with q | q | q | q
    · exact Or.inl q
    · cases q.1
    · cases q.1
    · exact Or.inr (Or.inr (Or.inr q))
  · refine s_until_S (qg0 := rfl) (hL rfl) (fun r ρ2 h2 => ⟨σ, k r, fun _ => Or.inr h2.2, fun _ => Or.inl rfl, fun c i j q => ?_⟩)
    rw [h2.1 c i j ?_]
    · exact hT c i j q
    · rintro ⟨rfl, rfl⟩
      rcases q with q | q | q | q
      · simp [Tb] at q
      · cases q.1
      · cases q.1
      · cases q.1
theorem s_take_S {d : Nat} {P : Option Vl → Mm → Prop} {σ : Mm} {l x h : Int} (qg0 : σ 7 l 6 = h) (hL : InL σ)  (k : ∀ (r : Int) (ρ : Mm), GL (fun c x y => c = 7 ∧ y = 6) σ ρ → P (some (vI r)) ρ) : WT (true, false, false) (d + 6) 65 [vR 2 0, vI l, vI x] σ P := by
  refine WT_in fun K hK => ?_
  have hK : StpY (true, false, false) cX5_take RX5 (some .int) (WT (true, false, false) (d + 5)) P K := hK
  have hM := hK.1
  have hC := hK.1.1
  show K 0 [some (vR 2 0), some (vI l), some (vI x), none, none] [] σ
  refine r_rngz hC (fun g0 => ?_)
  have r_l : -2147483648 ≤ l ∧ l ≤ 2147483647 := inR_le (g0 (vI l) (by simp))
  have r_x : -2147483648 ≤ x ∧ x ≤ 2147483647 := inR_le (g0 (vI x) (by simp))
  refine r_aload_n hC dX5_take_0 rfl ?_
  refine r_iload_n hC dX5_take_1 rfl ?_
  refine r_iload_n hC dX5_take_2 rfl ?_
  refine z_inv2 hM dX5_take_3 vl_RX5_171 rfl rfl rfl (Nat.le_of_ble_eq_true rfl) (Nat.le_of_ble_eq_true rfl) ?_
  refine s_laneHolding ?_ (fun h1 x_h1 => ?_)
  · refine r_astoreN_n hC dX5_take_6 rfl ?_
    refine r_aloadN_n hC dX5_take_7 rfl ?_
    refine r_ifnonnullN hC dX5_take_8 ?_
    refine r_ldc hC dX5_take_11 co_RX5_175 rfl ?_
    refine y_iret hK rfl dX5_take_13 ?_
    exact k _ _ (GL.rf (S := fun c x y => c = 7 ∧ y = 6) hL)
  · have b_h1 : 0 ≤ h ∧ h ≤ 120 := by have := InL.h7 hL (i := l) (by omega) (by omega); have := qg0; omega
    have y_h1 := x_h1 rfl
    refine r_astore_n hC dX5_take_6 rfl ?_
    refine r_aload_n hC dX5_take_7 rfl ?_
    refine r_ifnonnullR (tgt := 14) hC dX5_take_8 rfl ?_
    refine r_aload_n hC dX5_take_14 rfl ?_
    refine z_getR hM dX5_take_15 fl_RX5_176 rfl rfl (vld_of (n := 7) rfl (by omega) (by omega)) ?_
    refine r_iload_n hC dX5_take_18 rfl ?_
    refine z_iald hM dX5_take_19 rfl (by omega) (by omega) (fun v2 h_v2 o_v2 t_v2 => ?_)
    have q_v2 : -1000 ≤ v2 ∧ v2 ≤ 1000 := o_v2
    refine r_istore hC dX5_take_20 rfl ?_
    refine r_aload_n hC dX5_take_22 rfl ?_
    refine r_iload_n hC dX5_take_23 rfl ?_
    refine z_inv1 hM dX5_take_24 vl_RX5_179 rfl rfl rfl (Nat.le_of_ble_eq_true rfl) (Nat.le_of_ble_eq_true rfl) ?_
    refine s_remove (h := h) (by omega) (by omega) (by omega) (by have hq := qg0; omega) (by omega) (fun ρ3 a_ρ3 q_ρ3 => ?_)
    refine r_aload_n hC dX5_take_27 rfl ?_
    refine r_aload_n hC dX5_take_28 rfl ?_
    refine z_inv1 hM dX5_take_29 vl_RX5_182 rfl rfl rfl (Nat.le_of_ble_eq_true rfl) (Nat.le_of_ble_eq_true rfl) ?_
    refine s_layAnew (by omega) ?_
    refine r_iload hC dX5_take_32 rfl ?_
    refine y_iret hK rfl dX5_take_34 ?_
    exact k _ _ (GL.drop (GL.rf (S := fun c x y => c = 7 ∧ y = 6) hL) (by first | simp | omega) a_ρ3 (by omega) (by omega) (by have hq := qg0; have hr := q_ρ3; omega) (by have hq := qg0; omega))
theorem s_take {d : Nat} {P : Option Vl → Mm → Prop} {σ : Mm} {l x : Int} (k : ∀ r : Int, P (some (vI r)) σ) : WT (false, false, false) (d + 6) 65 [vR 2 0, vI l, vI x] σ P := by
  refine WT_loose (true, false, false) (fun h => by cases h) (fun h => h) (fun c j q => ?_) (fun ρ hL hF hT hO => ?_)
  · rcases q with q | q | q | q
    · exact Or.inl q
    · cases q.1
    · cases q.1
    · exact Or.inr (Or.inr (Or.inr q))
  · refine s_take_S (qg0 := rfl) (hL rfl) (fun r ρ2 h2 => ⟨σ, k r, fun _ => Or.inr h2.2, fun _ => Or.inl rfl, fun c i j q => ?_⟩)
    rw [h2.1 c i j ?_]
    · exact hT c i j q
    · rintro ⟨rfl, rfl⟩
      rcases q with q | q | q | q
      · simp [Tb] at q
      · cases q.1
      · cases q.1
      · cases q.1
theorem s_alter {ea eb : Bool} {d : Nat} {P : Option Vl → Mm → Prop} {σ : Mm} {l x v : Int}   (k : ∀ r : Int, 0 ≤ r ∧ r ≤ 1 → P (some (vI r)) σ) : WT (ea, false, eb) (d + 6) 66 [vR 2 0, vI l, vI x, vI v] σ P := by
  refine WT_in fun K hK => ?_
  have hK : StpY (ea, false, eb) cX5_alter RX5 (some .boolean) (WT (ea, false, eb) (d + 5)) P K := hK
  have hM := hK.1
  have hC := hK.1.1
  show K 0 [some (vR 2 0), some (vI l), some (vI x), some (vI v), none] [] σ
  refine r_rngz hC (fun g0 => ?_)
  have r_l : -2147483648 ≤ l ∧ l ≤ 2147483647 := inR_le (g0 (vI l) (by simp))
  have r_x : -2147483648 ≤ x ∧ x ≤ 2147483647 := inR_le (g0 (vI x) (by simp))
  have r_v : -2147483648 ≤ v ∧ v ≤ 2147483647 := inR_le (g0 (vI v) (by simp))
  refine r_aload_n hC dX5_alter_0 rfl ?_
  refine r_iload_n hC dX5_alter_1 rfl ?_
  refine r_iload_n hC dX5_alter_2 rfl ?_
  refine z_inv2 hM dX5_alter_3 vl_RX5_171 rfl rfl rfl (Nat.le_of_ble_eq_true rfl) (Nat.le_of_ble_eq_true rfl) ?_
  refine s_laneHolding ?_ (fun h1 x_h1 => ?_)
  · refine r_astoreN hC dX5_alter_6 rfl ?_
    refine r_aloadN hC dX5_alter_8 rfl ?_
    refine r_ifnullN (tgt := 20) hC dX5_alter_10 rfl ?_
    refine r_iconst hC dX5_alter_20 rfl ?_
    refine y_zret hK rfl dX5_alter_21 (by omega) ?_
    exact k _ (by omega)
  · refine r_astore hC dX5_alter_6 rfl ?_
    refine r_aload hC dX5_alter_8 rfl ?_
    refine r_ifnullR hC dX5_alter_10 ?_
    refine r_iload_n hC dX5_alter_13 rfl ?_
    refine z_ins1 hM dX5_alter_14 tl_RX5_130 rfl (Nat.le_of_ble_eq_true rfl) (Nat.le_of_ble_eq_true rfl) ?_
    refine s_isValue (fun h3 => ?_) (fun h3 => ?_)
    · refine r_if_ne (tgt := 22) hC dX5_alter_17 rfl (fun h4 => ?_) (fun h4 => by omega)
      refine r_aload hC dX5_alter_22 rfl ?_
      refine z_getR hM dX5_alter_24 fl_RX5_176 rfl rfl (vld_of (n := 7) rfl (by omega) (by omega)) ?_
      refine r_iload_n hC dX5_alter_27 rfl ?_
      refine r_iload_n hC dX5_alter_28 rfl ?_
      refine z_iastU hM dX5_alter_29 rfl (by omega) (by omega) (by simp [Un, Tb, DL, DF, DR]) (by simp [Okv]; try omega) ?_
      refine r_aload_n hC dX5_alter_30 rfl ?_
      refine r_aload hC dX5_alter_31 rfl ?_
      refine z_inv1 hM dX5_alter_33 vl_RX5_182 rfl rfl rfl (Nat.le_of_ble_eq_true rfl) (Nat.le_of_ble_eq_true rfl) ?_
      refine s_layAnew (by omega) ?_
      refine r_iconst hC dX5_alter_36 rfl ?_
      refine y_zret hK rfl dX5_alter_37 (by omega) ?_
      exact k _ (by omega)
    · refine r_if_ne (tgt := 22) hC dX5_alter_17 rfl (fun h5 => by omega) (fun h5 => ?_)
      refine r_iconst hC dX5_alter_20 rfl ?_
      refine y_zret hK rfl dX5_alter_21 (by omega) ?_
      exact k _ (by omega)
-- the reference: its row, its questions
theorem m_alikeFrom {ea eb : Bool} {d : Nat} {P : Option Vl → Mm → Prop} {σ : Mm} {i n : Int} (b_i : 0 ≤ i ∧ i ≤ 241) (b_n : 1 ≤ n ∧ n ≤ 242) (qg0 : σ 30 0 8 = n) (hi : i < n)  (k : ∀ r : Int, 1 ≤ r ∧ r ≤ n - i → P (some (vI r)) σ) : WT (ea, eb, true) (d + 1) 168 [vR 30 0, vI i] σ P := by
  refine WT_in fun K hK => ?_
  have hK : StpY (ea, eb, true) cX6_alikeFrom RX6 (some .int) (WT (ea, eb, true) (d + 0)) P K := hK
  have hM := hK.1
  have hC := hK.1.1
  show K 0 [some (vR 30 0), some (vI i), none] [] σ
  refine r_iload_n hC dX6_alikeFrom_0 rfl ?_
  refine r_istore_n hC dX6_alikeFrom_1 rfl ?_
  refine r_iload_n hC dX6_alikeFrom_2 rfl ?_
  refine r_aload_n hC dX6_alikeFrom_3 rfl ?_
  refine z_getI (jz := 8) hM dX6_alikeFrom_4 fl_RX6_105 rfl rfl rfl (fun v1 h_v1 o_v1 t_v1 => ?_)
  have e_v1 : n = v1 := ((t_v1 ((Or.inr (Or.inr (Or.inr ⟨rfl, rfl⟩))))).trans qg0).symm
  subst e_v1
  refine r_icmp_ge (tgt := 31) hC dX6_alikeFrom_7 rfl (fun h2 => ?_) (fun h2 => ?_)
  · refine r_iload_n hC dX6_alikeFrom_31 rfl ?_
    refine r_iload_n hC dX6_alikeFrom_32 rfl ?_
    refine r_isubE hC ((i - i)) dX6_alikeFrom_33 (by omega) (by unfold inR; omega) ?_
    refine y_iret hK rfl dX6_alikeFrom_34 ?_
    exact k _ (by omega)
  · refine r_aload_n hC dX6_alikeFrom_10 rfl ?_
    refine z_getR hM dX6_alikeFrom_11 fl_RX6_28 rfl rfl (vld_of (n := 1) rfl (by omega) (by omega)) ?_
    refine r_iload_n hC dX6_alikeFrom_14 rfl ?_
    refine z_iald hM dX6_alikeFrom_15 rfl (by omega) (by omega) (fun v3 h_v3 o_v3 t_v3 => ?_)
    have w_v3 := t_v3 (Or.inr (Or.inr (Or.inr ⟨rfl, trivial⟩)))
    refine r_aload_n hC dX6_alikeFrom_16 rfl ?_
    refine z_getR hM dX6_alikeFrom_17 fl_RX6_28 rfl rfl (vld_of (n := 1) rfl (by omega) (by omega)) ?_
    refine r_iload_n hC dX6_alikeFrom_20 rfl ?_
    refine z_iald hM dX6_alikeFrom_21 rfl (by omega) (by omega) (fun v4 h_v4 o_v4 t_v4 => ?_)
    have w_v4 := t_v4 (Or.inr (Or.inr (Or.inr ⟨rfl, trivial⟩)))
    refine r_icmp_ne (tgt := 31) hC dX6_alikeFrom_22 rfl (fun h5 => ?_) (fun h5 => ?_)
    · refine r_iload_n hC dX6_alikeFrom_31 rfl ?_
      refine r_iload_n hC dX6_alikeFrom_32 rfl ?_
      refine r_isubE hC ((i - i)) dX6_alikeFrom_33 (by omega) (by unfold inR; omega) ?_
      refine y_iret hK rfl dX6_alikeFrom_34 ?_
      exact k _ (by omega)
    · refine r_iincE hC ((i + 1)) dX6_alikeFrom_25 rfl rfl (by omega) (by unfold inR; omega) ?_
      refine r_goto (tgt := 2) hC dX6_alikeFrom_28 rfl ?_
      have L2 : ∀ (n2 : Nat) (w6 : Int), 1 ≤ w6 ∧ w6 ≤ 242 → ((w6) ≤ n) → (i + 1 ≤ (w6)) → 242 - w6 < (n2 : Int) → K 2 [some (vR 30 0), some (vI i), some (vI w6)] [] σ := by
        intro n2
        induction n2 with
        | zero => intro w6  f_w6 i0_2 i1_2 hm ; omega
        | succ n2 ih2 =>
          intro w6  f_w6 i0_2 i1_2 hm2 
          refine r_iload_n hC dX6_alikeFrom_2 rfl ?_
          refine r_aload_n hC dX6_alikeFrom_3 rfl ?_
          refine z_getI (jz := 8) hM dX6_alikeFrom_4 fl_RX6_105 rfl rfl rfl (fun v7 h_v7 o_v7 t_v7 => ?_)
          have e_v7 : n = v7 := ((t_v7 ((Or.inr (Or.inr (Or.inr ⟨rfl, rfl⟩))))).trans qg0).symm
          subst e_v7
          refine r_icmp_ge (tgt := 31) hC dX6_alikeFrom_7 rfl (fun h8 => ?_) (fun h8 => ?_)
          · refine r_iload_n hC dX6_alikeFrom_31 rfl ?_
            refine r_iload_n hC dX6_alikeFrom_32 rfl ?_
            refine r_isubE hC ((w6 - i)) dX6_alikeFrom_33 (by omega) (by unfold inR; omega) ?_
            refine y_iret hK rfl dX6_alikeFrom_34 ?_
            exact k _ (by omega)
          · refine r_aload_n hC dX6_alikeFrom_10 rfl ?_
            refine z_getR hM dX6_alikeFrom_11 fl_RX6_28 rfl rfl (vld_of (n := 1) rfl (by omega) (by omega)) ?_
            refine r_iload_n hC dX6_alikeFrom_14 rfl ?_
            refine z_iald hM dX6_alikeFrom_15 rfl (by omega) (by omega) (fun v9 h_v9 o_v9 t_v9 => ?_)
            have w_v9 := t_v9 (Or.inr (Or.inr (Or.inr ⟨rfl, trivial⟩)))
            refine r_aload_n hC dX6_alikeFrom_16 rfl ?_
            refine z_getR hM dX6_alikeFrom_17 fl_RX6_28 rfl rfl (vld_of (n := 1) rfl (by omega) (by omega)) ?_
            refine r_iload_n hC dX6_alikeFrom_20 rfl ?_
            refine z_iald hM dX6_alikeFrom_21 rfl (by omega) (by omega) (fun v10 h_v10 o_v10 t_v10 => ?_)
            have w_v10 := t_v10 (Or.inr (Or.inr (Or.inr ⟨rfl, trivial⟩)))
            refine r_icmp_ne (tgt := 31) hC dX6_alikeFrom_22 rfl (fun h11 => ?_) (fun h11 => ?_)
            · refine r_iload_n hC dX6_alikeFrom_31 rfl ?_
              refine r_iload_n hC dX6_alikeFrom_32 rfl ?_
              refine r_isubE hC ((w6 - i)) dX6_alikeFrom_33 (by omega) (by unfold inR; omega) ?_
              refine y_iret hK rfl dX6_alikeFrom_34 ?_
              exact k _ (by omega)
            · refine r_iincE hC ((w6 + 1)) dX6_alikeFrom_25 rfl rfl (by omega) (by unfold inR; omega) ?_
              refine r_goto (tgt := 2) hC dX6_alikeFrom_28 rfl ?_
              exact ih2 ((w6 + 1))  (by omega) (by omega) (by omega) (by omega) 
      exact L2 244 ((i + 1))  (by omega) (by omega) (by omega) (by omega) 
theorem m_like {ea eb : Bool} {d : Nat} {P : Option Vl → Mm → Prop} {σ : Mm} {n : Int} (b_n : 1 ≤ n ∧ n ≤ 242) (hn : σ 30 0 8 = n)  (k : P none σ) : WT (ea, eb, true) (d + 2) 169 [vR 30 0] σ P := by
  refine WT_in fun K hK => ?_
  have hK : StpY (ea, eb, true) cX6_like RX6 (none) (WT (ea, eb, true) (d + 1)) P K := hK
  have hM := hK.1
  have hC := hK.1.1
  show K 0 [some (vR 30 0), none, none, none, none, none] [] σ
  refine r_iconst hC dX6_like_0 rfl ?_
  refine r_istore_n hC dX6_like_1 rfl ?_
  refine r_iconst hC dX6_like_2 rfl ?_
  refine r_istore_n hC dX6_like_3 rfl ?_
  refine r_iconst hC dX6_like_4 rfl ?_
  refine r_istore_n hC dX6_like_5 rfl ?_
  show K _ [_, _, _, _, _, _] _ _
  refine r_iconst hC dX6_like_6 rfl ?_
  refine r_istore hC dX6_like_7 rfl ?_
  refine r_iconst hC dX6_like_9 rfl ?_
  refine r_istore hC dX6_like_10 rfl ?_
  have L12 : ∀ (n12 : Nat) (w1 w2 w3 w4 w5 : Int), -2147483648 ≤ w1 ∧ w1 ≤ 2147483647 → 0 ≤ w2 ∧ w2 ≤ 242 → -2147483648 ≤ w3 ∧ w3 ≤ 2147483647 → 0 ≤ w4 ∧ w4 ≤ 242 → 0 ≤ w5 ∧ w5 ≤ 242 → ((w5) ≤ n) → 242 - w5 < (n12 : Int) → K 12 [some (vR 30 0), some (vI w1), some (vI w2), some (vI w3), some (vI w4), some (vI w5)] [] σ := by
    intro n12
    induction n12 with
    | zero => intro w1 w2 w3 w4 w5  f_w1 f_w2 f_w3 f_w4 f_w5 i0_12 hm ; omega
    | succ n12 ih12 =>
      intro w1 w2 w3 w4 w5  f_w1 f_w2 f_w3 f_w4 f_w5 i0_12 hm12 
      refine r_iload hC dX6_like_12 rfl ?_
      refine r_aload_n hC dX6_like_14 rfl ?_
      refine z_getI (jz := 8) hM dX6_like_15 fl_RX6_105 rfl rfl rfl (fun v6 h_v6 o_v6 t_v6 => ?_)
      rw [(t_v6 (Or.inr (Or.inr (Or.inr ⟨rfl, rfl⟩)))).trans hn]
      refine r_icmp_ge (tgt := 62) hC dX6_like_18 rfl (fun h7 => ?_) (fun h7 => ?_)
      · refine r_aload_n hC dX6_like_62 rfl ?_
        refine z_getR hM dX6_like_63 fl_RX6_31 rfl rfl (vld_of (n := 1) rfl (by omega) (by omega)) ?_
        refine r_iconst hC dX6_like_66 rfl ?_
        refine r_iload_n hC dX6_like_67 rfl ?_
        refine z_iastU hM dX6_like_68 rfl (by omega) (by omega) (by simp [Un, Tb, DL, DF, DR]) (by simp [Okv]) ?_
        refine r_aload_n hC dX6_like_69 rfl ?_
        refine z_getR hM dX6_like_70 fl_RX6_31 rfl rfl (vld_of (n := 1) rfl (by omega) (by omega)) ?_
        refine r_iconst hC dX6_like_73 rfl ?_
        refine r_iload_n hC dX6_like_74 rfl ?_
        refine z_iastU hM dX6_like_75 rfl (by omega) (by omega) (by simp [Un, Tb, DL, DF, DR]) (by simp [Okv]) ?_
        refine r_aload_n hC dX6_like_76 rfl ?_
        refine z_getR hM dX6_like_77 fl_RX6_31 rfl rfl (vld_of (n := 1) rfl (by omega) (by omega)) ?_
        refine r_iconst hC dX6_like_80 rfl ?_
        refine r_iload_n hC dX6_like_81 rfl ?_
        refine z_iastU hM dX6_like_82 rfl (by omega) (by omega) (by simp [Un, Tb, DL, DF, DR]) (by simp [Okv]) ?_
        refine r_aload_n hC dX6_like_83 rfl ?_
        refine z_getR hM dX6_like_84 fl_RX6_31 rfl rfl (vld_of (n := 1) rfl (by omega) (by omega)) ?_
        refine r_iconst hC dX6_like_87 rfl ?_
        refine r_aload_n hC dX6_like_88 rfl ?_
        refine r_iconst hC dX6_like_89 rfl ?_
        refine z_inv1 hM dX6_like_90 vl_RX6_170 rfl rfl rfl (Nat.le_of_ble_eq_true rfl) (Nat.le_of_ble_eq_true rfl) ?_
        refine m_alikeFrom (n := n) (by omega) (by omega) hn (by omega) (fun v8 h_v8 => ?_)
        refine z_iastU hM dX6_like_93 rfl (by omega) (by omega) (by simp [Un, Tb, DL, DF, DR]) (by simp [Okv]) ?_
        refine r_aload_n hC dX6_like_94 rfl ?_
        refine z_getR hM dX6_like_95 fl_RX6_31 rfl rfl (vld_of (n := 1) rfl (by omega) (by omega)) ?_
        refine r_iconst hC dX6_like_98 rfl ?_
        refine r_iload hC dX6_like_99 rfl ?_
        refine z_iastU hM dX6_like_101 rfl (by omega) (by omega) (by simp [Un, Tb, DL, DF, DR]) (by simp [Okv]) ?_
        refine r_aload_n hC dX6_like_102 rfl ?_
        refine z_getR hM dX6_like_103 fl_RX6_31 rfl rfl (vld_of (n := 1) rfl (by omega) (by omega)) ?_
        refine r_iconst hC dX6_like_106 rfl ?_
        refine r_aload_n hC dX6_like_107 rfl ?_
        refine z_getR hM dX6_like_108 fl_RX6_28 rfl rfl (vld_of (n := 1) rfl (by omega) (by omega)) ?_
        refine r_iconst hC dX6_like_111 rfl ?_
        refine z_iald hM dX6_like_112 rfl (by omega) (by omega) (fun v9 h_v9 o_v9 t_v9 => ?_)
        refine z_iastU hM dX6_like_113 rfl (by omega) (by omega) (by simp [Un, Tb, DL, DF, DR]) (by simp [Okv]) ?_
        refine r_aload_n hC dX6_like_114 rfl ?_
        refine z_getR hM dX6_like_115 fl_RX6_31 rfl rfl (vld_of (n := 1) rfl (by omega) (by omega)) ?_
        refine r_bipush hC dX6_like_118 rfl ?_
        refine r_aload_n hC dX6_like_120 rfl ?_
        refine z_getR hM dX6_like_121 fl_RX6_28 rfl rfl (vld_of (n := 1) rfl (by omega) (by omega)) ?_
        refine r_aload_n hC dX6_like_124 rfl ?_
        refine z_getI (jz := 8) hM dX6_like_125 fl_RX6_105 rfl rfl rfl (fun v10 h_v10 o_v10 t_v10 => ?_)
        rw [(t_v10 (Or.inr (Or.inr (Or.inr ⟨rfl, rfl⟩)))).trans hn]
        refine r_iconst hC dX6_like_128 rfl ?_
        refine r_isubE hC ((n - 1)) dX6_like_129 (by omega) (by unfold inR; omega) ?_
        refine z_iald hM dX6_like_130 rfl (by omega) (by omega) (fun v11 h_v11 o_v11 t_v11 => ?_)
        refine z_iastU hM dX6_like_131 rfl (by omega) (by omega) (by simp [Un, Tb, DL, DF, DR]) (by simp [Okv]) ?_
        refine y_vret hK rfl dX6_like_132 ?_
        exact k
      · refine r_aload_n hC dX6_like_21 rfl ?_
        refine r_iload hC dX6_like_22 rfl ?_
        refine z_inv1 hM dX6_like_24 vl_RX6_170 rfl rfl rfl (Nat.le_of_ble_eq_true rfl) (Nat.le_of_ble_eq_true rfl) ?_
        refine m_alikeFrom (n := n) (by omega) (by omega) hn (by omega) (fun v12 h_v12 => ?_)
        refine r_istore hC dX6_like_27 rfl ?_
        refine r_iincG hC dX6_like_29 rfl rfl (fun v13 h_v13 => ?_)
        refine r_iload hC dX6_like_32 rfl ?_
        refine r_iload_n hC dX6_like_34 rfl ?_
        have J52_16 : ∀ (w15 w16 : Int), -2147483648 ≤ w15 ∧ w15 ≤ 2147483647 → 1 ≤ w16 ∧ w16 ≤ 242 → K 52 [some (vR 30 0), some (vI v13), some (vI w16), some (vI w15), some (vI v12), some (vI w5)] [] σ := by
          intro w15 w16  f_w15 f_w16 
          refine r_iload hC dX6_like_52 rfl ?_
          refine r_iload hC dX6_like_54 rfl ?_
          refine r_iaddE hC ((w5 + v12)) dX6_like_56 (by omega) (by unfold inR; omega) ?_
          refine r_istore hC dX6_like_57 rfl ?_
          refine r_goto (tgt := 12) hC dX6_like_59 rfl ?_
          exact ih12 (v13) (w16) (w15) (v12) ((w5 + v12))  (by omega) (by omega) (by omega) (by omega) (by omega) (by omega) (by omega) 
        refine r_icmp_gt (tgt := 41) hC dX6_like_35 rfl (fun h14 => ?_) (fun h14 => ?_)
        · refine r_iload hC dX6_like_41 rfl ?_
          refine r_istore_n hC dX6_like_43 rfl ?_
          refine r_aload_n hC dX6_like_44 rfl ?_
          refine z_getR hM dX6_like_45 fl_RX6_28 rfl rfl (vld_of (n := 1) rfl (by omega) (by omega)) ?_
          refine r_iload hC dX6_like_48 rfl ?_
          refine z_iald hM dX6_like_50 rfl (by omega) (by omega) (fun v18 h_v18 o_v18 t_v18 => ?_)
          refine r_istore_n hC dX6_like_51 rfl ?_
          exact J52_16 (v18) (v12)  (by omega) (by omega) 
        · refine r_goto (tgt := 52) hC dX6_like_38 rfl ?_
          exact J52_16 (w3) (w2)  (by omega) (by omega) 
  exact L12 244 (0) (0) (0) (0) (0)  (by omega) (by omega) (by omega) (by omega) (by omega) (by omega) (by omega) 
theorem m_goThrough {ea eb : Bool} {d : Nat} {P : Option Vl → Mm → Prop} {σ : Mm} {o n : Int} (b_n : 1 ≤ n ∧ n ≤ 242) (hn : σ 30 0 8 = n)  (k : P none σ) : WT (ea, eb, true) (d + 3) 158 [vR 30 0, vI o] σ P := by
  refine WT_in fun K hK => ?_
  have hK : StpY (ea, eb, true) cX6_goThrough RX6 (none) (WT (ea, eb, true) (d + 2)) P K := hK
  have hM := hK.1
  have hC := hK.1.1
  show K 0 [some (vR 30 0), some (vI o)] [] σ
  refine r_rngz hC (fun g0 => ?_)
  have r_o : -2147483648 ≤ o ∧ o ≤ 2147483647 := inR_le (g0 (vI o) (by simp))
  refine r_iload_n hC dX6_goThrough_0 rfl ?_
  rcases (by omega : (o < 0 ∨ 8 < o) ∨ o = 0 ∨ o = 1 ∨ o = 2 ∨ o = 3 ∨ o = 4 ∨ o = 5 ∨ o = 6 ∨ o = 7 ∨ o = 8) with h1 | h1 | h1 | h1 | h1 | h1 | h1 | h1 | h1 | h1
  · refine r_tableOut (tgt := 115) hC dX6_goThrough_1 h1 rfl ?_
    refine r_aload_n hC dX6_goThrough_115 rfl ?_
    refine z_inv0 hM dX6_goThrough_116 vl_RX6_157 rfl rfl rfl (Nat.le_of_ble_eq_true rfl) (Nat.le_of_ble_eq_true rfl) ?_
    refine m_multiply b_n hn ?_
    refine y_vret hK rfl dX6_goThrough_119 ?_
    exact k
  · refine r_tableIn (tgt := 52) (off := 51) hC dX6_goThrough_1 (by omega) (by omega) (by rw [h1]; rfl) rfl ?_
    refine r_aload_n hC dX6_goThrough_52 rfl ?_
    refine z_inv0 hM dX6_goThrough_53 vl_RX6_130 rfl rfl rfl (Nat.le_of_ble_eq_true rfl) (Nat.le_of_ble_eq_true rfl) ?_
    refine m_greatest b_n hn ?_
    refine r_goto (tgt := 119) hC dX6_goThrough_56 rfl ?_
    refine y_vret hK rfl dX6_goThrough_119 ?_
    exact k
  · refine r_tableIn (tgt := 59) (off := 58) hC dX6_goThrough_1 (by omega) (by omega) (by rw [h1]; rfl) rfl ?_
    refine r_aload_n hC dX6_goThrough_59 rfl ?_
    refine z_inv0 hM dX6_goThrough_60 vl_RX6_133 rfl rfl rfl (Nat.le_of_ble_eq_true rfl) (Nat.le_of_ble_eq_true rfl) ?_
    refine m_share b_n hn ?_
    refine r_goto (tgt := 119) hC dX6_goThrough_63 rfl ?_
    refine y_vret hK rfl dX6_goThrough_119 ?_
    exact k
  · refine r_tableIn (tgt := 66) (off := 65) hC dX6_goThrough_1 (by omega) (by omega) (by rw [h1]; rfl) rfl ?_
    refine r_aload_n hC dX6_goThrough_66 rfl ?_
    refine z_inv0 hM dX6_goThrough_67 vl_RX6_136 rfl rfl rfl (Nat.le_of_ble_eq_true rfl) (Nat.le_of_ble_eq_true rfl) ?_
    refine m_line b_n hn ?_
    refine r_goto (tgt := 119) hC dX6_goThrough_70 rfl ?_
    refine y_vret hK rfl dX6_goThrough_119 ?_
    exact k
  · refine r_tableIn (tgt := 73) (off := 72) hC dX6_goThrough_1 (by omega) (by omega) (by rw [h1]; rfl) rfl ?_
    refine r_aload_n hC dX6_goThrough_73 rfl ?_
    refine z_inv0 hM dX6_goThrough_74 vl_RX6_139 rfl rfl rfl (Nat.le_of_ble_eq_true rfl) (Nat.le_of_ble_eq_true rfl) ?_
    refine m_run b_n hn ?_
    refine r_goto (tgt := 119) hC dX6_goThrough_77 rfl ?_
    refine y_vret hK rfl dX6_goThrough_119 ?_
    exact k
  · refine r_tableIn (tgt := 80) (off := 79) hC dX6_goThrough_1 (by omega) (by omega) (by rw [h1]; rfl) rfl ?_
    refine r_aload_n hC dX6_goThrough_80 rfl ?_
    refine z_inv0 hM dX6_goThrough_81 vl_RX6_142 rfl rfl rfl (Nat.le_of_ble_eq_true rfl) (Nat.le_of_ble_eq_true rfl) ?_
    refine m_send b_n hn ?_
    refine r_goto (tgt := 119) hC dX6_goThrough_84 rfl ?_
    refine y_vret hK rfl dX6_goThrough_119 ?_
    exact k
  · refine r_tableIn (tgt := 87) (off := 86) hC dX6_goThrough_1 (by omega) (by omega) (by rw [h1]; rfl) rfl ?_
    refine r_aload_n hC dX6_goThrough_87 rfl ?_
    refine z_inv0 hM dX6_goThrough_88 vl_RX6_145 rfl rfl rfl (Nat.le_of_ble_eq_true rfl) (Nat.le_of_ble_eq_true rfl) ?_
    refine m_nest b_n hn ?_
    refine r_goto (tgt := 119) hC dX6_goThrough_91 rfl ?_
    refine y_vret hK rfl dX6_goThrough_119 ?_
    exact k
  · refine r_tableIn (tgt := 94) (off := 93) hC dX6_goThrough_1 (by omega) (by omega) (by rw [h1]; rfl) rfl ?_
    refine r_aload_n hC dX6_goThrough_94 rfl ?_
    refine z_inv0 hM dX6_goThrough_95 vl_RX6_148 rfl rfl rfl (Nat.le_of_ble_eq_true rfl) (Nat.le_of_ble_eq_true rfl) ?_
    refine m_like b_n hn ?_
    refine r_goto (tgt := 119) hC dX6_goThrough_98 rfl ?_
    refine y_vret hK rfl dX6_goThrough_119 ?_
    exact k
  · refine r_tableIn (tgt := 101) (off := 100) hC dX6_goThrough_1 (by omega) (by omega) (by rw [h1]; rfl) rfl ?_
    refine r_aload_n hC dX6_goThrough_101 rfl ?_
    refine z_inv0 hM dX6_goThrough_102 vl_RX6_151 rfl rfl rfl (Nat.le_of_ble_eq_true rfl) (Nat.le_of_ble_eq_true rfl) ?_
    refine m_steps b_n hn ?_
    refine r_goto (tgt := 119) hC dX6_goThrough_105 rfl ?_
    refine y_vret hK rfl dX6_goThrough_119 ?_
    exact k
  · refine r_tableIn (tgt := 108) (off := 107) hC dX6_goThrough_1 (by omega) (by omega) (by rw [h1]; rfl) rfl ?_
    refine r_aload_n hC dX6_goThrough_108 rfl ?_
    refine z_inv0 hM dX6_goThrough_109 vl_RX6_154 rfl rfl rfl (Nat.le_of_ble_eq_true rfl) (Nat.le_of_ble_eq_true rfl) ?_
    refine m_spread b_n hn ?_
    refine r_goto (tgt := 119) hC dX6_goThrough_112 rfl ?_
    refine y_vret hK rfl dX6_goThrough_119 ?_
    exact k
theorem m_comes {ea eb : Bool} {d : Nat} {P : Option Vl → Mm → Prop} {σ : Mm} {o w n : Int} (b_w : 0 ≤ w ∧ w ≤ 6) (b_n : 0 ≤ n ∧ n ≤ 242) (qg0 : σ 30 0 8 = n)  (k : ∀ r : Int, (-2147483648 ≤ r ∧ r ≤ 2147483647) → P (some (vI r)) σ) : WT (ea, eb, true) (d + 4) 159 [vR 30 0, vI o, vI w] σ P := by
  refine WT_in fun K hK => ?_
  have hK : StpY (ea, eb, true) cX6_comes RX6 (some .int) (WT (ea, eb, true) (d + 3)) P K := hK
  have hM := hK.1
  have hC := hK.1.1
  show K 0 [some (vR 30 0), some (vI o), some (vI w)] [] σ
  refine r_rngz hC (fun g0 => ?_)
  have r_o : -2147483648 ≤ o ∧ o ≤ 2147483647 := inR_le (g0 (vI o) (by simp))
  refine r_aload_n hC dX6_comes_0 rfl ?_
  refine z_getI (jz := 8) hM dX6_comes_1 fl_RX6_105 rfl rfl rfl (fun v1 h_v1 o_v1 t_v1 => ?_)
  have e_v1 : n = v1 := ((t_v1 ((Or.inr (Or.inr (Or.inr ⟨rfl, rfl⟩))))).trans qg0).symm
  subst e_v1
  refine r_if_ne (tgt := 10) hC dX6_comes_4 rfl (fun h2 => ?_) (fun h2 => ?_)
  · refine r_aload_n hC dX6_comes_10 rfl ?_
    refine r_iload_n hC dX6_comes_11 rfl ?_
    refine z_inv1 hM dX6_comes_12 vl_RX6_161 rfl rfl rfl (Nat.le_of_ble_eq_true rfl) (Nat.le_of_ble_eq_true rfl) ?_
    refine m_goThrough (n := n) (by omega) (by have hq := qg0; omega) ?_
    refine r_aload_n hC dX6_comes_15 rfl ?_
    refine z_getR hM dX6_comes_16 fl_RX6_31 rfl rfl (vld_of (n := 1) rfl (by omega) (by omega)) ?_
    refine r_iload_n hC dX6_comes_19 rfl ?_
    refine z_iald hM dX6_comes_20 rfl (by omega) (by omega) (fun v3 h_v3 o_v3 t_v3 => ?_)
    refine y_iret hK rfl dX6_comes_21 ?_
    exact k _ (by omega)
  · refine r_ldc hC dX6_comes_7 co_RX6_160 rfl ?_
    refine y_iret hK rfl dX6_comes_9 ?_
    exact k _ (by omega)
theorem m_clearRow {ea eb : Bool} {d : Nat} {P : Option Vl → Mm → Prop} {σ : Mm} {n : Int} (qg0 : σ 30 0 8 = n)  (k : ∀ ρ : Mm, Gx (fun c x y => c = 37 ∨ c = 30 ∧ y = 8) σ ρ → ρ 30 0 8 = 0 → P none ρ) : WT (ea, eb, true) (d + 1) 152 [vR 30 0] σ P := by
  refine WT_in fun K hK => ?_
  have hK : StpY (ea, eb, true) cX6_clearRow RX6 (none) (WT (ea, eb, true) (d + 0)) P K := hK
  have hM := hK.1
  have hC := hK.1.1
  show K 0 [some (vR 30 0)] [] σ
  refine r_aload_n hC dX6_clearRow_0 rfl ?_
  refine r_iconst hC dX6_clearRow_1 rfl ?_
  refine z_putIG (jz := 8) hM dX6_clearRow_2 fw_RX6_105 rfl rfl rfl ⟨Or.inr (by simp [DL]), Or.inr (by simp [DF])⟩ (by simp [Okv]; try omega) (fun ρ1 a_ρ1 q_ρ1 => ?_)
  refine y_vret hK rfl dX6_clearRow_5 ?_
  exact k _ ((Gx.rf).al a_ρ1 (by first | simp | omega)) (by have hq := q_ρ1; omega)
theorem m_put {ea eb : Bool} {d : Nat} {P : Option Vl → Mm → Prop} {σ : Mm} {v n : Int} (b_n : 0 ≤ n ∧ n ≤ 241) (qg0 : σ 30 0 8 = n)  (k : ∀ ρ : Mm, Gx (fun c x y => c = 37 ∨ c = 30 ∧ y = 8) σ ρ → ρ 30 0 8 = n + 1 → P none ρ) : WT (ea, eb, true) (d + 1) 153 [vR 30 0, vI v] σ P := by
  refine WT_in fun K hK => ?_
  have hK : StpY (ea, eb, true) cX6_put RX6 (none) (WT (ea, eb, true) (d + 0)) P K := hK
  have hM := hK.1
  have hC := hK.1.1
  show K 0 [some (vR 30 0), some (vI v)] [] σ
  refine r_rngz hC (fun g0 => ?_)
  have r_v : -2147483648 ≤ v ∧ v ≤ 2147483647 := inR_le (g0 (vI v) (by simp))
  refine r_aload_n hC dX6_put_0 rfl ?_
  refine z_getR hM dX6_put_1 fl_RX6_28 rfl rfl (vld_of (n := 1) rfl (by omega) (by omega)) ?_
  refine r_aload_n hC dX6_put_4 rfl ?_
  refine z_getI (jz := 8) hM dX6_put_5 fl_RX6_105 rfl rfl rfl (fun v1 h_v1 o_v1 t_v1 => ?_)
  have e_v1 : n = v1 := ((t_v1 ((Or.inr (Or.inr (Or.inr ⟨rfl, rfl⟩))))).trans qg0).symm
  subst e_v1
  refine r_iload_n hC dX6_put_8 rfl ?_
  refine z_iastG hM dX6_put_9 rfl (by omega) (by omega) ⟨Or.inr (by simp [DL]), Or.inr (by simp [DF])⟩ trivial (fun ρ2 a_ρ2 q_ρ2 => ?_)
  refine r_aload_n hC dX6_put_10 rfl ?_
  refine r_dup hC dX6_put_11 rfl ?_
  refine z_getI (jz := 8) hM dX6_put_12 fl_RX6_105 rfl rfl rfl (fun v3 h_v3 o_v3 t_v3 => ?_)
  have e_v3 : n = v3 := ((t_v3 ((Or.inr (Or.inr (Or.inr ⟨rfl, rfl⟩))))).trans ((a_ρ2 _ _ _ (by omega)).trans qg0)).symm
  subst e_v3
  refine r_iconst hC dX6_put_15 rfl ?_
  refine r_iaddE hC ((n + 1)) dX6_put_16 (by omega) (by unfold inR; omega) ?_
  refine z_putIG (jz := 8) hM dX6_put_17 fw_RX6_105 rfl rfl rfl ⟨Or.inr (by simp [DL]), Or.inr (by simp [DF])⟩ (by simp [Okv]; try omega) (fun ρ4 a_ρ4 q_ρ4 => ?_)
  refine y_vret hK rfl dX6_put_20 ?_
  exact k _ (((Gx.rf).al a_ρ2 (by first | simp | omega)).al a_ρ4 (by first | simp | omega)) (by have hq := q_ρ4; omega)
theorem m_putFrom {ea eb : Bool} {d : Nat} {P : Option Vl → Mm → Prop} {σ : Mm} {l f z n : Int} (b_l : 0 ≤ l ∧ l ≤ 7) (b_f : 0 ≤ f ∧ f ≤ 121) (b_z : -2147483648 ≤ z ∧ z ≤ 120) (b_n : 0 ≤ n ∧ n ≤ 242) (qg0 : σ 30 0 8 = n) (hs : f ≤ z → n + (z - f + 1) ≤ 242)  (k : ∀ ρ : Mm, Gx (fun c x y => c = 37 ∨ c = 30 ∧ y = 8) σ ρ → ((f ≤ z → ρ 30 0 8 = n + (z - f + 1)) ∧ (z < f → ρ 30 0 8 = n)) → P none ρ) : WT (ea, eb, true) (d + 2) 154 [vR 30 0, vI l, vI f, vI z] σ P := by
  refine WT_in fun K hK => ?_
  have hK : StpY (ea, eb, true) cX6_putFrom RX6 (none) (WT (ea, eb, true) (d + 1)) P K := hK
  have hM := hK.1
  have hC := hK.1.1
  show K 0 [some (vR 30 0), some (vI l), some (vI f), some (vI z), none] [] σ
  refine r_iload_n hC dX6_putFrom_0 rfl ?_
  refine r_istore hC dX6_putFrom_1 rfl ?_
  have L3 : ∀ (n3 : Nat) (w1 w2 : Int) (ρ3 : Mm), 0 ≤ w1 ∧ w1 ≤ 121 → 0 ≤ w2 ∧ w2 ≤ 242 → ((w2) = n + (w1) - f) → ((w1) ≤ z + 1 ∨ (w1) = f) → (f ≤ (w1)) → 121 - w1 < (n3 : Int) → Gx (fun c x y => c = 37 ∨ c = 30 ∧ y = 8) σ ρ3 → ρ3 30 0 8 = w2 → K 3 [some (vR 30 0), some (vI l), some (vI f), some (vI z), some (vI w1)] [] ρ3 := by
    intro n3
    induction n3 with
    | zero => intro w1 w2 ρ3 f_w1 f_w2 i0_3 i1_3 i2_3 hm g_ρ3 q0_ρ3; omega
    | succ n3 ih3 =>
      intro w1 w2 ρ3 f_w1 f_w2 i0_3 i1_3 i2_3 hm3 g_ρ3 q0_ρ3
      refine r_iload hC dX6_putFrom_3 rfl ?_
      refine r_iload_n hC dX6_putFrom_5 rfl ?_
      refine r_icmp_gt (tgt := 31) hC dX6_putFrom_6 rfl (fun h4 => ?_) (fun h4 => ?_)
      · refine y_vret hK rfl dX6_putFrom_31 ?_
        exact k _ (g_ρ3) (by have hq := q0_ρ3; omega)
      · refine r_aload_n hC dX6_putFrom_9 rfl ?_
        refine r_aload_n hC dX6_putFrom_10 rfl ?_
        refine z_getR hM dX6_putFrom_11 fl_RX6_16 rfl rfl (vld_of (n := 1) rfl (by omega) (by omega)) ?_
        refine r_bipush hC dX6_putFrom_14 rfl ?_
        refine r_iload_n hC dX6_putFrom_16 rfl ?_
        refine r_imulE hC ((121 * l)) dX6_putFrom_17 (by omega) (by unfold inR; omega) ?_
        refine r_iload hC dX6_putFrom_18 rfl ?_
        refine r_iaddE hC (((121 * l) + w1)) dX6_putFrom_20 (by omega) (by unfold inR; omega) ?_
        refine z_iald hM dX6_putFrom_21 rfl (by omega) (by omega) (fun v5 h_v5 o_v5 t_v5 => ?_)
        refine z_inv1 hM dX6_putFrom_22 vl_RX6_109 rfl rfl rfl (Nat.le_of_ble_eq_true rfl) (Nat.le_of_ble_eq_true rfl) ?_
        refine m_put (n := w2) (by omega) (by have hq := q0_ρ3; omega) (fun ρ6 g_ρ6 q_ρ6 => ?_)
        refine r_iincE hC ((w1 + 1)) dX6_putFrom_25 rfl rfl (by omega) (by unfold inR; omega) ?_
        refine r_goto (tgt := 3) hC dX6_putFrom_28 rfl ?_
        exact ih3 ((w1 + 1)) ((w2 + 1)) ρ6 (by omega) (by omega) (by omega) (by omega) (by omega) (by omega) (Gx.gx (g_ρ3) g_ρ6 (fun _ _ _ h => h)) (by have hq := q_ρ6; omega)
  exact L3 123 (f) (n) σ (by omega) (by omega) (by omega) (by omega) (by omega) (by omega) (Gx.rf) (by have hq := qg0; omega)
theorem m_layAll {ea eb : Bool} {d : Nat} {P : Option Vl → Mm → Prop} {σ : Mm} {l n : Int} (b_l : 0 ≤ l ∧ l ≤ 7) (qg0 : σ 30 0 8 = n)  (k : ∀ ρ : Mm, Gx (fun c x y => c = 37 ∨ c = 30 ∧ y = 8) σ ρ → 0 ≤ ρ 30 0 8 ∧ ρ 30 0 8 ≤ 121 → (ea = true → ρ 30 0 8 = σ 31 0 (22 * l + 5)) → P none ρ) : WT (ea, eb, true) (d + 3) 155 [vR 30 0, vI l] σ P := by
  refine WT_in fun K hK => ?_
  have hK : StpY (ea, eb, true) cX6_layAll RX6 (none) (WT (ea, eb, true) (d + 2)) P K := hK
  have hM := hK.1
  have hC := hK.1.1
  show K 0 [some (vR 30 0), some (vI l)] [] σ
  refine r_aload_n hC dX6_layAll_0 rfl ?_
  refine z_inv0 hM dX6_layAll_1 vl_RX6_113 rfl rfl rfl (Nat.le_of_ble_eq_true rfl) (Nat.le_of_ble_eq_true rfl) ?_
  refine m_clearRow (n := n) (by have hq := qg0; omega) (fun ρ1 g_ρ1 q_ρ1 => ?_)
  refine r_aload_n hC dX6_layAll_4 rfl ?_
  refine r_iload_n hC dX6_layAll_5 rfl ?_
  refine r_iconst hC dX6_layAll_6 rfl ?_
  refine r_aload_n hC dX6_layAll_7 rfl ?_
  refine r_iload_n hC dX6_layAll_8 rfl ?_
  refine z_inv1 hM dX6_layAll_9 vl_RX6_116 rfl rfl rfl (Nat.le_of_ble_eq_true rfl) (Nat.le_of_ble_eq_true rfl) ?_
  refine m_heldOf (by omega) (fun v2 h_v2 t_v2 => ?_)
  refine r_iconst hC dX6_layAll_12 rfl ?_
  refine r_isubE hC ((v2 - 1)) dX6_layAll_13 (by omega) (by unfold inR; omega) ?_
  refine z_inv3 hM dX6_layAll_14 vl_RX6_120 rfl rfl rfl (Nat.le_of_ble_eq_true rfl) (Nat.le_of_ble_eq_true rfl) ?_
  refine m_putFrom (n := 0) (by omega) (by omega) (by omega) (by omega) (by have hq := q_ρ1; omega) (by omega) (fun ρ3 g_ρ3 q_ρ3 => ?_)
  obtain ⟨n4, e_n4⟩ : ∃ v, ρ3 30 0 8 = v := ⟨_, rfl⟩
  have b_n4 : (0 ≤ (v2 - 1) → n4 = 0 + ((v2 - 1) - 0 + 1)) ∧ ((v2 - 1) < 0 → n4 = 0) ∧ 0 ≤ n4 ∧ n4 ≤ 242 := by have hq := q_ρ3; omega
  replace q_ρ3 := e_n4
  refine y_vret hK rfl dX6_layAll_17 ?_
  exact k _ (Gx.gx (Gx.gx (Gx.rf) g_ρ1 (fun _ _ _ h => h)) g_ρ3 (fun _ _ _ h => h)) (by have hq := q_ρ3; omega) (fun he => by have hq := q_ρ3; have hr := t_v2 he; have hs := (g_ρ1 31 0 (22 * l + 5) (by simp)); omega)
theorem m_comesFrom_S {ea eb : Bool} {d : Nat} {P : Option Vl → Mm → Prop} {σ : Mm} {l f z w n : Int} (b_l : 0 ≤ l ∧ l ≤ 7) (b_f : 0 ≤ f ∧ f ≤ 121) (b_z : -2147483648 ≤ z ∧ z ≤ 120) (b_w : 0 ≤ w ∧ w ≤ 6) (qg0 : σ 30 0 8 = n)  (k : ∀ (r : Int) (ρ : Mm), Gx (fun c x y => c = 37 ∨ c = 30 ∧ y = 8) σ ρ → (-2147483648 ≤ r ∧ r ≤ 2147483647) → P (some (vI r)) ρ) : WT (ea, eb, true) (d + 5) 213 [vR 30 0, vI l, vI f, vI z, vI w] σ P := by
  refine WT_in fun K hK => ?_
  have hK : StpY (ea, eb, true) cX6_comesFrom RX6 (some .int) (WT (ea, eb, true) (d + 4)) P K := hK
  have hM := hK.1
  have hC := hK.1.1
  show K 0 [some (vR 30 0), some (vI l), some (vI f), some (vI z), some (vI w)] [] σ
  refine r_aload_n hC dX6_comesFrom_0 rfl ?_
  refine z_inv0 hM dX6_comesFrom_1 vl_RX6_113 rfl rfl rfl (Nat.le_of_ble_eq_true rfl) (Nat.le_of_ble_eq_true rfl) ?_
  refine m_clearRow (n := n) (by have hq := qg0; omega) (fun ρ1 g_ρ1 q_ρ1 => ?_)
  refine r_aload_n hC dX6_comesFrom_4 rfl ?_
  refine r_iload_n hC dX6_comesFrom_5 rfl ?_
  refine r_iload_n hC dX6_comesFrom_6 rfl ?_
  refine r_iload_n hC dX6_comesFrom_7 rfl ?_
  refine z_inv3 hM dX6_comesFrom_8 vl_RX6_120 rfl rfl rfl (Nat.le_of_ble_eq_true rfl) (Nat.le_of_ble_eq_true rfl) ?_
  refine m_putFrom (n := 0) (by omega) (by omega) (by omega) (by omega) (by have hq := q_ρ1; omega) (by omega) (fun ρ2 g_ρ2 q_ρ2 => ?_)
  obtain ⟨n3, e_n3⟩ : ∃ v, ρ2 30 0 8 = v := ⟨_, rfl⟩
  have b_n3 : (f ≤ z → n3 = 0 + (z - f + 1)) ∧ (z < f → n3 = 0) ∧ 0 ≤ n3 ∧ n3 ≤ 242 := by have hq := q_ρ2; omega
  replace q_ρ2 := e_n3
  refine r_aload_n hC dX6_comesFrom_11 rfl ?_
  refine r_aload_n hC dX6_comesFrom_12 rfl ?_
  refine r_iload_n hC dX6_comesFrom_13 rfl ?_
  refine r_iconst hC dX6_comesFrom_14 rfl ?_
  refine z_inv2 hM dX6_comesFrom_15 vl_RX6_80 rfl rfl rfl (Nat.le_of_ble_eq_true rfl) (Nat.le_of_ble_eq_true rfl) ?_
  refine m_of (by omega) (by omega) (fun v4 h_v4 h5_v4 h0_v4 t_v4 => ?_)
  refine r_iload hC dX6_comesFrom_18 rfl ?_
  refine z_inv2 hM dX6_comesFrom_20 vl_RX6_197 rfl rfl rfl (Nat.le_of_ble_eq_true rfl) (Nat.le_of_ble_eq_true rfl) ?_
  refine m_comes (n := n3) (by omega) (by omega) (by have hq := q_ρ2; omega) (fun v5 h_v5 => ?_)
  refine y_iret hK rfl dX6_comesFrom_23 ?_
  exact k _ _ (Gx.gx (Gx.gx (Gx.rf) g_ρ1 (fun _ _ _ h => h)) g_ρ2 (fun _ _ _ h => h)) (by omega)
theorem m_comesFrom {ea eb : Bool} {d : Nat} {P : Option Vl → Mm → Prop} {σ : Mm} {l f z w : Int} (b_l : 0 ≤ l ∧ l ≤ 7) (b_f : 0 ≤ f ∧ f ≤ 121) (b_z : -2147483648 ≤ z ∧ z ≤ 120) (b_w : 0 ≤ w ∧ w ≤ 6) (k : ∀ r : Int, -2147483648 ≤ r ∧ r ≤ 2147483647 → P (some (vI r)) σ) : WT (ea, eb, false) (d + 5) 213 [vR 30 0, vI l, vI f, vI z, vI w] σ P := by
  refine WT_loose (ea, eb, true) (fun h => h) (fun h => h) (fun c j q => ?_) (fun ρ hL hF hT hO => ?_)
  · rcases q with q | q | q | q
    · exact Or.inl q
    · exact Or.inr (Or.inl q)
    · exact Or.inr (Or.inr (Or.inl q))
    · cases q.1
  · refine m_comesFrom_S b_l b_f b_z b_w (qg0 := rfl) (fun r ρ2 g hr => ⟨σ, k r hr, fun h => Or.inl h, fun h => Or.inl h, fun c i j q => ?_⟩)
    refine (g c i j ?_).trans (hT c i j q)
    rintro (rfl | ⟨rfl, rfl⟩)
    all_goals
      rcases q with q | q | q | q
      · exact q
      · exact q.2
      · exact q.2
      · cases q.1
theorem m_comesWithout_S {ea eb : Bool} {d : Nat} {P : Option Vl → Mm → Prop} {σ : Mm} {l x w n : Int} (b_l : 0 ≤ l ∧ l ≤ 7) (b_x : 0 ≤ x ∧ x ≤ 120) (b_w : 0 ≤ w ∧ w ≤ 6) (qg0 : σ 30 0 8 = n)  (k : ∀ (r : Int) (ρ : Mm), Gx (fun c x y => c = 37 ∨ c = 30 ∧ y = 8) σ ρ → (-2147483648 ≤ r ∧ r ≤ 2147483647) → P (some (vI r)) ρ) : WT (ea, eb, true) (d + 5) 224 [vR 30 0, vI l, vI x, vI w] σ P := by
  refine WT_in fun K hK => ?_
  have hK : StpY (ea, eb, true) cX6_comesWithout RX6 (some .int) (WT (ea, eb, true) (d + 4)) P K := hK
  have hM := hK.1
  have hC := hK.1.1
  show K 0 [some (vR 30 0), some (vI l), some (vI x), some (vI w)] [] σ
  refine r_aload_n hC dX6_comesWithout_0 rfl ?_
  refine z_inv0 hM dX6_comesWithout_1 vl_RX6_113 rfl rfl rfl (Nat.le_of_ble_eq_true rfl) (Nat.le_of_ble_eq_true rfl) ?_
  refine m_clearRow (n := n) (by have hq := qg0; omega) (fun ρ1 g_ρ1 q_ρ1 => ?_)
  refine r_aload_n hC dX6_comesWithout_4 rfl ?_
  refine r_iload_n hC dX6_comesWithout_5 rfl ?_
  refine r_iconst hC dX6_comesWithout_6 rfl ?_
  refine r_iload_n hC dX6_comesWithout_7 rfl ?_
  refine r_iconst hC dX6_comesWithout_8 rfl ?_
  refine r_isubE hC ((x - 1)) dX6_comesWithout_9 (by omega) (by unfold inR; omega) ?_
  refine z_inv3 hM dX6_comesWithout_10 vl_RX6_120 rfl rfl rfl (Nat.le_of_ble_eq_true rfl) (Nat.le_of_ble_eq_true rfl) ?_
  refine m_putFrom (n := 0) (by omega) (by omega) (by omega) (by omega) (by have hq := q_ρ1; omega) (by omega) (fun ρ2 g_ρ2 q_ρ2 => ?_)
  obtain ⟨n3, e_n3⟩ : ∃ v, ρ2 30 0 8 = v := ⟨_, rfl⟩
  have b_n3 : (0 ≤ (x - 1) → n3 = 0 + ((x - 1) - 0 + 1)) ∧ ((x - 1) < 0 → n3 = 0) ∧ 0 ≤ n3 ∧ n3 ≤ 242 := by have hq := q_ρ2; omega
  replace q_ρ2 := e_n3
  refine r_aload_n hC dX6_comesWithout_13 rfl ?_
  refine r_iload_n hC dX6_comesWithout_14 rfl ?_
  refine r_iload_n hC dX6_comesWithout_15 rfl ?_
  refine r_iconst hC dX6_comesWithout_16 rfl ?_
  refine r_iaddE hC ((x + 1)) dX6_comesWithout_17 (by omega) (by unfold inR; omega) ?_
  refine r_aload_n hC dX6_comesWithout_18 rfl ?_
  refine r_iload_n hC dX6_comesWithout_19 rfl ?_
  refine z_inv1 hM dX6_comesWithout_20 vl_RX6_116 rfl rfl rfl (Nat.le_of_ble_eq_true rfl) (Nat.le_of_ble_eq_true rfl) ?_
  refine m_heldOf (by omega) (fun v4 h_v4 t_v4 => ?_)
  refine r_iconst hC dX6_comesWithout_23 rfl ?_
  refine r_isubE hC ((v4 - 1)) dX6_comesWithout_24 (by omega) (by unfold inR; omega) ?_
  refine z_inv3 hM dX6_comesWithout_25 vl_RX6_120 rfl rfl rfl (Nat.le_of_ble_eq_true rfl) (Nat.le_of_ble_eq_true rfl) ?_
  refine m_putFrom (n := n3) (by omega) (by omega) (by omega) (by omega) (by have hq := q_ρ2; omega) (by omega) (fun ρ5 g_ρ5 q_ρ5 => ?_)
  obtain ⟨n6, e_n6⟩ : ∃ v, ρ5 30 0 8 = v := ⟨_, rfl⟩
  have b_n6 : ((x + 1) ≤ (v4 - 1) → n6 = n3 + ((v4 - 1) - (x + 1) + 1)) ∧ ((v4 - 1) < (x + 1) → n6 = n3) ∧ 0 ≤ n6 ∧ n6 ≤ 242 := by have hq := q_ρ5; omega
  replace q_ρ5 := e_n6
  refine r_aload_n hC dX6_comesWithout_28 rfl ?_
  refine r_aload_n hC dX6_comesWithout_29 rfl ?_
  refine r_iload_n hC dX6_comesWithout_30 rfl ?_
  refine r_iconst hC dX6_comesWithout_31 rfl ?_
  refine z_inv2 hM dX6_comesWithout_32 vl_RX6_80 rfl rfl rfl (Nat.le_of_ble_eq_true rfl) (Nat.le_of_ble_eq_true rfl) ?_
  refine m_of (by omega) (by omega) (fun v7 h_v7 h5_v7 h0_v7 t_v7 => ?_)
  refine r_iload_n hC dX6_comesWithout_35 rfl ?_
  refine z_inv2 hM dX6_comesWithout_36 vl_RX6_197 rfl rfl rfl (Nat.le_of_ble_eq_true rfl) (Nat.le_of_ble_eq_true rfl) ?_
  refine m_comes (n := n6) (by omega) (by omega) (by have hq := q_ρ5; omega) (fun v8 h_v8 => ?_)
  refine y_iret hK rfl dX6_comesWithout_39 ?_
  exact k _ _ (Gx.gx (Gx.gx (Gx.gx (Gx.rf) g_ρ1 (fun _ _ _ h => h)) g_ρ2 (fun _ _ _ h => h)) g_ρ5 (fun _ _ _ h => h)) (by omega)
theorem m_comesWithout {ea eb : Bool} {d : Nat} {P : Option Vl → Mm → Prop} {σ : Mm} {l x w : Int} (b_l : 0 ≤ l ∧ l ≤ 7) (b_x : 0 ≤ x ∧ x ≤ 120) (b_w : 0 ≤ w ∧ w ≤ 6) (k : ∀ r : Int, -2147483648 ≤ r ∧ r ≤ 2147483647 → P (some (vI r)) σ) : WT (ea, eb, false) (d + 5) 224 [vR 30 0, vI l, vI x, vI w] σ P := by
  refine WT_loose (ea, eb, true) (fun h => h) (fun h => h) (fun c j q => ?_) (fun ρ hL hF hT hO => ?_)
  · rcases q with q | q | q | q
    · exact Or.inl q
    · exact Or.inr (Or.inl q)
    · exact Or.inr (Or.inr (Or.inl q))
    · cases q.1
  · refine m_comesWithout_S b_l b_x b_w (qg0 := rfl) (fun r ρ2 g hr => ⟨σ, k r hr, fun h => Or.inl h, fun h => Or.inl h, fun c i j q => ?_⟩)
    refine (g c i j ?_).trans (hT c i j q)
    rintro (rfl | ⟨rfl, rfl⟩)
    all_goals
      rcases q with q | q | q | q
      · exact q
      · exact q.2
      · exact q.2
      · cases q.1
