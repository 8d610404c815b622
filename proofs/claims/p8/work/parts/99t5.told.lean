-- B: the reference: PANES, SESSIONS, all together
theorem paneR.u {T : Int → Int} {w h i r s : Int} (a : paneR T w h i r) (b : paneR T w h i s) : r = s := by
  obtain ⟨a1, a2, a3⟩ := a
  obtain ⟨b1, b2, b3⟩ := b
  by_cases z : r < s
  · exact absurd (b2 (i + r) (by omega) (by omega)) (a3 (by omega))
  · by_cases z2 : s < r
    · exact absurd (a2 (i + s) (by omega) (by omega)) (b3 (by omega))
    · omega
theorem sesR.u {T : Int → Int} {g h i r s : Int} (a : sesR T g h i r) (b : sesR T g h i s) : r = s := by
  obtain ⟨a1, a2, a3⟩ := a
  obtain ⟨b1, b2, b3⟩ := b
  by_cases z : r < s
  · exact absurd (a3 (by omega)) (b2 (i + r) (by omega) (by omega))
  · by_cases z2 : s < r
    · exact absurd (b3 (by omega)) (a2 (i + s) (by omega) (by omega))
    · omega
theorem y_inPane {eb : Bool} {t : Int} {V : Mm} {d : Nat} {P : Option Vl → Mm → Prop} {σ : Mm} {l i x : Int} (b_l : 0 ≤ l ∧ l ≤ 3) (b_i : 0 ≤ i ∧ i ≤ 119) (b_x : 1 ≤ x ∧ x ≤ 100000) {σ0 : Mm} (ht : 6 ≤ t ∧ t ≤ 7) (hR : RS t σ0 V σ) (hG : GI V) (hi : i < V 7 l 6)  (k : ∀ r : Int, paneR (V 8 l) x (V 7 l 6) i r → P (some (vI r)) σ) : WT (true, eb, true) (d + 3) 244 [vR 30 0, vI l, vI i, vI x] σ P := by
  refine WT_in fun K hK => ?_
  have hK : StpY (true, eb, true) cX6_inPane RX6 (some .int) (WT (true, eb, true) (d + 2)) P K := hK
  have hM := hK.1
  have hC := hK.1.1
  show K 0 [some (vR 30 0), some (vI l), some (vI i), some (vI x), none] [] σ
  have hrow := hG.2.1.2.2.1
  have h6 := hG.1.h7 (l := l) (by omega) (by omega)
  refine r_iconst hC dX6_inPane_0 rfl ?_
  refine r_istore hC dX6_inPane_1 rfl ?_
  have L3 : ∀ (n3 : Nat) (w1 : Int), 1 ≤ w1 ∧ w1 ≤ 120 → (∀ j : Int, i ≤ j → j < i + (w1) → V 8 l j / x = V 8 l i / x) → (i + (w1) ≤ V 7 l 6) → 121 - w1 < (n3 : Int) → K 3 [some (vR 30 0), some (vI l), some (vI i), some (vI x), some (vI w1)] [] σ := by
    intro n3
    induction n3 with
    | zero => intro w1  f_w1 i0_3 i1_3 hm  ; omega
    | succ n3 ih3 =>
      intro w1  f_w1 i0_3 i1_3 hm3  
      refine r_iload_n hC dX6_inPane_3 rfl ?_
      refine r_iload hC dX6_inPane_4 rfl ?_
      refine r_iaddE hC ((i + w1)) dX6_inPane_6 (by omega) (by unfold inR; omega) ?_
      refine r_aload_n hC dX6_inPane_7 rfl ?_
      refine r_iload_n hC dX6_inPane_8 rfl ?_
      refine z_inv1 hM dX6_inPane_9 vl_RX6_116 rfl rfl rfl (Nat.le_of_ble_eq_true rfl) (Nat.le_of_ble_eq_true rfl) ?_
      refine y_heldOf (by omega) (fun o2 => ?_)
      have e3 : σ 31 0 (22 * l + 5) = (V 7 l 6) := (hR.1.a7 (s := 6) (f := 5) (by omega) (by omega) (by omega)).trans (rfl)
      rw [e3] at o2 ⊢
      have qo2 : 0 ≤ (V 7 l 6) ∧ (V 7 l 6) ≤ 121 := o2.1 (by omega)
      refine r_icmp_ge (tgt := 53) hC dX6_inPane_12 rfl (fun h4 => ?_) (fun h4 => ?_)
      · refine r_iload hC dX6_inPane_53 rfl ?_
        refine y_iret hK rfl dX6_inPane_55 ?_
        exact k _ ⟨by omega, i0_3, fun q => by omega⟩
      · refine r_aload_n hC dX6_inPane_15 rfl ?_
        refine z_getR hM dX6_inPane_16 fl_RX6_13 rfl rfl (vld_of (n := 1) rfl (by omega) (by omega)) ?_
        refine r_bipush hC dX6_inPane_19 rfl ?_
        refine r_iload_n hC dX6_inPane_21 rfl ?_
        refine r_imulE hC ((121 * l)) dX6_inPane_22 (by omega) (by unfold inR; omega) ?_
        refine r_iload_n hC dX6_inPane_23 rfl ?_
        refine r_iaddE hC (((121 * l) + i)) dX6_inPane_24 (by omega) (by unfold inR; omega) ?_
        refine r_iload hC dX6_inPane_25 rfl ?_
        refine r_iaddE hC ((((121 * l) + i) + w1)) dX6_inPane_27 (by omega) (by unfold inR; omega) ?_
        refine z_iald hM dX6_inPane_28 rfl (by omega) (by omega) (fun v5 h_v5 o_v5 t_v5 => ?_)
        have w_v5 := ((t_v5 (Or.inl trivial)).trans ((show σ 32 0 (((121 * l) + i) + w1) = V 8 l (i + w1) from by rw [show (((121 * l) + i) + w1) = 121 * l + (i + w1) from by omega]; exact hR.1.a8 (y := (i + w1)) (by omega) (by omega) (by omega) (by omega)).trans (rfl))).symm
        subst w_v5
        have ht_29 := (hrow l (i + w1) (by omega) (by omega) (by omega) (by omega)).1
        refine r_iload_n hC dX6_inPane_29 rfl ?_
        refine r_idivN hC dX6_inPane_30 (by omega) (by omega) ?_
        have f_v6 := idiv_fr (a := (V 8 l (i + w1))) (b := x) (by omega) (by omega)
        refine r_aload_n hC dX6_inPane_31 rfl ?_
        refine z_getR hM dX6_inPane_32 fl_RX6_13 rfl rfl (vld_of (n := 1) rfl (by omega) (by omega)) ?_
        refine r_bipush hC dX6_inPane_35 rfl ?_
        refine r_iload_n hC dX6_inPane_37 rfl ?_
        refine r_imulE hC ((121 * l)) dX6_inPane_38 (by omega) (by unfold inR; omega) ?_
        refine r_iload_n hC dX6_inPane_39 rfl ?_
        refine r_iaddE hC (((121 * l) + i)) dX6_inPane_40 (by omega) (by unfold inR; omega) ?_
        refine z_iald hM dX6_inPane_41 rfl (by omega) (by omega) (fun v7 h_v7 o_v7 t_v7 => ?_)
        have w_v7 := ((t_v7 (Or.inl trivial)).trans ((show σ 32 0 ((121 * l) + i) = V 8 l i from by rw [show ((121 * l) + i) = 121 * l + i from by omega]; exact hR.1.a8 (y := i) (by omega) (by omega) (by omega) (by omega)).trans (rfl))).symm
        subst w_v7
        have ht_42 := (hrow l i (by omega) (by omega) (by omega) (by omega)).1
        refine r_iload_n hC dX6_inPane_42 rfl ?_
        refine r_idivN hC dX6_inPane_43 (by omega) (by omega) ?_
        have f_v8 := idiv_fr (a := (V 8 l i)) (b := x) (by omega) (by omega)
        refine r_icmp_ne (tgt := 53) hC dX6_inPane_44 rfl (fun h9 => ?_) (fun h9 => ?_)
        · refine r_iload hC dX6_inPane_53 rfl ?_
          refine y_iret hK rfl dX6_inPane_55 ?_
          exact k _ ⟨by omega, i0_3, fun q => by omega⟩
        · refine r_iincE hC ((w1 + 1)) dX6_inPane_47 rfl rfl (by omega) (by unfold inR; omega) ?_
          refine r_goto (tgt := 3) hC dX6_inPane_50 rfl ?_
          exact ih3 ((w1 + 1))  (by omega) (by first | (intro j a b; have e : j = i := (by omega); rw [e]) | (intro j a b; rcases (by omega : j < i + w1 ∨ j = i + w1) with z | z; exact i0_3 j a z; subst z; omega)) (by omega) (by omega)  
  exact L3 123 (1)  (by omega) (by first | (intro j a b; have e : j = i := (by omega); rw [e]) | (intro j a b; rcases (by omega : j < i + w1 ∨ j = i + w1) with z | z; exact i0_3 j a z; subst z; omega)) (by omega) (by omega)  
theorem y_inSession {eb : Bool} {t : Int} {V : Mm} {d : Nat} {P : Option Vl → Mm → Prop} {σ : Mm} {l i x : Int} (b_l : 0 ≤ l ∧ l ≤ 3) (b_i : 0 ≤ i ∧ i ≤ 119) (b_x : 0 ≤ x ∧ x ≤ 100000) {σ0 : Mm} (ht : 6 ≤ t ∧ t ≤ 7) (hR : RS t σ0 V σ) (hG : GI V) (hi : i < V 7 l 6)  (k : ∀ r : Int, sesR (V 8 l) x (V 7 l 6) i r → P (some (vI r)) σ) : WT (true, eb, true) (d + 3) 248 [vR 30 0, vI l, vI i, vI x] σ P := by
  refine WT_in fun K hK => ?_
  have hK : StpY (true, eb, true) cX6_inSession RX6 (some .int) (WT (true, eb, true) (d + 2)) P K := hK
  have hM := hK.1
  have hC := hK.1.1
  show K 0 [some (vR 30 0), some (vI l), some (vI i), some (vI x), none] [] σ
  have hrow := hG.2.1.2.2.1
  have h6 := hG.1.h7 (l := l) (by omega) (by omega)
  refine r_iconst hC dX6_inSession_0 rfl ?_
  refine r_istore hC dX6_inSession_1 rfl ?_
  have L3 : ∀ (n3 : Nat) (w1 : Int), 1 ≤ w1 ∧ w1 ≤ 120 → (∀ j : Int, i < j → j < i + (w1) → ¬ wr (V 8 l j - V 8 l (j - 1)) > x) → (i + (w1) ≤ V 7 l 6) → 121 - w1 < (n3 : Int) → K 3 [some (vR 30 0), some (vI l), some (vI i), some (vI x), some (vI w1)] [] σ := by
    intro n3
    induction n3 with
    | zero => intro w1  f_w1 i0_3 i1_3 hm  ; omega
    | succ n3 ih3 =>
      intro w1  f_w1 i0_3 i1_3 hm3  
      refine r_iload_n hC dX6_inSession_3 rfl ?_
      refine r_iload hC dX6_inSession_4 rfl ?_
      refine r_iaddE hC ((i + w1)) dX6_inSession_6 (by omega) (by unfold inR; omega) ?_
      refine r_aload_n hC dX6_inSession_7 rfl ?_
      refine r_iload_n hC dX6_inSession_8 rfl ?_
      refine z_inv1 hM dX6_inSession_9 vl_RX6_116 rfl rfl rfl (Nat.le_of_ble_eq_true rfl) (Nat.le_of_ble_eq_true rfl) ?_
      refine y_heldOf (by omega) (fun o2 => ?_)
      have e3 : σ 31 0 (22 * l + 5) = (V 7 l 6) := (hR.1.a7 (s := 6) (f := 5) (by omega) (by omega) (by omega)).trans (rfl)
      rw [e3] at o2 ⊢
      have qo2 : 0 ≤ (V 7 l 6) ∧ (V 7 l 6) ≤ 121 := o2.1 (by omega)
      refine r_icmp_ge (tgt := 56) hC dX6_inSession_12 rfl (fun h4 => ?_) (fun h4 => ?_)
      · refine r_iload hC dX6_inSession_56 rfl ?_
        refine y_iret hK rfl dX6_inSession_58 ?_
        exact k _ ⟨by omega, i0_3, fun q => by omega⟩
      · refine r_aload_n hC dX6_inSession_15 rfl ?_
        refine z_getR hM dX6_inSession_16 fl_RX6_13 rfl rfl (vld_of (n := 1) rfl (by omega) (by omega)) ?_
        refine r_bipush hC dX6_inSession_19 rfl ?_
        refine r_iload_n hC dX6_inSession_21 rfl ?_
        refine r_imulE hC ((121 * l)) dX6_inSession_22 (by omega) (by unfold inR; omega) ?_
        refine r_iload_n hC dX6_inSession_23 rfl ?_
        refine r_iaddE hC (((121 * l) + i)) dX6_inSession_24 (by omega) (by unfold inR; omega) ?_
        refine r_iload hC dX6_inSession_25 rfl ?_
        refine r_iaddE hC ((((121 * l) + i) + w1)) dX6_inSession_27 (by omega) (by unfold inR; omega) ?_
        refine z_iald hM dX6_inSession_28 rfl (by omega) (by omega) (fun v5 h_v5 o_v5 t_v5 => ?_)
        have w_v5 := ((t_v5 (Or.inl trivial)).trans ((show σ 32 0 (((121 * l) + i) + w1) = V 8 l (i + w1) from by rw [show (((121 * l) + i) + w1) = 121 * l + (i + w1) from by omega]; exact hR.1.a8 (y := (i + w1)) (by omega) (by omega) (by omega) (by omega)).trans (rfl))).symm
        subst w_v5
        refine r_aload_n hC dX6_inSession_29 rfl ?_
        refine z_getR hM dX6_inSession_30 fl_RX6_13 rfl rfl (vld_of (n := 1) rfl (by omega) (by omega)) ?_
        refine r_bipush hC dX6_inSession_33 rfl ?_
        refine r_iload_n hC dX6_inSession_35 rfl ?_
        refine r_imulE hC ((121 * l)) dX6_inSession_36 (by omega) (by unfold inR; omega) ?_
        refine r_iload_n hC dX6_inSession_37 rfl ?_
        refine r_iaddE hC (((121 * l) + i)) dX6_inSession_38 (by omega) (by unfold inR; omega) ?_
        refine r_iload hC dX6_inSession_39 rfl ?_
        refine r_iaddE hC ((((121 * l) + i) + w1)) dX6_inSession_41 (by omega) (by unfold inR; omega) ?_
        refine r_iconst hC dX6_inSession_42 rfl ?_
        refine r_isubE hC (((((121 * l) + i) + w1) - 1)) dX6_inSession_43 (by omega) (by unfold inR; omega) ?_
        refine z_iald hM dX6_inSession_44 rfl (by omega) (by omega) (fun v6 h_v6 o_v6 t_v6 => ?_)
        have w_v6 := ((t_v6 (Or.inl trivial)).trans ((show σ 32 0 ((((121 * l) + i) + w1) - 1) = V 8 l ((i + w1) - 1) from by rw [show ((((121 * l) + i) + w1) - 1) = 121 * l + ((i + w1) - 1) from by omega]; exact hR.1.a8 (y := ((i + w1) - 1)) (by omega) (by omega) (by omega) (by omega)).trans (rfl))).symm
        subst w_v6
        refine r_isub hC dX6_inSession_45 ?_
        have f7 := inR_le (inR_wr ((V 8 l (i + w1)) - (V 8 l ((i + w1) - 1))))
        refine r_iload_n hC dX6_inSession_46 rfl ?_
        refine r_icmp_gt (tgt := 56) hC dX6_inSession_47 rfl (fun h8 => ?_) (fun h8 => ?_)
        · refine r_iload hC dX6_inSession_56 rfl ?_
          refine y_iret hK rfl dX6_inSession_58 ?_
          exact k _ ⟨by omega, i0_3, fun q => by omega⟩
        · refine r_iincE hC ((w1 + 1)) dX6_inSession_50 rfl rfl (by omega) (by unfold inR; omega) ?_
          refine r_goto (tgt := 3) hC dX6_inSession_53 rfl ?_
          exact ih3 ((w1 + 1))  (by omega) (by first | (intro j a b; omega) | (intro j a b; rcases (by omega : j < i + w1 ∨ j = i + w1) with z | z; exact i0_3 j a z; subst z; omega)) (by omega) (by omega)  
  exact L3 123 (1)  (by omega) (by first | (intro j a b; omega) | (intro j a b; rcases (by omega : j < i + w1 ∨ j = i + w1) with z | z; exact i0_3 j a z; subst z; omega)) (by omega) (by omega)  
theorem y_isWidth {e : Ev} {d : Nat} {P : Option Vl → Mm → Prop} {σ : Mm} {a : Int}   (k1 : (1 ≤ a ∧ a ≤ 100000) → P (some (vI 1)) σ) (k0 : ¬ (1 ≤ a ∧ a ≤ 100000) → P (some (vI 0)) σ) : WT e (d + 2) 243 [vR 30 0, vI a] σ P := by
  refine WT_in fun K hK => ?_
  have hK : StpY e cX6_isWidth RX6 (some .boolean) (WT e (d + 1)) P K := hK
  have hM := hK.1
  have hC := hK.1.1
  show K 0 [some (vR 30 0), some (vI a)] [] σ
  refine r_rngz hC (fun g0 => ?_)
  have r_a : -2147483648 ≤ a ∧ a ≤ 2147483647 := inR_le (g0 (vI a) (by simp))
  refine r_iload_n hC dX6_isWidth_0 rfl ?_
  refine r_iconst hC dX6_isWidth_1 rfl ?_
  refine r_ldc hC dX6_isWidth_2 co_RX6_239 rfl ?_
  refine z_ins3 hM dX6_isWidth_4 tl_RX6_76 rfl (Nat.le_of_ble_eq_true rfl) (Nat.le_of_ble_eq_true rfl) ?_
  refine m_isIn (fun h2 => ?_) (fun h2 => ?_)
  · refine y_zret hK rfl dX6_isWidth_7 (by omega) ?_
    exact k1 (by omega)
  · refine y_zret hK rfl dX6_isWidth_7 (by omega) ?_
    exact k0 (by omega)
theorem y_isGap {e : Ev} {d : Nat} {P : Option Vl → Mm → Prop} {σ : Mm} {a : Int}   (k1 : (0 ≤ a ∧ a ≤ 100000) → P (some (vI 1)) σ) (k0 : ¬ (0 ≤ a ∧ a ≤ 100000) → P (some (vI 0)) σ) : WT e (d + 2) 247 [vR 30 0, vI a] σ P := by
  refine WT_in fun K hK => ?_
  have hK : StpY e cX6_isGap RX6 (some .boolean) (WT e (d + 1)) P K := hK
  have hM := hK.1
  have hC := hK.1.1
  show K 0 [some (vR 30 0), some (vI a)] [] σ
  refine r_rngz hC (fun g0 => ?_)
  have r_a : -2147483648 ≤ a ∧ a ≤ 2147483647 := inR_le (g0 (vI a) (by simp))
  refine r_iload_n hC dX6_isGap_0 rfl ?_
  refine r_iconst hC dX6_isGap_1 rfl ?_
  refine r_ldc hC dX6_isGap_2 co_RX6_239 rfl ?_
  refine z_ins3 hM dX6_isGap_4 tl_RX6_76 rfl (Nat.le_of_ble_eq_true rfl) (Nat.le_of_ble_eq_true rfl) ?_
  refine m_isIn (fun h2 => ?_) (fun h2 => ?_)
  · refine y_zret hK rfl dX6_isGap_7 (by omega) ?_
    exact k1 (by omega)
  · refine y_zret hK rfl dX6_isGap_7 (by omega) ?_
    exact k0 (by omega)
theorem y_panes {eb : Bool} {t : Int} {V : Mm} {d : Nat} {P : Option Vl → Mm → Prop} {σ : Mm} {l x : Int}  {σ0 : Mm} (ht : 6 ≤ t ∧ t ≤ 7) (hR : RS t σ0 V σ) (hG : GI V)  (k : ∀ ρ : Mm, RS t σ0 V ρ → P (some (vI (pnR V l x))) ρ) : WT (true, eb, true) (d + 4) 245 [vR 30 0, vI l, vI x] σ P := by
  refine WT_in fun K hK => ?_
  have hK : StpY (true, eb, true) cX6_panes RX6 (some .int) (WT (true, eb, true) (d + 3)) P K := hK
  have hM := hK.1
  have hC := hK.1.1
  show K 0 [some (vR 30 0), some (vI l), some (vI x), none, none] [] σ
  refine r_rngz hC (fun g0 => ?_)
  have r_l : -2147483648 ≤ l ∧ l ≤ 2147483647 := inR_le (g0 (vI l) (by simp))
  have r_x : -2147483648 ≤ x ∧ x ≤ 2147483647 := inR_le (g0 (vI x) (by simp))
  have hrow := hG.2.1.2.2.1
  have h6b : 0 ≤ l → l ≤ 3 → 0 ≤ V 7 l 6 ∧ V 7 l 6 ≤ 120 := fun a b => hG.1.h7 (l := l) a (by omega)
  refine r_aload_n hC dX6_panes_0 rfl ?_
  refine r_iload_n hC dX6_panes_1 rfl ?_
  refine z_inv1 hM dX6_panes_2 vl_RX6_124 rfl rfl rfl (Nat.le_of_ble_eq_true rfl) (Nat.le_of_ble_eq_true rfl) ?_
  refine y_isLane (V := V) ht ⟨hR.1, hR.2.1, hR.2.2⟩ (fun h1 => ?_) (fun h1 => ?_)
  · unfold opV at h1
    have h6 := h6b (by omega) (by omega)
    refine r_if_eq (tgt := 16) hC dX6_panes_5 rfl (fun h2 => by omega) (fun h2 => ?_)
    refine r_aload_n hC dX6_panes_8 rfl ?_
    refine r_iload_n hC dX6_panes_9 rfl ?_
    refine z_inv1 hM dX6_panes_10 vl_RX6_295 rfl rfl rfl (Nat.le_of_ble_eq_true rfl) (Nat.le_of_ble_eq_true rfl) ?_
    refine y_isWidth (fun h4 => ?_) (fun h4 => ?_)
    · refine r_if_ne (tgt := 18) hC dX6_panes_13 rfl (fun h5 => ?_) (fun h5 => by omega)
      refine r_iconst hC dX6_panes_18 rfl ?_
      refine r_istore_n hC dX6_panes_19 rfl ?_
      refine r_iconst hC dX6_panes_20 rfl ?_
      refine r_istore hC dX6_panes_21 rfl ?_
      have L23 : ∀ (n23 : Nat) (w6 w7 : Int), 0 ≤ w6 ∧ w6 ≤ 120 → 0 ≤ w7 ∧ w7 ≤ 120 → ((w6) = pnN (V 8 l) x ((w7)).toNat) → ((w7) < V 7 l 6 → pnB (V 8 l) x (w7)) → ((w7) ≤ V 7 l 6) → ((w6) ≤ (w7)) → 120 - w7 < (n23 : Int) → K 23 [some (vR 30 0), some (vI l), some (vI x), some (vI w6), some (vI w7)] [] σ := by
        intro n23
        induction n23 with
        | zero => intro w6 w7  f_w6 f_w7 i0_23 i1_23 i2_23 i3_23 hm  ; omega
        | succ n23 ih23 =>
          intro w6 w7  f_w6 f_w7 i0_23 i1_23 i2_23 i3_23 hm23  
          refine r_iload hC dX6_panes_23 rfl ?_
          refine r_aload_n hC dX6_panes_25 rfl ?_
          refine r_iload_n hC dX6_panes_26 rfl ?_
          refine z_inv1 hM dX6_panes_27 vl_RX6_116 rfl rfl rfl (Nat.le_of_ble_eq_true rfl) (Nat.le_of_ble_eq_true rfl) ?_
          refine y_heldOf (by omega) (fun o8 => ?_)
          have e9 : σ 31 0 (22 * l + 5) = (V 7 l 6) := (hR.1.a7 (s := 6) (f := 5) (by omega) (by omega) (by omega)).trans (rfl)
          rw [e9] at o8 ⊢
          have qo8 : 0 ≤ (V 7 l 6) ∧ (V 7 l 6) ≤ 121 := o8.1 (by omega)
          refine r_icmp_ge (tgt := 52) hC dX6_panes_30 rfl (fun h10 => ?_) (fun h10 => ?_)
          · refine r_iload_n hC dX6_panes_52 rfl ?_
            refine y_iret hK rfl dX6_panes_53 ?_
            have hRr : pnR V l x = w6 := by
              unfold pnR
              rw [if_pos (by unfold pnC opV; omega), show (V 7 l 6).toNat = (w7).toNat from by omega]
              exact i0_23.symm
            rw [hRr] at k
            exact k _ ⟨hR.1, hR.2.1, hR.2.2⟩
          · refine r_iincE hC ((w6 + 1)) dX6_panes_33 rfl rfl (by omega) (by unfold inR; omega) ?_
            refine r_iload hC dX6_panes_36 rfl ?_
            refine r_aload_n hC dX6_panes_38 rfl ?_
            refine r_iload_n hC dX6_panes_39 rfl ?_
            refine r_iload hC dX6_panes_40 rfl ?_
            refine r_iload_n hC dX6_panes_42 rfl ?_
            refine z_inv3 hM dX6_panes_43 vl_RX6_298 rfl rfl rfl (Nat.le_of_ble_eq_true rfl) (Nat.le_of_ble_eq_true rfl) ?_
            refine y_inPane (V := V) (by omega) (by omega) (by omega) ht ⟨hR.1, hR.2.1, hR.2.2⟩ hG (by omega) (fun r11 hP_43 => ?_)
            have p1_43 := hP_43.1
            refine r_iaddE hC ((w7 + r11)) dX6_panes_46 (by omega) (by unfold inR; omega) ?_
            refine r_istore hC dX6_panes_47 rfl ?_
            refine r_goto (tgt := 23) hC dX6_panes_49 rfl ?_
            exact ih23 ((w6 + 1)) ((w7 + r11))  (by omega) (by omega) (by first | rfl | (rw [pn_run (by omega) (i1_23 (by omega)) hP_43]; omega)) (by first | (intro _; exact Or.inl rfl) | (intro q; exact hP_43.next (by omega))) (by omega) (by omega) (by omega)  
      exact L23 123 (0) (0)  (by omega) (by omega) (by first | rfl | (rw [pn_run (by omega) (i1_23 (by omega)) hP_43]; omega)) (by first | (intro _; exact Or.inl rfl) | (intro q; exact hP_43.next (by omega))) (by omega) (by omega) (by omega)  
    · refine r_if_ne (tgt := 18) hC dX6_panes_13 rfl (fun h12 => by omega) (fun h12 => ?_)
      refine r_iconst hC dX6_panes_16 rfl ?_
      refine y_iret hK rfl dX6_panes_17 ?_
      have hRr : pnR V l x = (-1) := by
        exact if_neg (by unfold pnC opV; omega)
      rw [hRr] at k
      exact k _ ⟨hR.1, hR.2.1, hR.2.2⟩
  · unfold opV at h1
    refine r_if_eq (tgt := 16) hC dX6_panes_5 rfl (fun h13 => ?_) (fun h13 => by omega)
    refine r_iconst hC dX6_panes_16 rfl ?_
    refine y_iret hK rfl dX6_panes_17 ?_
    have hRr : pnR V l x = (-1) := by
      exact if_neg (by unfold pnC opV; omega)
    rw [hRr] at k
    exact k _ ⟨hR.1, hR.2.1, hR.2.2⟩
theorem y_fullest {eb : Bool} {t : Int} {V : Mm} {d : Nat} {P : Option Vl → Mm → Prop} {σ : Mm} {l x : Int}  {σ0 : Mm} (ht : 6 ≤ t ∧ t ≤ 7) (hR : RS t σ0 V σ) (hG : GI V)  (k : ∀ ρ : Mm, RS t σ0 V ρ → P (some (vI (flR V l x))) ρ) : WT (true, eb, true) (d + 4) 246 [vR 30 0, vI l, vI x] σ P := by
  refine WT_in fun K hK => ?_
  have hK : StpY (true, eb, true) cX6_fullest RX6 (some .int) (WT (true, eb, true) (d + 3)) P K := hK
  have hM := hK.1
  have hC := hK.1.1
  show K 0 [some (vR 30 0), some (vI l), some (vI x), none, none, none] [] σ
  refine r_rngz hC (fun g0 => ?_)
  have r_l : -2147483648 ≤ l ∧ l ≤ 2147483647 := inR_le (g0 (vI l) (by simp))
  have r_x : -2147483648 ≤ x ∧ x ≤ 2147483647 := inR_le (g0 (vI x) (by simp))
  have hrow := hG.2.1.2.2.1
  have h6b : 0 ≤ l → l ≤ 3 → 0 ≤ V 7 l 6 ∧ V 7 l 6 ≤ 120 := fun a b => hG.1.h7 (l := l) a (by omega)
  refine r_aload_n hC dX6_fullest_0 rfl ?_
  refine r_iload_n hC dX6_fullest_1 rfl ?_
  refine z_inv1 hM dX6_fullest_2 vl_RX6_124 rfl rfl rfl (Nat.le_of_ble_eq_true rfl) (Nat.le_of_ble_eq_true rfl) ?_
  refine y_isLane (V := V) ht ⟨hR.1, hR.2.1, hR.2.2⟩ (fun h1 => ?_) (fun h1 => ?_)
  · unfold opV at h1
    have h6 := h6b (by omega) (by omega)
    refine r_if_eq (tgt := 16) hC dX6_fullest_5 rfl (fun h2 => by omega) (fun h2 => ?_)
    refine r_aload_n hC dX6_fullest_8 rfl ?_
    refine r_iload_n hC dX6_fullest_9 rfl ?_
    refine z_inv1 hM dX6_fullest_10 vl_RX6_295 rfl rfl rfl (Nat.le_of_ble_eq_true rfl) (Nat.le_of_ble_eq_true rfl) ?_
    refine y_isWidth (fun h4 => ?_) (fun h4 => ?_)
    · refine r_if_ne (tgt := 18) hC dX6_fullest_13 rfl (fun h5 => ?_) (fun h5 => by omega)
      refine r_iconst hC dX6_fullest_18 rfl ?_
      refine r_istore_n hC dX6_fullest_19 rfl ?_
      refine r_iconst hC dX6_fullest_20 rfl ?_
      refine r_istore hC dX6_fullest_21 rfl ?_
      refine r_iconst hC dX6_fullest_23 rfl ?_
      refine r_istore hC dX6_fullest_24 rfl ?_
      have L26 : ∀ (n26 : Nat) (w6 w7 w8 : Int), -1 ≤ w6 ∧ w6 ≤ 100000 → 0 ≤ w7 ∧ w7 ≤ 120 → 0 ≤ w8 ∧ w8 ≤ 120 → ((w7) = (flN (V 8 l) x ((w8)).toNat).2.1) → ((w6) = (flN (V 8 l) x ((w8)).toNat).2.2) → ((w8) < V 7 l 6 → pnB (V 8 l) x (w8)) → ((w8) ≤ V 7 l 6) → 120 - w8 < (n26 : Int) → K 26 [some (vR 30 0), some (vI l), some (vI x), some (vI w6), some (vI w7), some (vI w8)] [] σ := by
        intro n26
        induction n26 with
        | zero => intro w6 w7 w8  f_w6 f_w7 f_w8 i0_26 i1_26 i2_26 i3_26 hm  ; omega
        | succ n26 ih26 =>
          intro w6 w7 w8  f_w6 f_w7 f_w8 i0_26 i1_26 i2_26 i3_26 hm26  
          refine r_iload hC dX6_fullest_26 rfl ?_
          refine r_aload_n hC dX6_fullest_28 rfl ?_
          refine r_iload_n hC dX6_fullest_29 rfl ?_
          refine z_inv1 hM dX6_fullest_30 vl_RX6_116 rfl rfl rfl (Nat.le_of_ble_eq_true rfl) (Nat.le_of_ble_eq_true rfl) ?_
          refine y_heldOf (by omega) (fun o9 => ?_)
          have e10 : σ 31 0 (22 * l + 5) = (V 7 l 6) := (hR.1.a7 (s := 6) (f := 5) (by omega) (by omega) (by omega)).trans (rfl)
          rw [e10] at o9 ⊢
          have qo9 : 0 ≤ (V 7 l 6) ∧ (V 7 l 6) ≤ 121 := o9.1 (by omega)
          refine r_icmp_ge (tgt := 93) hC dX6_fullest_33 rfl (fun h11 => ?_) (fun h11 => ?_)
          · refine r_iload_n hC dX6_fullest_93 rfl ?_
            refine y_iret hK rfl dX6_fullest_94 ?_
            have hRr : flR V l x = w6 := by
              unfold flR
              rw [if_pos (by unfold pnC opV; omega), show (V 7 l 6).toNat = (w8).toNat from by omega]
              exact i1_26.symm
            rw [hRr] at k
            exact k _ ⟨hR.1, hR.2.1, hR.2.2⟩
          · refine r_aload_n hC dX6_fullest_36 rfl ?_
            refine r_iload_n hC dX6_fullest_37 rfl ?_
            refine r_iload hC dX6_fullest_38 rfl ?_
            refine r_iload_n hC dX6_fullest_40 rfl ?_
            refine z_inv3 hM dX6_fullest_41 vl_RX6_298 rfl rfl rfl (Nat.le_of_ble_eq_true rfl) (Nat.le_of_ble_eq_true rfl) ?_
            refine y_inPane (V := V) (by omega) (by omega) (by omega) ht ⟨hR.1, hR.2.1, hR.2.2⟩ hG (by omega) (fun r12 hP_41 => ?_)
            have p1_41 := hP_41.1
            refine r_iload hC dX6_fullest_44 rfl ?_
            refine r_icmp_gt (tgt := 52) hC dX6_fullest_46 rfl (fun h13 => ?_) (fun h13 => ?_)
            · refine r_aload_n hC dX6_fullest_52 rfl ?_
              refine r_iload_n hC dX6_fullest_53 rfl ?_
              refine r_iload hC dX6_fullest_54 rfl ?_
              refine r_iload_n hC dX6_fullest_56 rfl ?_
              refine z_inv3 hM dX6_fullest_57 vl_RX6_298 rfl rfl rfl (Nat.le_of_ble_eq_true rfl) (Nat.le_of_ble_eq_true rfl) ?_
              refine y_inPane (V := V) (by omega) (by omega) (by omega) ht ⟨hR.1, hR.2.1, hR.2.2⟩ hG (by omega) (fun r14 hP_57 => ?_)
              have p1_57 := hP_57.1
              refine r_istore hC dX6_fullest_60 rfl ?_
              refine r_aload_n hC dX6_fullest_62 rfl ?_
              refine z_getR hM dX6_fullest_63 fl_RX6_13 rfl rfl (vld_of (n := 1) rfl (by omega) (by omega)) ?_
              refine r_bipush hC dX6_fullest_66 rfl ?_
              refine r_iload_n hC dX6_fullest_68 rfl ?_
              refine r_imulE hC ((121 * l)) dX6_fullest_69 (by omega) (by unfold inR; omega) ?_
              refine r_iload hC dX6_fullest_70 rfl ?_
              refine r_iaddE hC (((121 * l) + w8)) dX6_fullest_72 (by omega) (by unfold inR; omega) ?_
              refine z_iald hM dX6_fullest_73 rfl (by omega) (by omega) (fun v15 h_v15 o_v15 t_v15 => ?_)
              have w_v15 := ((t_v15 (Or.inl trivial)).trans ((show σ 32 0 ((121 * l) + w8) = V 8 l w8 from by rw [show ((121 * l) + w8) = 121 * l + w8 from by omega]; exact hR.1.a8 (y := w8) (by omega) (by omega) (by omega) (by omega)).trans (rfl))).symm
              subst w_v15
              have ht_74 := (hrow l w8 (by omega) (by omega) (by omega) (by omega)).1
              refine r_iload_n hC dX6_fullest_74 rfl ?_
              refine r_idivN hC dX6_fullest_75 (by omega) (by omega) ?_
              have f_v16 := idiv_fr (a := (V 8 l w8)) (b := x) (by omega) (by omega)
              refine r_istore_n hC dX6_fullest_76 rfl ?_
              refine r_iload hC dX6_fullest_77 rfl ?_
              refine r_aload_n hC dX6_fullest_79 rfl ?_
              refine r_iload_n hC dX6_fullest_80 rfl ?_
              refine r_iload hC dX6_fullest_81 rfl ?_
              refine r_iload_n hC dX6_fullest_83 rfl ?_
              refine z_inv3 hM dX6_fullest_84 vl_RX6_298 rfl rfl rfl (Nat.le_of_ble_eq_true rfl) (Nat.le_of_ble_eq_true rfl) ?_
              refine y_inPane (V := V) (by omega) (by omega) (by omega) ht ⟨hR.1, hR.2.1, hR.2.2⟩ hG (by omega) (fun r17 hP_84 => ?_)
              have p1_84 := hP_84.1
              refine r_iaddE hC ((w8 + r17)) dX6_fullest_87 (by omega) (by unfold inR; omega) ?_
              refine r_istore hC dX6_fullest_88 rfl ?_
              show K _ [_, _, _, _, _, _] _ _
              refine r_goto (tgt := 26) hC dX6_fullest_90 rfl ?_
              exact ih26 (((V 8 l w8) / x)) (r14) ((w8 + r17))  (by omega) (by omega) (by omega) (by first | rfl | (rw [fl_run (by omega) (i2_26 (by omega)) hP_84 (flN_b (T := V 8 l) (w := x) (w8).toNat).2.1]; dsimp only; simp only [← i0_26, ← i1_26]; have u1 := hP_84.u hP_41; first | ((repeat' split) <;> omega) | (have u2 := hP_57.u hP_41; (repeat' split) <;> omega))) (by first | rfl | (rw [fl_run (by omega) (i2_26 (by omega)) hP_84 (flN_b (T := V 8 l) (w := x) (w8).toNat).2.1]; dsimp only; simp only [← i0_26, ← i1_26]; have u1 := hP_84.u hP_41; first | ((repeat' split) <;> omega) | (have u2 := hP_57.u hP_41; (repeat' split) <;> omega))) (by first | (intro _; exact Or.inl rfl) | (intro q; exact hP_84.next (by omega))) (by omega) (by omega)  
            · refine r_goto (tgt := 77) hC dX6_fullest_49 rfl ?_
              refine r_iload hC dX6_fullest_77 rfl ?_
              refine r_aload_n hC dX6_fullest_79 rfl ?_
              refine r_iload_n hC dX6_fullest_80 rfl ?_
              refine r_iload hC dX6_fullest_81 rfl ?_
              refine r_iload_n hC dX6_fullest_83 rfl ?_
              refine z_inv3 hM dX6_fullest_84 vl_RX6_298 rfl rfl rfl (Nat.le_of_ble_eq_true rfl) (Nat.le_of_ble_eq_true rfl) ?_
              refine y_inPane (V := V) (by omega) (by omega) (by omega) ht ⟨hR.1, hR.2.1, hR.2.2⟩ hG (by omega) (fun r18 hP_84 => ?_)
              have p1_84 := hP_84.1
              refine r_iaddE hC ((w8 + r18)) dX6_fullest_87 (by omega) (by unfold inR; omega) ?_
              refine r_istore hC dX6_fullest_88 rfl ?_
              refine r_goto (tgt := 26) hC dX6_fullest_90 rfl ?_
              exact ih26 (w6) (w7) ((w8 + r18))  (by omega) (by omega) (by omega) (by first | rfl | (rw [fl_run (by omega) (i2_26 (by omega)) hP_84 (flN_b (T := V 8 l) (w := x) (w8).toNat).2.1]; dsimp only; simp only [← i0_26, ← i1_26]; have u1 := hP_84.u hP_41; first | ((repeat' split) <;> omega) | (have u2 := hP_57.u hP_41; (repeat' split) <;> omega))) (by first | rfl | (rw [fl_run (by omega) (i2_26 (by omega)) hP_84 (flN_b (T := V 8 l) (w := x) (w8).toNat).2.1]; dsimp only; simp only [← i0_26, ← i1_26]; have u1 := hP_84.u hP_41; first | ((repeat' split) <;> omega) | (have u2 := hP_57.u hP_41; (repeat' split) <;> omega))) (by first | (intro _; exact Or.inl rfl) | (intro q; exact hP_84.next (by omega))) (by omega) (by omega)  
      exact L26 123 ((-1)) (0) (0)  (by omega) (by omega) (by omega) (by first | rfl | (rw [fl_run (by omega) (i2_26 (by omega)) hP_84 (flN_b (T := V 8 l) (w := x) (w8).toNat).2.1]; dsimp only; simp only [← i0_26, ← i1_26]; have u1 := hP_84.u hP_41; first | ((repeat' split) <;> omega) | (have u2 := hP_57.u hP_41; (repeat' split) <;> omega))) (by first | rfl | (rw [fl_run (by omega) (i2_26 (by omega)) hP_84 (flN_b (T := V 8 l) (w := x) (w8).toNat).2.1]; dsimp only; simp only [← i0_26, ← i1_26]; have u1 := hP_84.u hP_41; first | ((repeat' split) <;> omega) | (have u2 := hP_57.u hP_41; (repeat' split) <;> omega))) (by first | (intro _; exact Or.inl rfl) | (intro q; exact hP_84.next (by omega))) (by omega) (by omega)  
    · refine r_if_ne (tgt := 18) hC dX6_fullest_13 rfl (fun h19 => by omega) (fun h19 => ?_)
      refine r_iconst hC dX6_fullest_16 rfl ?_
      refine y_iret hK rfl dX6_fullest_17 ?_
      have hRr : flR V l x = (-1) := by
        exact if_neg (by unfold pnC opV; omega)
      rw [hRr] at k
      exact k _ ⟨hR.1, hR.2.1, hR.2.2⟩
  · unfold opV at h1
    refine r_if_eq (tgt := 16) hC dX6_fullest_5 rfl (fun h20 => ?_) (fun h20 => by omega)
    refine r_iconst hC dX6_fullest_16 rfl ?_
    refine y_iret hK rfl dX6_fullest_17 ?_
    have hRr : flR V l x = (-1) := by
      exact if_neg (by unfold pnC opV; omega)
    rw [hRr] at k
    exact k _ ⟨hR.1, hR.2.1, hR.2.2⟩
theorem y_sessions {eb : Bool} {t : Int} {V : Mm} {d : Nat} {P : Option Vl → Mm → Prop} {σ : Mm} {l x : Int}  {σ0 : Mm} (ht : 6 ≤ t ∧ t ≤ 7) (hR : RS t σ0 V σ) (hG : GI V)  (k : ∀ ρ : Mm, RS t σ0 V ρ → P (some (vI (ssR V l x))) ρ) : WT (true, eb, true) (d + 4) 249 [vR 30 0, vI l, vI x] σ P := by
  refine WT_in fun K hK => ?_
  have hK : StpY (true, eb, true) cX6_sessions RX6 (some .int) (WT (true, eb, true) (d + 3)) P K := hK
  have hM := hK.1
  have hC := hK.1.1
  show K 0 [some (vR 30 0), some (vI l), some (vI x), none, none] [] σ
  refine r_rngz hC (fun g0 => ?_)
  have r_l : -2147483648 ≤ l ∧ l ≤ 2147483647 := inR_le (g0 (vI l) (by simp))
  have r_x : -2147483648 ≤ x ∧ x ≤ 2147483647 := inR_le (g0 (vI x) (by simp))
  have hrow := hG.2.1.2.2.1
  have h6b : 0 ≤ l → l ≤ 3 → 0 ≤ V 7 l 6 ∧ V 7 l 6 ≤ 120 := fun a b => hG.1.h7 (l := l) a (by omega)
  refine r_aload_n hC dX6_sessions_0 rfl ?_
  refine r_iload_n hC dX6_sessions_1 rfl ?_
  refine z_inv1 hM dX6_sessions_2 vl_RX6_124 rfl rfl rfl (Nat.le_of_ble_eq_true rfl) (Nat.le_of_ble_eq_true rfl) ?_
  refine y_isLane (V := V) ht ⟨hR.1, hR.2.1, hR.2.2⟩ (fun h1 => ?_) (fun h1 => ?_)
  · unfold opV at h1
    have h6 := h6b (by omega) (by omega)
    refine r_if_eq (tgt := 16) hC dX6_sessions_5 rfl (fun h2 => by omega) (fun h2 => ?_)
    refine r_aload_n hC dX6_sessions_8 rfl ?_
    refine r_iload_n hC dX6_sessions_9 rfl ?_
    refine z_inv1 hM dX6_sessions_10 vl_RX6_301 rfl rfl rfl (Nat.le_of_ble_eq_true rfl) (Nat.le_of_ble_eq_true rfl) ?_
    refine y_isGap (fun h4 => ?_) (fun h4 => ?_)
    · refine r_if_ne (tgt := 18) hC dX6_sessions_13 rfl (fun h5 => ?_) (fun h5 => by omega)
      refine r_iconst hC dX6_sessions_18 rfl ?_
      refine r_istore_n hC dX6_sessions_19 rfl ?_
      refine r_iconst hC dX6_sessions_20 rfl ?_
      refine r_istore hC dX6_sessions_21 rfl ?_
      have L23 : ∀ (n23 : Nat) (w6 w7 : Int), 0 ≤ w6 ∧ w6 ≤ 120 → 0 ≤ w7 ∧ w7 ≤ 120 → ((w6) = ssN (V 8 l) x ((w7)).toNat) → ((w7) < V 7 l 6 → ssB (V 8 l) x (w7)) → ((w7) ≤ V 7 l 6) → ((w6) ≤ (w7)) → 120 - w7 < (n23 : Int) → K 23 [some (vR 30 0), some (vI l), some (vI x), some (vI w6), some (vI w7)] [] σ := by
        intro n23
        induction n23 with
        | zero => intro w6 w7  f_w6 f_w7 i0_23 i1_23 i2_23 i3_23 hm  ; omega
        | succ n23 ih23 =>
          intro w6 w7  f_w6 f_w7 i0_23 i1_23 i2_23 i3_23 hm23  
          refine r_iload hC dX6_sessions_23 rfl ?_
          refine r_aload_n hC dX6_sessions_25 rfl ?_
          refine r_iload_n hC dX6_sessions_26 rfl ?_
          refine z_inv1 hM dX6_sessions_27 vl_RX6_116 rfl rfl rfl (Nat.le_of_ble_eq_true rfl) (Nat.le_of_ble_eq_true rfl) ?_
          refine y_heldOf (by omega) (fun o8 => ?_)
          have e9 : σ 31 0 (22 * l + 5) = (V 7 l 6) := (hR.1.a7 (s := 6) (f := 5) (by omega) (by omega) (by omega)).trans (rfl)
          rw [e9] at o8 ⊢
          have qo8 : 0 ≤ (V 7 l 6) ∧ (V 7 l 6) ≤ 121 := o8.1 (by omega)
          refine r_icmp_ge (tgt := 52) hC dX6_sessions_30 rfl (fun h10 => ?_) (fun h10 => ?_)
          · refine r_iload_n hC dX6_sessions_52 rfl ?_
            refine y_iret hK rfl dX6_sessions_53 ?_
            have hRr : ssR V l x = w6 := by
              unfold ssR
              rw [if_pos (by unfold gaC opV; omega), show (V 7 l 6).toNat = (w7).toNat from by omega]
              exact i0_23.symm
            rw [hRr] at k
            exact k _ ⟨hR.1, hR.2.1, hR.2.2⟩
          · refine r_iincE hC ((w6 + 1)) dX6_sessions_33 rfl rfl (by omega) (by unfold inR; omega) ?_
            refine r_iload hC dX6_sessions_36 rfl ?_
            refine r_aload_n hC dX6_sessions_38 rfl ?_
            refine r_iload_n hC dX6_sessions_39 rfl ?_
            refine r_iload hC dX6_sessions_40 rfl ?_
            refine r_iload_n hC dX6_sessions_42 rfl ?_
            refine z_inv3 hM dX6_sessions_43 vl_RX6_304 rfl rfl rfl (Nat.le_of_ble_eq_true rfl) (Nat.le_of_ble_eq_true rfl) ?_
            refine y_inSession (V := V) (by omega) (by omega) (by omega) ht ⟨hR.1, hR.2.1, hR.2.2⟩ hG (by omega) (fun r11 hP_43 => ?_)
            have p1_43 := hP_43.1
            refine r_iaddE hC ((w7 + r11)) dX6_sessions_46 (by omega) (by unfold inR; omega) ?_
            refine r_istore hC dX6_sessions_47 rfl ?_
            refine r_goto (tgt := 23) hC dX6_sessions_49 rfl ?_
            exact ih23 ((w6 + 1)) ((w7 + r11))  (by omega) (by omega) (by first | rfl | (rw [ss_run (by omega) (i1_23 (by omega)) hP_43]; omega)) (by first | (intro _; exact Or.inl rfl) | (intro q; exact hP_43.next (by omega))) (by omega) (by omega) (by omega)  
      exact L23 123 (0) (0)  (by omega) (by omega) (by first | rfl | (rw [ss_run (by omega) (i1_23 (by omega)) hP_43]; omega)) (by first | (intro _; exact Or.inl rfl) | (intro q; exact hP_43.next (by omega))) (by omega) (by omega) (by omega)  
    · refine r_if_ne (tgt := 18) hC dX6_sessions_13 rfl (fun h12 => by omega) (fun h12 => ?_)
      refine r_iconst hC dX6_sessions_16 rfl ?_
      refine y_iret hK rfl dX6_sessions_17 ?_
      have hRr : ssR V l x = (-1) := by
        exact if_neg (by unfold gaC opV; omega)
      rw [hRr] at k
      exact k _ ⟨hR.1, hR.2.1, hR.2.2⟩
  · unfold opV at h1
    refine r_if_eq (tgt := 16) hC dX6_sessions_5 rfl (fun h13 => ?_) (fun h13 => by omega)
    refine r_iconst hC dX6_sessions_16 rfl ?_
    refine y_iret hK rfl dX6_sessions_17 ?_
    have hRr : ssR V l x = (-1) := by
      exact if_neg (by unfold gaC opV; omega)
    rw [hRr] at k
    exact k _ ⟨hR.1, hR.2.1, hR.2.2⟩
theorem y_longest {eb : Bool} {t : Int} {V : Mm} {d : Nat} {P : Option Vl → Mm → Prop} {σ : Mm} {l x : Int}  {σ0 : Mm} (ht : 6 ≤ t ∧ t ≤ 7) (hR : RS t σ0 V σ) (hG : GI V)  (k : ∀ ρ : Mm, RS t σ0 V ρ → P (some (vI (loR V l x))) ρ) : WT (true, eb, true) (d + 4) 251 [vR 30 0, vI l, vI x] σ P := by
  refine WT_in fun K hK => ?_
  have hK : StpY (true, eb, true) cX6_longest RX6 (some .int) (WT (true, eb, true) (d + 3)) P K := hK
  have hM := hK.1
  have hC := hK.1.1
  show K 0 [some (vR 30 0), some (vI l), some (vI x), none, none, none, none] [] σ
  refine r_rngz hC (fun g0 => ?_)
  have r_l : -2147483648 ≤ l ∧ l ≤ 2147483647 := inR_le (g0 (vI l) (by simp))
  have r_x : -2147483648 ≤ x ∧ x ≤ 2147483647 := inR_le (g0 (vI x) (by simp))
  have hrow := hG.2.1.2.2.1
  have h6b : 0 ≤ l → l ≤ 3 → 0 ≤ V 7 l 6 ∧ V 7 l 6 ≤ 120 := fun a b => hG.1.h7 (l := l) a (by omega)
  refine r_aload_n hC dX6_longest_0 rfl ?_
  refine r_iload_n hC dX6_longest_1 rfl ?_
  refine z_inv1 hM dX6_longest_2 vl_RX6_124 rfl rfl rfl (Nat.le_of_ble_eq_true rfl) (Nat.le_of_ble_eq_true rfl) ?_
  refine y_isLane (V := V) ht ⟨hR.1, hR.2.1, hR.2.2⟩ (fun h1 => ?_) (fun h1 => ?_)
  · unfold opV at h1
    have h6 := h6b (by omega) (by omega)
    refine r_if_eq (tgt := 16) hC dX6_longest_5 rfl (fun h2 => by omega) (fun h2 => ?_)
    refine r_aload_n hC dX6_longest_8 rfl ?_
    refine r_iload_n hC dX6_longest_9 rfl ?_
    refine z_inv1 hM dX6_longest_10 vl_RX6_301 rfl rfl rfl (Nat.le_of_ble_eq_true rfl) (Nat.le_of_ble_eq_true rfl) ?_
    refine y_isGap (fun h4 => ?_) (fun h4 => ?_)
    · refine r_if_ne (tgt := 18) hC dX6_longest_13 rfl (fun h5 => ?_) (fun h5 => by omega)
      refine r_iconst hC dX6_longest_18 rfl ?_
      refine r_istore_n hC dX6_longest_19 rfl ?_
      refine r_iconst hC dX6_longest_20 rfl ?_
      refine r_istore hC dX6_longest_21 rfl ?_
      refine r_iconst hC dX6_longest_23 rfl ?_
      refine r_istore hC dX6_longest_24 rfl ?_
      show K _ [_, _, _, _, _, _, _] _ _
      refine r_iconst hC dX6_longest_26 rfl ?_
      refine r_istore hC dX6_longest_27 rfl ?_
      have L29 : ∀ (n29 : Nat) (w6 w7 w8 w9 : Int), -1 ≤ w6 ∧ w6 ≤ 120 → 0 ≤ w7 ∧ w7 ≤ 120 → 0 ≤ w8 ∧ w8 ≤ 120 → 0 ≤ w9 ∧ w9 ≤ 120 → ((w8) = (loN (V 8 l) x ((w9)).toNat).1) → ((w7) = (loN (V 8 l) x ((w9)).toNat).2.2.1) → ((w6) = (loN (V 8 l) x ((w9)).toNat).2.2.2) → ((w9) < V 7 l 6 → ssB (V 8 l) x (w9)) → ((w9) ≤ V 7 l 6) → ((w8) ≤ (w9)) → ((w6) ≤ (w8)) → 120 - w9 < (n29 : Int) → K 29 [some (vR 30 0), some (vI l), some (vI x), some (vI w6), some (vI w7), some (vI w8), some (vI w9)] [] σ := by
        intro n29
        induction n29 with
        | zero => intro w6 w7 w8 w9  f_w6 f_w7 f_w8 f_w9 i0_29 i1_29 i2_29 i3_29 i4_29 i5_29 i6_29 hm  ; omega
        | succ n29 ih29 =>
          intro w6 w7 w8 w9  f_w6 f_w7 f_w8 f_w9 i0_29 i1_29 i2_29 i3_29 i4_29 i5_29 i6_29 hm29  
          refine r_iload hC dX6_longest_29 rfl ?_
          refine r_aload_n hC dX6_longest_31 rfl ?_
          refine r_iload_n hC dX6_longest_32 rfl ?_
          refine z_inv1 hM dX6_longest_33 vl_RX6_116 rfl rfl rfl (Nat.le_of_ble_eq_true rfl) (Nat.le_of_ble_eq_true rfl) ?_
          refine y_heldOf (by omega) (fun o10 => ?_)
          have e11 : σ 31 0 (22 * l + 5) = (V 7 l 6) := (hR.1.a7 (s := 6) (f := 5) (by omega) (by omega) (by omega)).trans (rfl)
          rw [e11] at o10 ⊢
          have qo10 : 0 ≤ (V 7 l 6) ∧ (V 7 l 6) ≤ 121 := o10.1 (by omega)
          refine r_icmp_ge (tgt := 84) hC dX6_longest_36 rfl (fun h12 => ?_) (fun h12 => ?_)
          · refine r_iload_n hC dX6_longest_84 rfl ?_
            refine y_iret hK rfl dX6_longest_85 ?_
            have hRr : loR V l x = w6 := by
              unfold loR
              rw [if_pos (by unfold gaC opV; omega), show (V 7 l 6).toNat = (w9).toNat from by omega]
              exact i2_29.symm
            rw [hRr] at k
            exact k _ ⟨hR.1, hR.2.1, hR.2.2⟩
          · refine r_aload_n hC dX6_longest_39 rfl ?_
            refine r_iload_n hC dX6_longest_40 rfl ?_
            refine r_iload hC dX6_longest_41 rfl ?_
            refine r_iload_n hC dX6_longest_43 rfl ?_
            refine z_inv3 hM dX6_longest_44 vl_RX6_304 rfl rfl rfl (Nat.le_of_ble_eq_true rfl) (Nat.le_of_ble_eq_true rfl) ?_
            refine y_inSession (V := V) (by omega) (by omega) (by omega) ht ⟨hR.1, hR.2.1, hR.2.2⟩ hG (by omega) (fun r13 hP_44 => ?_)
            have p1_44 := hP_44.1
            refine r_iload hC dX6_longest_47 rfl ?_
            refine r_icmp_le (tgt := 65) hC dX6_longest_49 rfl (fun h14 => ?_) (fun h14 => ?_)
            · refine r_iincE hC ((w8 + 1)) dX6_longest_65 rfl rfl (by omega) (by unfold inR; omega) ?_
              refine r_iload hC dX6_longest_68 rfl ?_
              refine r_aload_n hC dX6_longest_70 rfl ?_
              refine r_iload_n hC dX6_longest_71 rfl ?_
              refine r_iload hC dX6_longest_72 rfl ?_
              refine r_iload_n hC dX6_longest_74 rfl ?_
              refine z_inv3 hM dX6_longest_75 vl_RX6_304 rfl rfl rfl (Nat.le_of_ble_eq_true rfl) (Nat.le_of_ble_eq_true rfl) ?_
              refine y_inSession (V := V) (by omega) (by omega) (by omega) ht ⟨hR.1, hR.2.1, hR.2.2⟩ hG (by omega) (fun r15 hP_75 => ?_)
              have p1_75 := hP_75.1
              refine r_iaddE hC ((w9 + r15)) dX6_longest_78 (by omega) (by unfold inR; omega) ?_
              refine r_istore hC dX6_longest_79 rfl ?_
              refine r_goto (tgt := 29) hC dX6_longest_81 rfl ?_
              exact ih29 (w6) (w7) ((w8 + 1)) ((w9 + r15))  (by omega) (by omega) (by omega) (by omega) (by first | rfl | (rw [lo_run (by omega) (i3_29 (by omega)) hP_75 (loN_b (T := V 8 l) (g := x) (w9).toNat).2.2.1]; dsimp only; simp only [← i0_29, ← i1_29, ← i2_29]; done) | (rw [lo_run (by omega) (i3_29 (by omega)) hP_75 (loN_b (T := V 8 l) (g := x) (w9).toNat).2.2.1]; dsimp only; simp only [← i0_29, ← i1_29, ← i2_29]; have u1 := hP_75.u hP_44; first | ((repeat' split) <;> omega) | (have u2 := hP_57.u hP_44; (repeat' split) <;> omega))) (by first | rfl | (rw [lo_run (by omega) (i3_29 (by omega)) hP_75 (loN_b (T := V 8 l) (g := x) (w9).toNat).2.2.1]; dsimp only; simp only [← i0_29, ← i1_29, ← i2_29]; done) | (rw [lo_run (by omega) (i3_29 (by omega)) hP_75 (loN_b (T := V 8 l) (g := x) (w9).toNat).2.2.1]; dsimp only; simp only [← i0_29, ← i1_29, ← i2_29]; have u1 := hP_75.u hP_44; first | ((repeat' split) <;> omega) | (have u2 := hP_57.u hP_44; (repeat' split) <;> omega))) (by first | rfl | (rw [lo_run (by omega) (i3_29 (by omega)) hP_75 (loN_b (T := V 8 l) (g := x) (w9).toNat).2.2.1]; dsimp only; simp only [← i0_29, ← i1_29, ← i2_29]; done) | (rw [lo_run (by omega) (i3_29 (by omega)) hP_75 (loN_b (T := V 8 l) (g := x) (w9).toNat).2.2.1]; dsimp only; simp only [← i0_29, ← i1_29, ← i2_29]; have u1 := hP_75.u hP_44; first | ((repeat' split) <;> omega) | (have u2 := hP_57.u hP_44; (repeat' split) <;> omega))) (by first | (intro _; exact Or.inl rfl) | (intro q; exact hP_75.next (by omega))) (by omega) (by omega) (by omega) (by omega)  
            · refine r_aload_n hC dX6_longest_52 rfl ?_
              refine r_iload_n hC dX6_longest_53 rfl ?_
              refine r_iload hC dX6_longest_54 rfl ?_
              refine r_iload_n hC dX6_longest_56 rfl ?_
              refine z_inv3 hM dX6_longest_57 vl_RX6_304 rfl rfl rfl (Nat.le_of_ble_eq_true rfl) (Nat.le_of_ble_eq_true rfl) ?_
              refine y_inSession (V := V) (by omega) (by omega) (by omega) ht ⟨hR.1, hR.2.1, hR.2.2⟩ hG (by omega) (fun r16 hP_57 => ?_)
              have p1_57 := hP_57.1
              refine r_istore hC dX6_longest_60 rfl ?_
              refine r_iload hC dX6_longest_62 rfl ?_
              refine r_istore_n hC dX6_longest_64 rfl ?_
              refine r_iincE hC ((w8 + 1)) dX6_longest_65 rfl rfl (by omega) (by unfold inR; omega) ?_
              show K _ [_, _, _, _, _, _, _] _ _
              refine r_iload hC dX6_longest_68 rfl ?_
              refine r_aload_n hC dX6_longest_70 rfl ?_
              refine r_iload_n hC dX6_longest_71 rfl ?_
              refine r_iload hC dX6_longest_72 rfl ?_
              refine r_iload_n hC dX6_longest_74 rfl ?_
              refine z_inv3 hM dX6_longest_75 vl_RX6_304 rfl rfl rfl (Nat.le_of_ble_eq_true rfl) (Nat.le_of_ble_eq_true rfl) ?_
              refine y_inSession (V := V) (by omega) (by omega) (by omega) ht ⟨hR.1, hR.2.1, hR.2.2⟩ hG (by omega) (fun r17 hP_75 => ?_)
              have p1_75 := hP_75.1
              refine r_iaddE hC ((w9 + r17)) dX6_longest_78 (by omega) (by unfold inR; omega) ?_
              refine r_istore hC dX6_longest_79 rfl ?_
              refine r_goto (tgt := 29) hC dX6_longest_81 rfl ?_
              exact ih29 (w8) (r16) ((w8 + 1)) ((w9 + r17))  (by omega) (by omega) (by omega) (by omega) (by first | rfl | (rw [lo_run (by omega) (i3_29 (by omega)) hP_75 (loN_b (T := V 8 l) (g := x) (w9).toNat).2.2.1]; dsimp only; simp only [← i0_29, ← i1_29, ← i2_29]; done) | (rw [lo_run (by omega) (i3_29 (by omega)) hP_75 (loN_b (T := V 8 l) (g := x) (w9).toNat).2.2.1]; dsimp only; simp only [← i0_29, ← i1_29, ← i2_29]; have u1 := hP_75.u hP_44; first | ((repeat' split) <;> omega) | (have u2 := hP_57.u hP_44; (repeat' split) <;> omega))) (by first | rfl | (rw [lo_run (by omega) (i3_29 (by omega)) hP_75 (loN_b (T := V 8 l) (g := x) (w9).toNat).2.2.1]; dsimp only; simp only [← i0_29, ← i1_29, ← i2_29]; done) | (rw [lo_run (by omega) (i3_29 (by omega)) hP_75 (loN_b (T := V 8 l) (g := x) (w9).toNat).2.2.1]; dsimp only; simp only [← i0_29, ← i1_29, ← i2_29]; have u1 := hP_75.u hP_44; first | ((repeat' split) <;> omega) | (have u2 := hP_57.u hP_44; (repeat' split) <;> omega))) (by first | rfl | (rw [lo_run (by omega) (i3_29 (by omega)) hP_75 (loN_b (T := V 8 l) (g := x) (w9).toNat).2.2.1]; dsimp only; simp only [← i0_29, ← i1_29, ← i2_29]; done) | (rw [lo_run (by omega) (i3_29 (by omega)) hP_75 (loN_b (T := V 8 l) (g := x) (w9).toNat).2.2.1]; dsimp only; simp only [← i0_29, ← i1_29, ← i2_29]; have u1 := hP_75.u hP_44; first | ((repeat' split) <;> omega) | (have u2 := hP_57.u hP_44; (repeat' split) <;> omega))) (by first | (intro _; exact Or.inl rfl) | (intro q; exact hP_75.next (by omega))) (by omega) (by omega) (by omega) (by omega)  
      exact L29 123 ((-1)) (0) (0) (0)  (by omega) (by omega) (by omega) (by omega) (by first | rfl | (rw [lo_run (by omega) (i3_29 (by omega)) hP_75 (loN_b (T := V 8 l) (g := x) (w9).toNat).2.2.1]; dsimp only; simp only [← i0_29, ← i1_29, ← i2_29]; done) | (rw [lo_run (by omega) (i3_29 (by omega)) hP_75 (loN_b (T := V 8 l) (g := x) (w9).toNat).2.2.1]; dsimp only; simp only [← i0_29, ← i1_29, ← i2_29]; have u1 := hP_75.u hP_44; first | ((repeat' split) <;> omega) | (have u2 := hP_57.u hP_44; (repeat' split) <;> omega))) (by first | rfl | (rw [lo_run (by omega) (i3_29 (by omega)) hP_75 (loN_b (T := V 8 l) (g := x) (w9).toNat).2.2.1]; dsimp only; simp only [← i0_29, ← i1_29, ← i2_29]; done) | (rw [lo_run (by omega) (i3_29 (by omega)) hP_75 (loN_b (T := V 8 l) (g := x) (w9).toNat).2.2.1]; dsimp only; simp only [← i0_29, ← i1_29, ← i2_29]; have u1 := hP_75.u hP_44; first | ((repeat' split) <;> omega) | (have u2 := hP_57.u hP_44; (repeat' split) <;> omega))) (by first | rfl | (rw [lo_run (by omega) (i3_29 (by omega)) hP_75 (loN_b (T := V 8 l) (g := x) (w9).toNat).2.2.1]; dsimp only; simp only [← i0_29, ← i1_29, ← i2_29]; done) | (rw [lo_run (by omega) (i3_29 (by omega)) hP_75 (loN_b (T := V 8 l) (g := x) (w9).toNat).2.2.1]; dsimp only; simp only [← i0_29, ← i1_29, ← i2_29]; have u1 := hP_75.u hP_44; first | ((repeat' split) <;> omega) | (have u2 := hP_57.u hP_44; (repeat' split) <;> omega))) (by first | (intro _; exact Or.inl rfl) | (intro q; exact hP_75.next (by omega))) (by omega) (by omega) (by omega) (by omega)  
    · refine r_if_ne (tgt := 18) hC dX6_longest_13 rfl (fun h18 => by omega) (fun h18 => ?_)
      refine r_iconst hC dX6_longest_16 rfl ?_
      refine y_iret hK rfl dX6_longest_17 ?_
      have hRr : loR V l x = (-1) := by
        exact if_neg (by unfold gaC opV; omega)
      rw [hRr] at k
      exact k _ ⟨hR.1, hR.2.1, hR.2.2⟩
  · unfold opV at h1
    refine r_if_eq (tgt := 16) hC dX6_longest_5 rfl (fun h19 => ?_) (fun h19 => by omega)
    refine r_iconst hC dX6_longest_16 rfl ?_
    refine y_iret hK rfl dX6_longest_17 ?_
    have hRr : loR V l x = (-1) := by
      exact if_neg (by unfold gaC opV; omega)
    rw [hRr] at k
    exact k _ ⟨hR.1, hR.2.1, hR.2.2⟩
theorem y_session {eb : Bool} {t : Int} {V : Mm} {d : Nat} {P : Option Vl → Mm → Prop} {σ : Mm} {l x s w : Int}  {σ0 : Mm} (ht : 6 ≤ t ∧ t ≤ 7) (hR : RS t σ0 V σ) (hG : GI V)  (k : ∀ ρ : Mm, RS t σ0 V ρ → P (some (vI (seR V l x s w))) ρ) : WT (true, eb, true) (d + 6) 250 [vR 30 0, vI l, vI x, vI s, vI w] σ P := by
  refine WT_in fun K hK => ?_
  have hK : StpY (true, eb, true) cX6_session RX6 (some .int) (WT (true, eb, true) (d + 5)) P K := hK
  have hM := hK.1
  have hC := hK.1.1
  show K 0 [some (vR 30 0), some (vI l), some (vI x), some (vI s), some (vI w), none, none] [] σ
  refine r_rngz hC (fun g0 => ?_)
  have r_l : -2147483648 ≤ l ∧ l ≤ 2147483647 := inR_le (g0 (vI l) (by simp))
  have r_x : -2147483648 ≤ x ∧ x ≤ 2147483647 := inR_le (g0 (vI x) (by simp))
  have r_s : -2147483648 ≤ s ∧ s ≤ 2147483647 := inR_le (g0 (vI s) (by simp))
  have r_w : -2147483648 ≤ w ∧ w ≤ 2147483647 := inR_le (g0 (vI w) (by simp))
  have hrow := hG.2.1.2.2.1
  have h6b : 0 ≤ l → l ≤ 3 → 0 ≤ V 7 l 6 ∧ V 7 l 6 ≤ 120 := fun a b => hG.1.h7 (l := l) a (by omega)
  refine r_aload_n hC dX6_session_0 rfl ?_
  refine r_iload_n hC dX6_session_1 rfl ?_
  refine r_iload hC dX6_session_2 rfl ?_
  refine z_inv2 hM dX6_session_4 vl_RX6_207 rfl rfl rfl (Nat.le_of_ble_eq_true rfl) (Nat.le_of_ble_eq_true rfl) ?_
  refine y_isNumber (V := V) ht ⟨hR.1, hR.2.1, hR.2.2⟩ (fun l a b => (hG.2.1.2.2.2.1 l a b).2) (fun h1 => ?_) (fun h1 => ?_)
  · unfold lwC opV at h1
    have n_h1 := numF_rng (V 7 l 2)
    have h6 := hG.1.h7 (l := l) (by omega) (by omega)
    have hO_h1 := (hG.2.1.2.2.2.1 l (by omega) (by omega)).2
    refine r_if_eq (tgt := 22) hC dX6_session_7 rfl (fun h2 => by omega) (fun h2 => ?_)
    refine r_aload_n hC dX6_session_10 rfl ?_
    refine r_iload_n hC dX6_session_11 rfl ?_
    refine z_inv1 hM dX6_session_12 vl_RX6_301 rfl rfl rfl (Nat.le_of_ble_eq_true rfl) (Nat.le_of_ble_eq_true rfl) ?_
    refine y_isGap (fun h4 => ?_) (fun h4 => ?_)
    · refine r_if_eq (tgt := 22) hC dX6_session_15 rfl (fun h5 => by omega) (fun h5 => ?_)
      refine r_iload_n hC dX6_session_18 rfl ?_
      refine r_if_ge (tgt := 25) hC dX6_session_19 rfl (fun h6 => ?_) (fun h6 => ?_)
      · refine r_iconst hC dX6_session_25 rfl ?_
        refine r_istore hC dX6_session_26 rfl ?_
        refine r_iconst hC dX6_session_28 rfl ?_
        refine r_istore hC dX6_session_29 rfl ?_
        have L31 : ∀ (n31 : Nat) (w7 w8 : Int), 0 ≤ w7 ∧ w7 ≤ 120 → 0 ≤ w8 ∧ w8 ≤ 120 → ((sst (V 8 l) x s ((w7)).toNat).1 = (w8)) → ((w7) < V 7 l 6 → ssB (V 8 l) x (w7)) → ((w7) ≤ V 7 l 6) → ((w8) ≤ s) → ((w8) ≤ (w7)) → 120 - w7 < (n31 : Int) → K 31 [some (vR 30 0), some (vI l), some (vI x), some (vI s), some (vI w), some (vI w7), some (vI w8)] [] σ := by
          intro n31
          induction n31 with
          | zero => intro w7 w8  f_w7 f_w8 i0_31 i1_31 i2_31 i3_31 i4_31 hm  ; omega
          | succ n31 ih31 =>
            intro w7 w8  f_w7 f_w8 i0_31 i1_31 i2_31 i3_31 i4_31 hm31  
            refine r_iload hC dX6_session_31 rfl ?_
            refine r_iload_n hC dX6_session_33 rfl ?_
            refine r_icmp_ge (tgt := 66) hC dX6_session_34 rfl (fun h9 => ?_) (fun h9 => ?_)
            · refine r_iload hC dX6_session_66 rfl ?_
              refine r_aload_n hC dX6_session_68 rfl ?_
              refine r_iload_n hC dX6_session_69 rfl ?_
              refine z_inv1 hM dX6_session_70 vl_RX6_116 rfl rfl rfl (Nat.le_of_ble_eq_true rfl) (Nat.le_of_ble_eq_true rfl) ?_
              refine y_heldOf (by omega) (fun o10 => ?_)
              have e11 : σ 31 0 (22 * l + 5) = (V 7 l 6) := (hR.1.a7 (s := 6) (f := 5) (by omega) (by omega) (by omega)).trans (rfl)
              rw [e11] at o10 ⊢
              have qo10 : 0 ≤ (V 7 l 6) ∧ (V 7 l 6) ≤ 121 := o10.1 (by omega)
              refine r_icmp_ge (tgt := 101) hC dX6_session_73 rfl (fun h12 => ?_) (fun h12 => ?_)
              · refine r_ldc hC dX6_session_101 co_RX6_160 rfl ?_
                refine y_iret hK rfl dX6_session_103 ?_
                have hRr : seR V l x s w = (-2147483648) := by
                  have q_ := sst_b (T := V 8 l) (g := x) (s := s) (by omega) (V 7 l 6).toNat
                  have e_ : (sst (V 8 l) x s (V 7 l 6).toNat).1 = w8 := by rw [show (V 7 l 6).toNat = (w7).toNat from by omega]; exact i0_31
                  unfold seR sstV
                  rw [if_pos (by unfold seC lwC opV; omega), show (sst (V 8 l) x s (V 7 l 6).toNat).2.2.toNat = 0 from by omega]
                  exact if_pos (Or.inl rfl)
                rw [hRr] at k
                exact k _ ⟨hR.1, hR.2.1, hR.2.2⟩
              · refine r_aload_n hC dX6_session_76 rfl ?_
                refine r_iload_n hC dX6_session_77 rfl ?_
                refine r_iload hC dX6_session_78 rfl ?_
                refine r_iload hC dX6_session_80 rfl ?_
                refine r_aload_n hC dX6_session_82 rfl ?_
                refine r_iload_n hC dX6_session_83 rfl ?_
                refine r_iload hC dX6_session_84 rfl ?_
                refine r_iload_n hC dX6_session_86 rfl ?_
                refine z_inv3 hM dX6_session_87 vl_RX6_304 rfl rfl rfl (Nat.le_of_ble_eq_true rfl) (Nat.le_of_ble_eq_true rfl) ?_
                refine y_inSession (V := V) (by omega) (by omega) (by omega) ht ⟨hR.1, hR.2.1, hR.2.2⟩ hG (by omega) (fun r13 hP_87 => ?_)
                have p1_87 := hP_87.1
                refine r_iaddE hC ((w7 + r13)) dX6_session_90 (by omega) (by unfold inR; omega) ?_
                refine r_iconst hC dX6_session_91 rfl ?_
                refine r_isubE hC (((w7 + r13) - 1)) dX6_session_92 (by omega) (by unfold inR; omega) ?_
                refine r_iload hC dX6_session_93 rfl ?_
                refine z_inv4 hM dX6_session_95 vl_RX6_243 rfl rfl rfl (Nat.le_of_ble_eq_true rfl) (Nat.le_of_ble_eq_true rfl) ?_
                refine y_comesFrom (V := V) (by omega) (by omega) (by omega) (by omega) ht ⟨hR.1, hR.2.1, hR.2.2⟩ (by omega) (hG.2.1.lk hG.1 (l := l) (by omega) (by omega)) (by omega) (fun ρ14 Rρ14 => ?_)
                have ePρ14 : cm (V 16 0) (V 15 0) (V 7 l 2) (fun j => V 9 l (w7 + j)) (((w7 + r13) - 1) + 1 - w7).toNat w = ptV V l w7 (w7 + r13) w := by unfold ptV; rw [show (((w7 + r13) - 1) + 1 - w7 : Int) = (w7 + r13) - w7 from by omega]
                rw [ePρ14]
                refine r_goto (tgt := 103) hC dX6_session_98 rfl ?_
                refine y_iret hK rfl dX6_session_103 ?_
                have hRr : seR V l x s w = (ptV V l w7 (w7 + r13) w) := by
                  have q_ := st_fin (h := V 7 l 6) (by omega) (by omega) (i1_31 (by omega)) (i0_31.trans (by omega)) hP_87
                  unfold seR sstV ptV
                  rw [if_pos (by unfold seC lwC opV; omega), q_]
                  dsimp only
                  congr 1
                  omega
                rw [hRr] at k
                exact k _ ⟨Rρ14.1, Rρ14.2.1, Rρ14.2.2⟩
            · refine r_iload hC dX6_session_37 rfl ?_
              refine r_aload_n hC dX6_session_39 rfl ?_
              refine r_iload_n hC dX6_session_40 rfl ?_
              refine z_inv1 hM dX6_session_41 vl_RX6_116 rfl rfl rfl (Nat.le_of_ble_eq_true rfl) (Nat.le_of_ble_eq_true rfl) ?_
              refine y_heldOf (by omega) (fun o15 => ?_)
              have e16 : σ 31 0 (22 * l + 5) = (V 7 l 6) := (hR.1.a7 (s := 6) (f := 5) (by omega) (by omega) (by omega)).trans (rfl)
              rw [e16] at o15 ⊢
              have qo15 : 0 ≤ (V 7 l 6) ∧ (V 7 l 6) ≤ 121 := o15.1 (by omega)
              refine r_icmp_ge (tgt := 66) hC dX6_session_44 rfl (fun h17 => ?_) (fun h17 => ?_)
              · refine r_iload hC dX6_session_66 rfl ?_
                refine r_aload_n hC dX6_session_68 rfl ?_
                refine r_iload_n hC dX6_session_69 rfl ?_
                refine z_inv1 hM dX6_session_70 vl_RX6_116 rfl rfl rfl (Nat.le_of_ble_eq_true rfl) (Nat.le_of_ble_eq_true rfl) ?_
                refine y_heldOf (by omega) (fun o18 => ?_)
                have e19 : σ 31 0 (22 * l + 5) = (V 7 l 6) := (hR.1.a7 (s := 6) (f := 5) (by omega) (by omega) (by omega)).trans (rfl)
                rw [e19] at o18 ⊢
                have qo18 : 0 ≤ (V 7 l 6) ∧ (V 7 l 6) ≤ 121 := o18.1 (by omega)
                refine r_icmp_ge (tgt := 101) hC dX6_session_73 rfl (fun h20 => ?_) (fun h20 => ?_)
                · refine r_ldc hC dX6_session_101 co_RX6_160 rfl ?_
                  refine y_iret hK rfl dX6_session_103 ?_
                  have hRr : seR V l x s w = (-2147483648) := by
                    have q_ := sst_b (T := V 8 l) (g := x) (s := s) (by omega) (V 7 l 6).toNat
                    have e_ : (sst (V 8 l) x s (V 7 l 6).toNat).1 = w8 := by rw [show (V 7 l 6).toNat = (w7).toNat from by omega]; exact i0_31
                    unfold seR sstV
                    rw [if_pos (by unfold seC lwC opV; omega), show (sst (V 8 l) x s (V 7 l 6).toNat).2.2.toNat = 0 from by omega]
                    exact if_pos (Or.inl rfl)
                  rw [hRr] at k
                  exact k _ ⟨hR.1, hR.2.1, hR.2.2⟩
                · refine r_aload_n hC dX6_session_76 rfl ?_
                  refine r_iload_n hC dX6_session_77 rfl ?_
                  refine r_iload hC dX6_session_78 rfl ?_
                  refine r_iload hC dX6_session_80 rfl ?_
                  refine r_aload_n hC dX6_session_82 rfl ?_
                  refine r_iload_n hC dX6_session_83 rfl ?_
                  refine r_iload hC dX6_session_84 rfl ?_
                  refine r_iload_n hC dX6_session_86 rfl ?_
                  refine z_inv3 hM dX6_session_87 vl_RX6_304 rfl rfl rfl (Nat.le_of_ble_eq_true rfl) (Nat.le_of_ble_eq_true rfl) ?_
                  refine y_inSession (V := V) (by omega) (by omega) (by omega) ht ⟨hR.1, hR.2.1, hR.2.2⟩ hG (by omega) (fun r21 hP_87 => ?_)
                  have p1_87 := hP_87.1
                  refine r_iaddE hC ((w7 + r21)) dX6_session_90 (by omega) (by unfold inR; omega) ?_
                  refine r_iconst hC dX6_session_91 rfl ?_
                  refine r_isubE hC (((w7 + r21) - 1)) dX6_session_92 (by omega) (by unfold inR; omega) ?_
                  refine r_iload hC dX6_session_93 rfl ?_
                  refine z_inv4 hM dX6_session_95 vl_RX6_243 rfl rfl rfl (Nat.le_of_ble_eq_true rfl) (Nat.le_of_ble_eq_true rfl) ?_
                  refine y_comesFrom (V := V) (by omega) (by omega) (by omega) (by omega) ht ⟨hR.1, hR.2.1, hR.2.2⟩ (by omega) (hG.2.1.lk hG.1 (l := l) (by omega) (by omega)) (by omega) (fun ρ22 Rρ22 => ?_)
                  have ePρ22 : cm (V 16 0) (V 15 0) (V 7 l 2) (fun j => V 9 l (w7 + j)) (((w7 + r21) - 1) + 1 - w7).toNat w = ptV V l w7 (w7 + r21) w := by unfold ptV; rw [show (((w7 + r21) - 1) + 1 - w7 : Int) = (w7 + r21) - w7 from by omega]
                  rw [ePρ22]
                  refine r_goto (tgt := 103) hC dX6_session_98 rfl ?_
                  refine y_iret hK rfl dX6_session_103 ?_
                  have hRr : seR V l x s w = (ptV V l w7 (w7 + r21) w) := by
                    have q_ := st_fin (h := V 7 l 6) (by omega) (by omega) (i1_31 (by omega)) (i0_31.trans (by omega)) hP_87
                    unfold seR sstV ptV
                    rw [if_pos (by unfold seC lwC opV; omega), q_]
                    dsimp only
                    congr 1
                    omega
                  rw [hRr] at k
                  exact k _ ⟨Rρ22.1, Rρ22.2.1, Rρ22.2.2⟩
              · refine r_iload hC dX6_session_47 rfl ?_
                refine r_aload_n hC dX6_session_49 rfl ?_
                refine r_iload_n hC dX6_session_50 rfl ?_
                refine r_iload hC dX6_session_51 rfl ?_
                refine r_iload_n hC dX6_session_53 rfl ?_
                refine z_inv3 hM dX6_session_54 vl_RX6_304 rfl rfl rfl (Nat.le_of_ble_eq_true rfl) (Nat.le_of_ble_eq_true rfl) ?_
                refine y_inSession (V := V) (by omega) (by omega) (by omega) ht ⟨hR.1, hR.2.1, hR.2.2⟩ hG (by omega) (fun r23 hP_54 => ?_)
                have p1_54 := hP_54.1
                refine r_iaddE hC ((w7 + r23)) dX6_session_57 (by omega) (by unfold inR; omega) ?_
                refine r_istore hC dX6_session_58 rfl ?_
                refine r_iincE hC ((w8 + 1)) dX6_session_60 rfl rfl (by omega) (by unfold inR; omega) ?_
                refine r_goto (tgt := 31) hC dX6_session_63 rfl ?_
                exact ih31 ((w7 + r23)) ((w8 + 1))  (by omega) (by omega) (by first | rfl | (rw [(st_run (s := s) (by omega) (by omega) (i1_31 (by omega)) hP_54).1]; omega)) (by first | (intro _; exact Or.inl rfl) | (intro q; exact hP_54.next (by omega))) (by omega) (by omega) (by omega) (by omega)  
        exact L31 123 (0) (0)  (by omega) (by omega) (by first | rfl | (rw [(st_run (s := s) (by omega) (by omega) (i1_31 (by omega)) hP_54).1]; omega)) (by first | (intro _; exact Or.inl rfl) | (intro q; exact hP_54.next (by omega))) (by omega) (by omega) (by omega) (by omega)  
      · refine r_ldc hC dX6_session_22 co_RX6_160 rfl ?_
        refine y_iret hK rfl dX6_session_24 ?_
        have hRr : seR V l x s w = (-2147483648) := by
          exact if_neg (by unfold seC lwC opV; omega)
        rw [hRr] at k
        exact k _ ⟨hR.1, hR.2.1, hR.2.2⟩
    · refine r_if_eq (tgt := 22) hC dX6_session_15 rfl (fun h24 => ?_) (fun h24 => by omega)
      refine r_ldc hC dX6_session_22 co_RX6_160 rfl ?_
      refine y_iret hK rfl dX6_session_24 ?_
      have hRr : seR V l x s w = (-2147483648) := by
        exact if_neg (by unfold seC lwC opV; omega)
      rw [hRr] at k
      exact k _ ⟨hR.1, hR.2.1, hR.2.2⟩
  · unfold lwC opV at h1
    refine r_if_eq (tgt := 22) hC dX6_session_7 rfl (fun h25 => ?_) (fun h25 => by omega)
    refine r_ldc hC dX6_session_22 co_RX6_160 rfl ?_
    refine y_iret hK rfl dX6_session_24 ?_
    have hRr : seR V l x s w = (-2147483648) := by
      exact if_neg (by unfold seC lwC opV; omega)
    rw [hRr] at k
    exact k _ ⟨hR.1, hR.2.1, hR.2.2⟩
theorem y_sumHeld {eb : Bool} {t : Int} {V : Mm} {d : Nat} {P : Option Vl → Mm → Prop} {σ : Mm}  {σ0 : Mm} (ht : 6 ≤ t ∧ t ≤ 7) (hR : RS t σ0 V σ) (hG : GI V)  (k : P (some (vI (htN V 4))) σ) : WT (true, eb, true) (d + 2) 256 [vR 30 0, vI 5] σ P := by
  refine WT_in fun K hK => ?_
  have hK : StpY (true, eb, true) cX6_sumOf RX6 (some .int) (WT (true, eb, true) (d + 1)) P K := hK
  have hM := hK.1
  have hC := hK.1.1
  show K 0 [some (vR 30 0), some (vI 5), none, none] [] σ
  refine r_iconst hC dX6_sumOf_0 rfl ?_
  refine r_istore_n hC dX6_sumOf_1 rfl ?_
  refine r_iconst hC dX6_sumOf_2 rfl ?_
  refine r_istore_n hC dX6_sumOf_3 rfl ?_
  have L4 : ∀ (n4 : Nat) (w1 w2 : Int), 0 ≤ w1 ∧ w1 ≤ 4 → 0 ≤ w2 ∧ w2 ≤ 484 → ((w2) = htN V ((w1)).toNat) → ((w2) ≤ 121 * (w1)) → 4 - w1 < (n4 : Int) → K 4 [some (vR 30 0), some (vI 5), some (vI w2), some (vI w1)] [] σ := by
    intro n4
    induction n4 with
    | zero => intro w1 w2  f_w1 f_w2 i0_4 i1_4 hm  ; omega
    | succ n4 ih4 =>
      intro w1 w2  f_w1 f_w2 i0_4 i1_4 hm4  
      refine r_iload_n hC dX6_sumOf_4 rfl ?_
      refine r_iconst hC dX6_sumOf_5 rfl ?_
      refine r_icmp_ge (tgt := 38) hC dX6_sumOf_6 rfl (fun h3 => ?_) (fun h3 => ?_)
      · refine r_iload_n hC dX6_sumOf_38 rfl ?_
        refine y_iret hK rfl dX6_sumOf_39 ?_
        have e_ : (w1).toNat = 4 := by omega
        rw [← e_, ← i0_4] at k
        exact k
      · refine r_iload_n hC dX6_sumOf_9 rfl ?_
        refine r_aload_n hC dX6_sumOf_10 rfl ?_
        refine r_iload_n hC dX6_sumOf_11 rfl ?_
        refine r_iconst hC dX6_sumOf_12 rfl ?_
        refine z_inv2 hM dX6_sumOf_13 vl_RX6_80 rfl rfl rfl (Nat.le_of_ble_eq_true rfl) (Nat.le_of_ble_eq_true rfl) ?_
        refine y_of (by omega) (by omega) (by omega) (fun o4 => ?_)
        have e5 : σ 31 0 (22 * w1 + 0) = (V 7 w1 1) := (hR.1.a7 (s := 1) (f := 0) (by omega) (by omega) (by omega)).trans (rfl)
        rw [e5] at o4 ⊢
        have qo4 : 0 ≤ (V 7 w1 1) ∧ (V 7 w1 1) ≤ 1 := by have := o4.2 (by omega); omega
        refine r_iconst hC dX6_sumOf_16 rfl ?_
        refine r_icmp_ne (tgt := 29) hC dX6_sumOf_17 rfl (fun h6 => ?_) (fun h6 => ?_)
        · refine r_iconst hC dX6_sumOf_29 rfl ?_
          refine r_iaddE hC (w2) dX6_sumOf_30 (by omega) (by unfold inR; omega) ?_
          refine r_istore_n hC dX6_sumOf_31 rfl ?_
          refine r_iincE hC ((w1 + 1)) dX6_sumOf_32 rfl rfl (by omega) (by unfold inR; omega) ?_
          refine r_goto (tgt := 4) hC dX6_sumOf_35 rfl ?_
          exact ih4 ((w1 + 1)) (w2)  (by omega) (by omega) (by first | rfl | (rw [htN_I (by omega), ← i0_4]; first | (rw [if_pos (by omega)]; done) | (rw [if_neg (by omega)]; done) | (rw [if_pos (by omega)]; omega) | (rw [if_neg (by omega)]; omega) | (split <;> omega))) (by omega) (by omega)  
        · refine r_aload_n hC dX6_sumOf_20 rfl ?_
          refine r_iload_n hC dX6_sumOf_21 rfl ?_
          refine r_iload_n hC dX6_sumOf_22 rfl ?_
          refine z_inv2 hM dX6_sumOf_23 vl_RX6_80 rfl rfl rfl (Nat.le_of_ble_eq_true rfl) (Nat.le_of_ble_eq_true rfl) ?_
          refine y_of (by omega) (by omega) (by omega) (fun o7 => ?_)
          have e8 : σ 31 0 (22 * w1 + 5) = (V 7 w1 6) := (hR.1.a7 (s := 6) (f := 5) (by omega) (by omega) (by omega)).trans (rfl)
          rw [e8] at o7 ⊢
          have qo7 : 0 ≤ (V 7 w1 6) ∧ (V 7 w1 6) ≤ 121 := o7.1 (by omega)
          refine r_goto (tgt := 30) hC dX6_sumOf_26 rfl ?_
          refine r_iaddE hC ((w2 + (V 7 w1 6))) dX6_sumOf_30 (by omega) (by unfold inR; omega) ?_
          refine r_istore_n hC dX6_sumOf_31 rfl ?_
          refine r_iincE hC ((w1 + 1)) dX6_sumOf_32 rfl rfl (by omega) (by unfold inR; omega) ?_
          refine r_goto (tgt := 4) hC dX6_sumOf_35 rfl ?_
          exact ih4 ((w1 + 1)) ((w2 + (V 7 w1 6)))  (by omega) (by omega) (by first | rfl | (rw [htN_I (by omega), ← i0_4]; first | (rw [if_pos (by omega)]; done) | (rw [if_neg (by omega)]; done) | (rw [if_pos (by omega)]; omega) | (rw [if_neg (by omega)]; omega) | (split <;> omega))) (by omega) (by omega)  
  exact L4 6 (0) (0)  (by omega) (by omega) (by first | rfl | (rw [htN_I (by omega), ← i0_4]; first | (rw [if_pos (by omega)]; done) | (rw [if_neg (by omega)]; done) | (rw [if_pos (by omega)]; omega) | (rw [if_neg (by omega)]; omega) | (split <;> omega))) (by omega) (by omega)  
theorem y_sumSpent {eb : Bool} {t : Int} {V : Mm} {d : Nat} {P : Option Vl → Mm → Prop} {σ : Mm}  {σ0 : Mm} (ht : 6 ≤ t ∧ t ≤ 7) (hR : RS t σ0 V σ) (hG : GI V)  (k : P (some (vI (spN V 4))) σ) : WT (true, eb, true) (d + 2) 256 [vR 30 0, vI 19] σ P := by
  refine WT_in fun K hK => ?_
  have hK : StpY (true, eb, true) cX6_sumOf RX6 (some .int) (WT (true, eb, true) (d + 1)) P K := hK
  have hM := hK.1
  have hC := hK.1.1
  show K 0 [some (vR 30 0), some (vI 19), none, none] [] σ
  refine r_iconst hC dX6_sumOf_0 rfl ?_
  refine r_istore_n hC dX6_sumOf_1 rfl ?_
  refine r_iconst hC dX6_sumOf_2 rfl ?_
  refine r_istore_n hC dX6_sumOf_3 rfl ?_
  have L4 : ∀ (n4 : Nat) (w1 w2 : Int), 0 ≤ w1 ∧ w1 ≤ 4 → -2147483648 ≤ w2 ∧ w2 ≤ 2147483647 → ((w2) = spN V ((w1)).toNat) → 4 - w1 < (n4 : Int) → K 4 [some (vR 30 0), some (vI 19), some (vI w2), some (vI w1)] [] σ := by
    intro n4
    induction n4 with
    | zero => intro w1 w2  f_w1 f_w2 i0_4 hm  ; omega
    | succ n4 ih4 =>
      intro w1 w2  f_w1 f_w2 i0_4 hm4  
      refine r_iload_n hC dX6_sumOf_4 rfl ?_
      refine r_iconst hC dX6_sumOf_5 rfl ?_
      refine r_icmp_ge (tgt := 38) hC dX6_sumOf_6 rfl (fun h3 => ?_) (fun h3 => ?_)
      · refine r_iload_n hC dX6_sumOf_38 rfl ?_
        refine y_iret hK rfl dX6_sumOf_39 ?_
        have e_ : (w1).toNat = 4 := by omega
        rw [← e_, ← i0_4] at k
        exact k
      · refine r_iload_n hC dX6_sumOf_9 rfl ?_
        refine r_aload_n hC dX6_sumOf_10 rfl ?_
        refine r_iload_n hC dX6_sumOf_11 rfl ?_
        refine r_iconst hC dX6_sumOf_12 rfl ?_
        refine z_inv2 hM dX6_sumOf_13 vl_RX6_80 rfl rfl rfl (Nat.le_of_ble_eq_true rfl) (Nat.le_of_ble_eq_true rfl) ?_
        refine y_of (by omega) (by omega) (by omega) (fun o4 => ?_)
        have e5 : σ 31 0 (22 * w1 + 0) = (V 7 w1 1) := (hR.1.a7 (s := 1) (f := 0) (by omega) (by omega) (by omega)).trans (rfl)
        rw [e5] at o4 ⊢
        have qo4 : 0 ≤ (V 7 w1 1) ∧ (V 7 w1 1) ≤ 1 := by have := o4.2 (by omega); omega
        refine r_iconst hC dX6_sumOf_16 rfl ?_
        refine r_icmp_ne (tgt := 29) hC dX6_sumOf_17 rfl (fun h6 => ?_) (fun h6 => ?_)
        · refine r_iconst hC dX6_sumOf_29 rfl ?_
          refine r_iaddE hC (w2) dX6_sumOf_30 (by omega) (by unfold inR; omega) ?_
          refine r_istore_n hC dX6_sumOf_31 rfl ?_
          refine r_iincE hC ((w1 + 1)) dX6_sumOf_32 rfl rfl (by omega) (by unfold inR; omega) ?_
          refine r_goto (tgt := 4) hC dX6_sumOf_35 rfl ?_
          exact ih4 ((w1 + 1)) (w2)  (by omega) (by omega) (by first | rfl | (rw [spN_I (by omega), ← i0_4]; first | (rw [if_pos (by omega)]; done) | (rw [if_neg (by omega)]; done) | (rw [if_pos (by omega)]; omega) | (rw [if_neg (by omega)]; omega) | (split <;> omega))) (by omega)  
        · refine r_aload_n hC dX6_sumOf_20 rfl ?_
          refine r_iload_n hC dX6_sumOf_21 rfl ?_
          refine r_iload_n hC dX6_sumOf_22 rfl ?_
          refine z_inv2 hM dX6_sumOf_23 vl_RX6_80 rfl rfl rfl (Nat.le_of_ble_eq_true rfl) (Nat.le_of_ble_eq_true rfl) ?_
          refine y_of (by omega) (by omega) (by omega) (fun o7 => ?_)
          have e8 : σ 31 0 (22 * w1 + 19) = (V 11 w1 5) := (hR.1.a11 (s := 5) (f := 19) (by omega) (by omega) (by omega)).trans (rfl)
          rw [e8] at o7 ⊢
          refine r_goto (tgt := 30) hC dX6_sumOf_26 rfl ?_
          refine r_iadd hC dX6_sumOf_30 ?_
          have f9 := inR_le (inR_wr (w2 + (V 11 w1 5)))
          refine r_istore_n hC dX6_sumOf_31 rfl ?_
          refine r_iincE hC ((w1 + 1)) dX6_sumOf_32 rfl rfl (by omega) (by unfold inR; omega) ?_
          refine r_goto (tgt := 4) hC dX6_sumOf_35 rfl ?_
          exact ih4 ((w1 + 1)) ((wr (w2 + (V 11 w1 5))))  (by omega) (by omega) (by first | rfl | (rw [spN_I (by omega), ← i0_4]; first | (rw [if_pos (by omega)]; done) | (rw [if_neg (by omega)]; done) | (rw [if_pos (by omega)]; omega) | (rw [if_neg (by omega)]; omega) | (split <;> omega))) (by omega)  
  exact L4 6 (0) (0)  (by omega) (by omega) (by first | rfl | (rw [spN_I (by omega), ← i0_4]; first | (rw [if_pos (by omega)]; done) | (rw [if_neg (by omega)]; done) | (rw [if_pos (by omega)]; omega) | (rw [if_neg (by omega)]; omega) | (split <;> omega))) (by omega)  
theorem y_boxesNow {eb : Bool} {t : Int} {V : Mm} {d : Nat} {P : Option Vl → Mm → Prop} {σ : Mm}  {σ0 : Mm} (ht : 6 ≤ t ∧ t ≤ 7) (hR : RS t σ0 V σ) (hG : GI V)  (k : P (some (vI (bxN V 3))) σ) : WT (true, eb, true) (d + 2) 257 [vR 30 0] σ P := by
  refine WT_in fun K hK => ?_
  have hK : StpY (true, eb, true) cX6_boxesNow RX6 (some .int) (WT (true, eb, true) (d + 1)) P K := hK
  have hM := hK.1
  have hC := hK.1.1
  show K 0 [some (vR 30 0), none, none] [] σ
  refine r_iconst hC dX6_boxesNow_0 rfl ?_
  refine r_istore_n hC dX6_boxesNow_1 rfl ?_
  refine r_iconst hC dX6_boxesNow_2 rfl ?_
  refine r_istore_n hC dX6_boxesNow_3 rfl ?_
  have L4 : ∀ (n4 : Nat) (w1 w2 : Int), 0 ≤ w1 ∧ w1 ≤ 3 → 0 ≤ w2 ∧ w2 ≤ 3 → ((w1) = bxN V ((w2)).toNat) → ((w1) ≤ (w2)) → 3 - w2 < (n4 : Int) → K 4 [some (vR 30 0), some (vI w1), some (vI w2)] [] σ := by
    intro n4
    induction n4 with
    | zero => intro w1 w2  f_w1 f_w2 i0_4 i1_4 hm  ; omega
    | succ n4 ih4 =>
      intro w1 w2  f_w1 f_w2 i0_4 i1_4 hm4  
      refine r_iload_n hC dX6_boxesNow_4 rfl ?_
      refine r_iconst hC dX6_boxesNow_5 rfl ?_
      refine r_icmp_ge (tgt := 26) hC dX6_boxesNow_6 rfl (fun h3 => ?_) (fun h3 => ?_)
      · refine r_iload_n hC dX6_boxesNow_26 rfl ?_
        refine y_iret hK rfl dX6_boxesNow_27 ?_
        have e_ : (w2).toNat = 3 := by omega
        rw [← e_, ← i0_4] at k
        exact k
      · refine r_iload_n hC dX6_boxesNow_9 rfl ?_
        refine r_aload_n hC dX6_boxesNow_10 rfl ?_
        refine r_iconst hC dX6_boxesNow_11 rfl ?_
        refine r_iload_n hC dX6_boxesNow_12 rfl ?_
        refine r_iaddE hC ((w2 + 4)) dX6_boxesNow_13 (by omega) (by unfold inR; omega) ?_
        refine r_iconst hC dX6_boxesNow_14 rfl ?_
        refine z_inv2 hM dX6_boxesNow_15 vl_RX6_80 rfl rfl rfl (Nat.le_of_ble_eq_true rfl) (Nat.le_of_ble_eq_true rfl) ?_
        refine y_of (by omega) (by omega) (by omega) (fun o4 => ?_)
        have e5 : σ 31 0 (22 * (w2 + 4) + 0) = (V 7 (w2 + 4) 1) := (hR.1.a7 (s := 1) (f := 0) (by omega) (by omega) (by omega)).trans (rfl)
        rw [e5] at o4 ⊢
        have qo4 : 0 ≤ (V 7 (w2 + 4) 1) ∧ (V 7 (w2 + 4) 1) ≤ 1 := by have := o4.2 (by omega); omega
        have hA_ := (hG.2.1.2.2.2.1 (w2 + 4) (by omega) (by omega)).1
        have hA2_ : 0 ≤ (V 7 (w2 + 4) 1) ∧ (V 7 (w2 + 4) 1) ≤ 1 := by omega
        refine r_iaddE hC ((w1 + (V 7 (w2 + 4) 1))) dX6_boxesNow_18 (by omega) (by unfold inR; omega) ?_
        refine r_istore_n hC dX6_boxesNow_19 rfl ?_
        refine r_iincE hC ((w2 + 1)) dX6_boxesNow_20 rfl rfl (by omega) (by unfold inR; omega) ?_
        refine r_goto (tgt := 4) hC dX6_boxesNow_23 rfl ?_
        exact ih4 ((w1 + (V 7 (w2 + 4) 1))) ((w2 + 1))  (by omega) (by omega) (by first | rfl | (rw [bxN_I (by omega), ← i0_4]; first | (rw [if_pos (by omega)]; done) | (rw [if_neg (by omega)]; done) | (rw [if_pos (by omega)]; omega) | (rw [if_neg (by omega)]; omega) | (split <;> omega))) (by omega) (by omega)  
  exact L4 5 (0) (0)  (by omega) (by omega) (by first | rfl | (rw [bxN_I (by omega), ← i0_4]; first | (rw [if_pos (by omega)]; done) | (rw [if_neg (by omega)]; done) | (rw [if_pos (by omega)]; omega) | (rw [if_neg (by omega)]; omega) | (split <;> omega))) (by omega) (by omega)  
theorem y_toldPlain {eb : Bool} {t : Int} {V : Mm} {d : Nat} {P : Option Vl → Mm → Prop} {σ : Mm}  {σ0 : Mm} (ht : 6 ≤ t ∧ t ≤ 7) (hR : RS t σ0 V σ) (hG : GI V)  (k : P (some (vI (wcN V 8))) σ) : WT (true, eb, true) (d + 3) 258 [vR 30 0, vI 0] σ P := by
  refine WT_in fun K hK => ?_
  have hK : StpY (true, eb, true) cX6_toldNow RX6 (some .int) (WT (true, eb, true) (d + 2)) P K := hK
  have hM := hK.1
  have hC := hK.1.1
  show K 0 [some (vR 30 0), some (vI 0), none, none] [] σ
  refine r_iconst hC dX6_toldNow_0 rfl ?_
  refine r_istore_n hC dX6_toldNow_1 rfl ?_
  refine r_iconst hC dX6_toldNow_2 rfl ?_
  refine r_istore_n hC dX6_toldNow_3 rfl ?_
  have L4 : ∀ (n4 : Nat) (w1 w2 : Int), 0 ≤ w1 ∧ w1 ≤ 8 → 0 ≤ w2 ∧ w2 ≤ 8 → ((w1) = wcN V ((w2)).toNat) → ((w1) ≤ (w2)) → 8 - w2 < (n4 : Int) → K 4 [some (vR 30 0), some (vI 0), some (vI w1), some (vI w2)] [] σ := by
    intro n4
    induction n4 with
    | zero => intro w1 w2  f_w1 f_w2 i0_4 i1_4 hm  ; omega
    | succ n4 ih4 =>
      intro w1 w2  f_w1 f_w2 i0_4 i1_4 hm4  
      refine r_iload_n hC dX6_toldNow_4 rfl ?_
      refine r_bipush hC dX6_toldNow_5 rfl ?_
      refine r_icmp_ge (tgt := 41) hC dX6_toldNow_7 rfl (fun h3 => ?_) (fun h3 => ?_)
      · refine r_iload_n hC dX6_toldNow_41 rfl ?_
        refine y_iret hK rfl dX6_toldNow_42 ?_
        have e_ : (w2).toNat = 8 := by omega
        rw [← e_, ← i0_4] at k
        exact k
      · refine r_aload_n hC dX6_toldNow_10 rfl ?_
        refine r_iload_n hC dX6_toldNow_11 rfl ?_
        refine z_inv1 hM dX6_toldNow_12 vl_RX6_210 rfl rfl rfl (Nat.le_of_ble_eq_true rfl) (Nat.le_of_ble_eq_true rfl) ?_
        refine y_isTold (V := V) ht ⟨hR.1, hR.2.1, hR.2.2⟩ hG (fun h4 => ?_) (fun h4 => ?_)
        · refine r_if_eq (tgt := 35) hC dX6_toldNow_15 rfl (fun h5 => by omega) (fun h5 => ?_)
          refine r_iload_n hC dX6_toldNow_18 rfl ?_
          refine r_iload_n hC dX6_toldNow_19 rfl ?_
          refine r_if_eq (tgt := 32) hC dX6_toldNow_20 rfl (fun h6 => ?_) (fun h6 => by omega)
          refine r_iconst hC dX6_toldNow_32 rfl ?_
          refine r_iaddE hC ((w1 + 1)) dX6_toldNow_33 (by omega) (by unfold inR; omega) ?_
          refine r_istore_n hC dX6_toldNow_34 rfl ?_
          refine r_iincE hC ((w2 + 1)) dX6_toldNow_35 rfl rfl (by omega) (by unfold inR; omega) ?_
          refine r_goto (tgt := 4) hC dX6_toldNow_38 rfl ?_
          exact ih4 ((w1 + 1)) ((w2 + 1))  (by omega) (by omega) (by first | rfl | (rw [wcN_I (by omega), ← i0_4]; first | (rw [if_pos (by omega)]; done) | (rw [if_neg (by omega)]; done) | (rw [if_pos (by omega)]; omega) | (rw [if_neg (by omega)]; omega) | (split <;> omega))) (by omega) (by omega)  
        · refine r_if_eq (tgt := 35) hC dX6_toldNow_15 rfl (fun h7 => ?_) (fun h7 => by omega)
          refine r_iincE hC ((w2 + 1)) dX6_toldNow_35 rfl rfl (by omega) (by unfold inR; omega) ?_
          refine r_goto (tgt := 4) hC dX6_toldNow_38 rfl ?_
          exact ih4 (w1) ((w2 + 1))  (by omega) (by omega) (by first | rfl | (rw [wcN_I (by omega), ← i0_4]; first | (rw [if_pos (by omega)]; done) | (rw [if_neg (by omega)]; done) | (rw [if_pos (by omega)]; omega) | (rw [if_neg (by omega)]; omega) | (split <;> omega))) (by omega) (by omega)  
  exact L4 10 (0) (0)  (by omega) (by omega) (by first | rfl | (rw [wcN_I (by omega), ← i0_4]; first | (rw [if_pos (by omega)]; done) | (rw [if_neg (by omega)]; done) | (rw [if_pos (by omega)]; omega) | (rw [if_neg (by omega)]; omega) | (split <;> omega))) (by omega) (by omega)  
theorem y_toldRings {eb : Bool} {t : Int} {V : Mm} {d : Nat} {P : Option Vl → Mm → Prop} {σ : Mm}  {σ0 : Mm} (ht : 6 ≤ t ∧ t ≤ 7) (hR : RS t σ0 V σ) (hG : GI V)  (k : P (some (vI (rgN V 8))) σ) : WT (true, eb, true) (d + 3) 258 [vR 30 0, vI 1] σ P := by
  refine WT_in fun K hK => ?_
  have hK : StpY (true, eb, true) cX6_toldNow RX6 (some .int) (WT (true, eb, true) (d + 2)) P K := hK
  have hM := hK.1
  have hC := hK.1.1
  show K 0 [some (vR 30 0), some (vI 1), none, none] [] σ
  refine r_iconst hC dX6_toldNow_0 rfl ?_
  refine r_istore_n hC dX6_toldNow_1 rfl ?_
  refine r_iconst hC dX6_toldNow_2 rfl ?_
  refine r_istore_n hC dX6_toldNow_3 rfl ?_
  have L4 : ∀ (n4 : Nat) (w1 w2 : Int), -2147483648 ≤ w1 ∧ w1 ≤ 2147483647 → 0 ≤ w2 ∧ w2 ≤ 8 → ((w1) = rgN V ((w2)).toNat) → 8 - w2 < (n4 : Int) → K 4 [some (vR 30 0), some (vI 1), some (vI w1), some (vI w2)] [] σ := by
    intro n4
    induction n4 with
    | zero => intro w1 w2  f_w1 f_w2 i0_4 hm  ; omega
    | succ n4 ih4 =>
      intro w1 w2  f_w1 f_w2 i0_4 hm4  
      refine r_iload_n hC dX6_toldNow_4 rfl ?_
      refine r_bipush hC dX6_toldNow_5 rfl ?_
      refine r_icmp_ge (tgt := 41) hC dX6_toldNow_7 rfl (fun h3 => ?_) (fun h3 => ?_)
      · refine r_iload_n hC dX6_toldNow_41 rfl ?_
        refine y_iret hK rfl dX6_toldNow_42 ?_
        have e_ : (w2).toNat = 8 := by omega
        rw [← e_, ← i0_4] at k
        exact k
      · refine r_aload_n hC dX6_toldNow_10 rfl ?_
        refine r_iload_n hC dX6_toldNow_11 rfl ?_
        refine z_inv1 hM dX6_toldNow_12 vl_RX6_210 rfl rfl rfl (Nat.le_of_ble_eq_true rfl) (Nat.le_of_ble_eq_true rfl) ?_
        refine y_isTold (V := V) ht ⟨hR.1, hR.2.1, hR.2.2⟩ hG (fun h4 => ?_) (fun h4 => ?_)
        · refine r_if_eq (tgt := 35) hC dX6_toldNow_15 rfl (fun h5 => by omega) (fun h5 => ?_)
          refine r_iload_n hC dX6_toldNow_18 rfl ?_
          refine r_iload_n hC dX6_toldNow_19 rfl ?_
          refine r_if_eq (tgt := 32) hC dX6_toldNow_20 rfl (fun h6 => by omega) (fun h6 => ?_)
          refine r_aload_n hC dX6_toldNow_23 rfl ?_
          refine z_getR hM dX6_toldNow_24 fl_RX6_46 rfl rfl (vld_of (n := 1) rfl (by omega) (by omega)) ?_
          refine r_iload_n hC dX6_toldNow_27 rfl ?_
          refine z_iald hM dX6_toldNow_28 rfl (by omega) (by omega) (fun v7 h_v7 o_v7 t_v7 => ?_)
          have w_v7 := ((t_v7 (Or.inl (by simp [Tb]))).trans ((hR.1.w4 (by omega) (by omega)).trans (rfl))).symm
          subst w_v7
          refine r_goto (tgt := 33) hC dX6_toldNow_29 rfl ?_
          refine r_iadd hC dX6_toldNow_33 ?_
          have f8 := inR_le (inR_wr (w1 + (V 12 w2 4)))
          refine r_istore_n hC dX6_toldNow_34 rfl ?_
          refine r_iincE hC ((w2 + 1)) dX6_toldNow_35 rfl rfl (by omega) (by unfold inR; omega) ?_
          refine r_goto (tgt := 4) hC dX6_toldNow_38 rfl ?_
          exact ih4 ((wr (w1 + (V 12 w2 4)))) ((w2 + 1))  (by omega) (by omega) (by first | rfl | (rw [rgN_I (by omega), ← i0_4]; first | (rw [if_pos (by omega)]; done) | (rw [if_neg (by omega)]; done) | (rw [if_pos (by omega)]; omega) | (rw [if_neg (by omega)]; omega) | (split <;> omega))) (by omega)  
        · refine r_if_eq (tgt := 35) hC dX6_toldNow_15 rfl (fun h9 => ?_) (fun h9 => by omega)
          refine r_iincE hC ((w2 + 1)) dX6_toldNow_35 rfl rfl (by omega) (by unfold inR; omega) ?_
          refine r_goto (tgt := 4) hC dX6_toldNow_38 rfl ?_
          exact ih4 (w1) ((w2 + 1))  (by omega) (by omega) (by first | rfl | (rw [rgN_I (by omega), ← i0_4]; first | (rw [if_pos (by omega)]; done) | (rw [if_neg (by omega)]; done) | (rw [if_pos (by omega)]; omega) | (rw [if_neg (by omega)]; omega) | (split <;> omega))) (by omega)  
  exact L4 10 (0) (0)  (by omega) (by omega) (by first | rfl | (rw [rgN_I (by omega), ← i0_4]; first | (rw [if_pos (by omega)]; done) | (rw [if_neg (by omega)]; done) | (rw [if_pos (by omega)]; omega) | (rw [if_neg (by omega)]; omega) | (split <;> omega))) (by omega)  
theorem y_linksNow {eb : Bool} {t : Int} {V : Mm} {d : Nat} {P : Option Vl → Mm → Prop} {σ : Mm}  {σ0 : Mm} (ht : 6 ≤ t ∧ t ≤ 7) (hR : RS t σ0 V σ) (hG : GI V)  (k : P (some (vI (lnN V 4))) σ) : WT (true, eb, true) (d + 1) 259 [vR 30 0] σ P := by
  refine WT_in fun K hK => ?_
  have hK : StpY (true, eb, true) cX6_linksNow RX6 (some .int) (WT (true, eb, true) (d + 0)) P K := hK
  have hM := hK.1
  have hC := hK.1.1
  show K 0 [some (vR 30 0), none, none] [] σ
  have hlkA : ∀ l : Int, 0 ≤ l → l ≤ 3 → V 13 l 0 = -1 ∨ 0 ≤ V 13 l 0 := fun l a b => by
    rcases hG.2.1.2.2.2.2.2.1 l a b with q | q
    · exact Or.inl q
    · exact Or.inr q.2.1.1.1
  refine r_iconst hC dX6_linksNow_0 rfl ?_
  refine r_istore_n hC dX6_linksNow_1 rfl ?_
  refine r_iconst hC dX6_linksNow_2 rfl ?_
  refine r_istore_n hC dX6_linksNow_3 rfl ?_
  have L4 : ∀ (n4 : Nat) (w1 w2 : Int), 0 ≤ w1 ∧ w1 ≤ 4 → 0 ≤ w2 ∧ w2 ≤ 4 → ((w2) = lnN V ((w1)).toNat) → ((w2) ≤ (w1)) → 4 - w1 < (n4 : Int) → K 4 [some (vR 30 0), some (vI w2), some (vI w1)] [] σ := by
    intro n4
    induction n4 with
    | zero => intro w1 w2  f_w1 f_w2 i0_4 i1_4 hm  ; omega
    | succ n4 ih4 =>
      intro w1 w2  f_w1 f_w2 i0_4 i1_4 hm4  
      refine r_iload_n hC dX6_linksNow_4 rfl ?_
      refine r_iconst hC dX6_linksNow_5 rfl ?_
      refine r_icmp_ge (tgt := 32) hC dX6_linksNow_6 rfl (fun h3 => ?_) (fun h3 => ?_)
      · refine r_iload_n hC dX6_linksNow_32 rfl ?_
        refine y_iret hK rfl dX6_linksNow_33 ?_
        have e_ : (w1).toNat = 4 := by omega
        rw [← e_, ← i0_4] at k
        exact k
      · refine r_iload_n hC dX6_linksNow_9 rfl ?_
        refine r_aload_n hC dX6_linksNow_10 rfl ?_
        refine z_getR hM dX6_linksNow_11 fl_RX6_52 rfl rfl (vld_of (n := 1) rfl (by omega) (by omega)) ?_
        refine r_iload_n hC dX6_linksNow_14 rfl ?_
        refine z_iald hM dX6_linksNow_15 rfl (by omega) (by omega) (fun v4 h_v4 o_v4 t_v4 => ?_)
        have w_v4 := ((t_v4 (Or.inl (by simp [Tb]))).trans ((hR.1.k0 (by omega) (by omega)).trans (rfl))).symm
        subst w_v4
        have q_v4 : -1 ≤ (V 13 w1 0) ∧ (V 13 w1 0) ≤ 3 := o_v4
        have hA_ := hlkA w1 (by omega) (by omega)
        refine r_if_lt (tgt := 23) hC dX6_linksNow_16 rfl (fun h5 => ?_) (fun h5 => ?_)
        · refine r_iconst hC dX6_linksNow_23 rfl ?_
          refine r_iaddE hC (w2) dX6_linksNow_24 (by omega) (by unfold inR; omega) ?_
          refine r_istore_n hC dX6_linksNow_25 rfl ?_
          refine r_iincE hC ((w1 + 1)) dX6_linksNow_26 rfl rfl (by omega) (by unfold inR; omega) ?_
          refine r_goto (tgt := 4) hC dX6_linksNow_29 rfl ?_
          exact ih4 ((w1 + 1)) (w2)  (by omega) (by omega) (by first | rfl | (rw [lnN_I (by omega), ← i0_4]; first | (rw [if_pos (by omega)]; done) | (rw [if_neg (by omega)]; done) | (rw [if_pos (by omega)]; omega) | (rw [if_neg (by omega)]; omega) | (split <;> omega))) (by omega) (by omega)  
        · refine r_iconst hC dX6_linksNow_19 rfl ?_
          refine r_goto (tgt := 24) hC dX6_linksNow_20 rfl ?_
          refine r_iaddE hC ((w2 + 1)) dX6_linksNow_24 (by omega) (by unfold inR; omega) ?_
          refine r_istore_n hC dX6_linksNow_25 rfl ?_
          refine r_iincE hC ((w1 + 1)) dX6_linksNow_26 rfl rfl (by omega) (by unfold inR; omega) ?_
          refine r_goto (tgt := 4) hC dX6_linksNow_29 rfl ?_
          exact ih4 ((w1 + 1)) ((w2 + 1))  (by omega) (by omega) (by first | rfl | (rw [lnN_I (by omega), ← i0_4]; first | (rw [if_pos (by omega)]; done) | (rw [if_neg (by omega)]; done) | (rw [if_pos (by omega)]; omega) | (rw [if_neg (by omega)]; omega) | (split <;> omega))) (by omega) (by omega)  
  exact L4 6 (0) (0)  (by omega) (by omega) (by first | rfl | (rw [lnN_I (by omega), ← i0_4]; first | (rw [if_pos (by omega)]; done) | (rw [if_neg (by omega)]; done) | (rw [if_pos (by omega)]; omega) | (rw [if_neg (by omega)]; omega) | (split <;> omega))) (by omega) (by omega)  
theorem y_about {eb : Bool} {t : Int} {V : Mm} {d : Nat} {P : Option Vl → Mm → Prop} {σ : Mm} {w : Int}  {σ0 : Mm} (ht : 6 ≤ t ∧ t ≤ 7) (hR : RS t σ0 V σ) (hG : GI V)  (k : ∀ ρ : Mm, RS t σ0 V ρ → P (some (vI (abR V w))) ρ) : WT (true, eb, true) (d + 4) 260 [vR 30 0, vI w] σ P := by
  refine WT_in fun K hK => ?_
  have hK : StpY (true, eb, true) cX6_about RX6 (some .int) (WT (true, eb, true) (d + 3)) P K := hK
  have hM := hK.1
  have hC := hK.1.1
  show K 0 [some (vR 30 0), some (vI w)] [] σ
  refine r_rngz hC (fun g0 => ?_)
  have r_w : -2147483648 ≤ w ∧ w ≤ 2147483647 := inR_le (g0 (vI w) (by simp))
  refine r_iload_n hC dX6_about_0 rfl ?_
  rcases (by omega : (w < 0 ∨ 6 < w) ∨ w = 0 ∨ w = 1 ∨ w = 2 ∨ w = 3 ∨ w = 4 ∨ w = 5 ∨ w = 6) with h1 | h1 | h1 | h1 | h1 | h1 | h1 | h1
  · refine r_tableOut (tgt := 84) hC dX6_about_1 h1 rfl ?_
    refine r_iconst hC dX6_about_84 rfl ?_
    refine y_iret hK rfl dX6_about_85 ?_
    have hRr : abR V w = (-1) := by
      unfold abR
      (repeat' split) <;> first | rfl | omega
    rw [hRr] at k
    exact k _ ⟨hR.1, hR.2.1, hR.2.2⟩
  · refine r_tableIn (tgt := 44) (off := 43) hC dX6_about_1 (by omega) (by omega) (by rw [h1]; rfl) rfl ?_
    refine r_aload_n hC dX6_about_44 rfl ?_
    refine z_inv0 hM dX6_about_45 vl_RX6_182 rfl rfl rfl (Nat.le_of_ble_eq_true rfl) (Nat.le_of_ble_eq_true rfl) ?_
    refine y_openLanes (V := V) ht ⟨hR.1, hR.2.1, hR.2.2⟩ ?_
    refine y_iret hK rfl dX6_about_48 ?_
    have hRr : abR V w = (cntO V) := by
      unfold abR
      (repeat' split) <;> first | rfl | omega
    rw [hRr] at k
    exact k _ ⟨hR.1, hR.2.1, hR.2.2⟩
  · refine r_tableIn (tgt := 49) (off := 48) hC dX6_about_1 (by omega) (by omega) (by rw [h1]; rfl) rfl ?_
    refine r_aload_n hC dX6_about_49 rfl ?_
    refine r_iconst hC dX6_about_50 rfl ?_
    refine z_inv1 hM dX6_about_51 vl_RX6_307 rfl rfl rfl (Nat.le_of_ble_eq_true rfl) (Nat.le_of_ble_eq_true rfl) ?_
    refine y_sumHeld (V := V) ht ⟨hR.1, hR.2.1, hR.2.2⟩ hG ?_
    refine y_iret hK rfl dX6_about_54 ?_
    have hRr : abR V w = (htN V 4) := by
      unfold abR
      (repeat' split) <;> first | rfl | omega
    rw [hRr] at k
    exact k _ ⟨hR.1, hR.2.1, hR.2.2⟩
  · refine r_tableIn (tgt := 55) (off := 54) hC dX6_about_1 (by omega) (by omega) (by rw [h1]; rfl) rfl ?_
    refine r_aload_n hC dX6_about_55 rfl ?_
    refine r_bipush hC dX6_about_56 rfl ?_
    refine z_inv1 hM dX6_about_58 vl_RX6_307 rfl rfl rfl (Nat.le_of_ble_eq_true rfl) (Nat.le_of_ble_eq_true rfl) ?_
    refine y_sumSpent (V := V) ht ⟨hR.1, hR.2.1, hR.2.2⟩ hG ?_
    refine y_iret hK rfl dX6_about_61 ?_
    have hRr : abR V w = (spN V 4) := by
      unfold abR
      (repeat' split) <;> first | rfl | omega
    rw [hRr] at k
    exact k _ ⟨hR.1, hR.2.1, hR.2.2⟩
  · refine r_tableIn (tgt := 62) (off := 61) hC dX6_about_1 (by omega) (by omega) (by rw [h1]; rfl) rfl ?_
    refine r_aload_n hC dX6_about_62 rfl ?_
    refine r_iconst hC dX6_about_63 rfl ?_
    refine z_inv1 hM dX6_about_64 vl_RX6_310 rfl rfl rfl (Nat.le_of_ble_eq_true rfl) (Nat.le_of_ble_eq_true rfl) ?_
    refine y_toldPlain (V := V) ht ⟨hR.1, hR.2.1, hR.2.2⟩ hG ?_
    refine y_iret hK rfl dX6_about_67 ?_
    have hRr : abR V w = (wcN V 8) := by
      unfold abR
      (repeat' split) <;> first | rfl | omega
    rw [hRr] at k
    exact k _ ⟨hR.1, hR.2.1, hR.2.2⟩
  · refine r_tableIn (tgt := 68) (off := 67) hC dX6_about_1 (by omega) (by omega) (by rw [h1]; rfl) rfl ?_
    refine r_aload_n hC dX6_about_68 rfl ?_
    refine z_inv0 hM dX6_about_69 vl_RX6_314 rfl rfl rfl (Nat.le_of_ble_eq_true rfl) (Nat.le_of_ble_eq_true rfl) ?_
    refine y_boxesNow (V := V) ht ⟨hR.1, hR.2.1, hR.2.2⟩ hG ?_
    refine y_iret hK rfl dX6_about_72 ?_
    have hRr : abR V w = (bxN V 3) := by
      unfold abR
      (repeat' split) <;> first | rfl | omega
    rw [hRr] at k
    exact k _ ⟨hR.1, hR.2.1, hR.2.2⟩
  · refine r_tableIn (tgt := 73) (off := 72) hC dX6_about_1 (by omega) (by omega) (by rw [h1]; rfl) rfl ?_
    refine r_aload_n hC dX6_about_73 rfl ?_
    refine r_iconst hC dX6_about_74 rfl ?_
    refine z_inv1 hM dX6_about_75 vl_RX6_310 rfl rfl rfl (Nat.le_of_ble_eq_true rfl) (Nat.le_of_ble_eq_true rfl) ?_
    refine y_toldRings (V := V) ht ⟨hR.1, hR.2.1, hR.2.2⟩ hG ?_
    refine y_iret hK rfl dX6_about_78 ?_
    have hRr : abR V w = (rgN V 8) := by
      unfold abR
      (repeat' split) <;> first | rfl | omega
    rw [hRr] at k
    exact k _ ⟨hR.1, hR.2.1, hR.2.2⟩
  · refine r_tableIn (tgt := 79) (off := 78) hC dX6_about_1 (by omega) (by omega) (by rw [h1]; rfl) rfl ?_
    refine r_aload_n hC dX6_about_79 rfl ?_
    refine z_inv0 hM dX6_about_80 vl_RX6_317 rfl rfl rfl (Nat.le_of_ble_eq_true rfl) (Nat.le_of_ble_eq_true rfl) ?_
    refine y_linksNow (V := V) ht ⟨hR.1, hR.2.1, hR.2.2⟩ hG ?_
    refine y_iret hK rfl dX6_about_83 ?_
    have hRr : abR V w = (lnN V 4) := by
      unfold abR
      (repeat' split) <;> first | rfl | omega
    rw [hRr] at k
    exact k _ ⟨hR.1, hR.2.1, hR.2.2⟩
