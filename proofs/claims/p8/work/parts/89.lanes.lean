-- B: the reference: LANES read and written
theorem y_of {e : Ev} {d : Nat} {P : Option Vl → Mm → Prop} {σ : Mm} {l f : Int} (b_l : 0 ≤ l ∧ l ≤ 7) (b_f : 0 ≤ f ∧ f ≤ 21) (hf : f ≠ 7 ∧ (f = 21 → 4 ≤ l ∧ l ≤ 6))  (k : Okv 31 (22 * l + f) (σ 31 0 (22 * l + f)) → P (some (vI (σ 31 0 (22 * l + f)))) σ) : WT e (d + 1) 138 [vR 30 0, vI l, vI f] σ P := by
  refine WT_in fun K hK => ?_
  have hK : StpY e cX6_of RX6 (some .int) (WT e (d + 0)) P K := hK
  have hM := hK.1
  have hC := hK.1.1
  show K 0 [some (vR 30 0), some (vI l), some (vI f)] [] σ
  refine r_aload_n hC dX6_of_0 rfl ?_
  refine z_getR hM dX6_of_1 fl_RX6_7 rfl rfl (vld_of (n := 1) rfl (by omega) (by omega)) ?_
  refine r_bipush hC dX6_of_4 rfl ?_
  refine r_iload_n hC dX6_of_6 rfl ?_
  refine r_imulE hC ((22 * l)) dX6_of_7 (by omega) (by unfold inR; omega) ?_
  refine r_iload_n hC dX6_of_8 rfl ?_
  refine r_iaddE hC (((22 * l) + f)) dX6_of_9 (by omega) (by unfold inR; omega) ?_
  refine z_iald hM dX6_of_10 rfl (by omega) (by omega) (fun v1 h_v1 o_v1 t_v1 => ?_)
  have w_v1 := (t_v1 (Or.inl (by simp only [Tb]; omega))).symm
  subst w_v1
  refine y_iret hK rfl dX6_of_11 ?_
  exact k o_v1
theorem y_set {eb ec : Bool} {d : Nat} {P : Option Vl → Mm → Prop} {σ : Mm} {l f v : Int} (b_l : 0 ≤ l ∧ l ≤ 7) (b_f : 0 ≤ f ∧ f ≤ 21) (ho : (f = 5 → 0 ≤ v ∧ v ≤ 121) ∧ (f = 0 → v = 0 ∨ v = 1))  (k : P none (mu σ 31 0 (22 * l + f) v)) : WT (true, eb, ec) (d + 1) 139 [vR 30 0, vI l, vI f, vI v] σ P := by
  refine WT_in fun K hK => ?_
  have hK : StpY (true, eb, ec) cX6_set RX6 (none) (WT (true, eb, ec) (d + 0)) P K := hK
  have hM := hK.1
  have hC := hK.1.1
  show K 0 [some (vR 30 0), some (vI l), some (vI f), some (vI v)] [] σ
  refine r_rngz hC (fun g0 => ?_)
  have r_v : -2147483648 ≤ v ∧ v ≤ 2147483647 := inR_le (g0 (vI v) (by simp))
  refine r_aload_n hC dX6_set_0 rfl ?_
  refine z_getR hM dX6_set_1 fl_RX6_7 rfl rfl (vld_of (n := 1) rfl (by omega) (by omega)) ?_
  refine r_bipush hC dX6_set_4 rfl ?_
  refine r_iload_n hC dX6_set_6 rfl ?_
  refine r_imulE hC ((22 * l)) dX6_set_7 (by omega) (by unfold inR; omega) ?_
  refine r_iload_n hC dX6_set_8 rfl ?_
  refine r_iaddE hC (((22 * l) + f)) dX6_set_9 (by omega) (by unfold inR; omega) ?_
  refine r_iload_n hC dX6_set_10 rfl ?_
  refine z_iastT hM dX6_set_11 rfl (by omega) (by omega) ⟨Or.inl rfl, Or.inr (by simp [DF])⟩ ⟨fun h => by have := ho.1 (by omega); omega, fun h => by have := ho.2 (by omega); omega⟩ ?_
  refine y_vret hK rfl dX6_set_12 ?_
  exact k
theorem y_moreW {eb ec : Bool} {a : Int} {d : Nat} {P : Option Vl → Mm → Prop} {σ : Mm} {l f v : Int} (b_l : 0 ≤ l ∧ l ≤ 7) (b_f : 0 ≤ f ∧ f ≤ 21) (ho : (f = 5 → 0 ≤ wr (a + v) ∧ wr (a + v) ≤ 121) ∧ f ≠ 0) (hq : σ 31 0 (22 * l + f) = a) (hf : f ≠ 7 ∧ (f = 21 → 4 ≤ l ∧ l ≤ 6))  (k : P none (mu σ 31 0 (22 * l + f) (wr (a + v)))) : WT (true, eb, ec) (d + 1) 140 [vR 30 0, vI l, vI f, vI v] σ P := by
  refine WT_in fun K hK => ?_
  have hK : StpY (true, eb, ec) cX6_more RX6 (none) (WT (true, eb, ec) (d + 0)) P K := hK
  have hM := hK.1
  have hC := hK.1.1
  show K 0 [some (vR 30 0), some (vI l), some (vI f), some (vI v)] [] σ
  refine r_rngz hC (fun g0 => ?_)
  have r_v : -2147483648 ≤ v ∧ v ≤ 2147483647 := inR_le (g0 (vI v) (by simp))
  refine r_aload_n hC dX6_more_0 rfl ?_
  refine z_getR hM dX6_more_1 fl_RX6_7 rfl rfl (vld_of (n := 1) rfl (by omega) (by omega)) ?_
  refine r_bipush hC dX6_more_4 rfl ?_
  refine r_iload_n hC dX6_more_6 rfl ?_
  refine r_imulE hC ((22 * l)) dX6_more_7 (by omega) (by unfold inR; omega) ?_
  refine r_iload_n hC dX6_more_8 rfl ?_
  refine r_iaddE hC (((22 * l) + f)) dX6_more_9 (by omega) (by unfold inR; omega) ?_
  refine r_dup2 hC dX6_more_10 rfl rfl ?_
  refine z_iald hM dX6_more_11 rfl (by omega) (by omega) (fun v1 h_v1 o_v1 t_v1 => ?_)
  have w_v1 := ((t_v1 (Or.inl (by simp only [Tb]; omega))).trans hq).symm
  subst w_v1
  refine r_iload_n hC dX6_more_12 rfl ?_
  refine r_iadd hC dX6_more_13 ?_
  have f2 := inR_le (inR_wr (a + v))
  refine z_iastT hM dX6_more_14 rfl (by omega) (by omega) ⟨Or.inl rfl, Or.inr (by simp [DF])⟩ ⟨fun h => by have := ho.1 (by omega); omega, fun h => by have := ho.2 (by omega); omega⟩ ?_
  refine y_vret hK rfl dX6_more_15 ?_
  exact k
theorem y_moreE {eb ec : Bool} {a : Int} {d : Nat} {P : Option Vl → Mm → Prop} {σ : Mm} {l f v : Int} (b_l : 0 ≤ l ∧ l ≤ 7) (b_f : 0 ≤ f ∧ f ≤ 21) (hr : -2147483648 ≤ a + v ∧ a + v ≤ 2147483647) (ho : (f = 5 → 0 ≤ a + v ∧ a + v ≤ 121) ∧ f ≠ 0) (hq : σ 31 0 (22 * l + f) = a) (hf : f ≠ 7 ∧ (f = 21 → 4 ≤ l ∧ l ≤ 6)) (k : P none (mu σ 31 0 (22 * l + f) (a + v))) : WT (true, eb, ec) (d + 1) 140 [vR 30 0, vI l, vI f, vI v] σ P := by
  have e : wr (a + v) = a + v := wr_id ⟨hr.1, by omega⟩
  refine y_moreW b_l b_f (by rw [e]; exact ho) hq hf ?_
  rw [e]
  exact k
theorem y_moreG {eb ec : Bool} {d : Nat} {P : Option Vl → Mm → Prop} {σ : Mm} {l v : Int} (b_l : 0 ≤ l ∧ l ≤ 7)  (k : P none σ) : WT (true, eb, ec) (d + 1) 140 [vR 30 0, vI l, vI 7, vI v] σ P := by
  refine WT_in fun K hK => ?_
  have hK : StpY (true, eb, ec) cX6_more RX6 (none) (WT (true, eb, ec) (d + 0)) P K := hK
  have hM := hK.1
  have hC := hK.1.1
  show K 0 [some (vR 30 0), some (vI l), some (vI 7), some (vI v)] [] σ
  refine r_rngz hC (fun g0 => ?_)
  have r_v : -2147483648 ≤ v ∧ v ≤ 2147483647 := inR_le (g0 (vI v) (by simp))
  refine r_aload_n hC dX6_more_0 rfl ?_
  refine z_getR hM dX6_more_1 fl_RX6_7 rfl rfl (vld_of (n := 1) rfl (by omega) (by omega)) ?_
  refine r_bipush hC dX6_more_4 rfl ?_
  refine r_iload_n hC dX6_more_6 rfl ?_
  refine r_imulE hC ((22 * l)) dX6_more_7 (by omega) (by unfold inR; omega) ?_
  refine r_iload_n hC dX6_more_8 rfl ?_
  refine r_iaddE hC (((22 * l) + 7)) dX6_more_9 (by omega) (by unfold inR; omega) ?_
  refine r_dup2 hC dX6_more_10 rfl rfl ?_
  refine z_iald hM dX6_more_11 rfl (by omega) (by omega) (fun vg h_vg o_vg t_vg => ?_)
  refine r_iload_n hC dX6_more_12 rfl ?_
  refine r_iadd hC dX6_more_13 ?_
  have f1 := inR_le (inR_wr (vg + v))
  refine z_iastU hM dX6_more_14 rfl (by omega) (by omega) ⟨by simp only [Tb]; omega, by simp only [DL]; omega, by simp [DF], Or.inr (by simp [DR]), Or.inr (by simp [DX])⟩ ⟨fun h => by omega, fun h => by omega⟩ ?_
  refine y_vret hK rfl dX6_more_15 ?_
  exact k
theorem y_heldOf {e : Ev} {d : Nat} {P : Option Vl → Mm → Prop} {σ : Mm} {l : Int} (b_l : 0 ≤ l ∧ l ≤ 7)  (k : Okv 31 (22 * l + 5) (σ 31 0 (22 * l + 5)) → P (some (vI (σ 31 0 (22 * l + 5)))) σ) : WT e (d + 2) 141 [vR 30 0, vI l] σ P := by
  refine WT_in fun K hK => ?_
  have hK : StpY e cX6_heldOf RX6 (some .int) (WT e (d + 1)) P K := hK
  have hM := hK.1
  have hC := hK.1.1
  show K 0 [some (vR 30 0), some (vI l)] [] σ
  refine r_aload_n hC dX6_heldOf_0 rfl ?_
  refine r_iload_n hC dX6_heldOf_1 rfl ?_
  refine r_iconst hC dX6_heldOf_2 rfl ?_
  refine z_inv2 hM dX6_heldOf_3 vl_RX6_80 rfl rfl rfl (Nat.le_of_ble_eq_true rfl) (Nat.le_of_ble_eq_true rfl) ?_
  refine y_of (by omega) (by omega) (by omega) (fun oo => ?_)
  refine y_iret hK rfl dX6_heldOf_6 ?_
  exact k oo
theorem y_placeOf {eb : Bool} {t : Int} {V : Mm} {d : Nat} {P : Option Vl → Mm → Prop} {σ : Mm} {l z : Int} (b_l : 0 ≤ l ∧ l ≤ 7) {σ0 : Mm} (ht : 6 ≤ t ∧ t ≤ 7) (hR : RS t σ0 V σ) (hl : l ≤ t) (hs : So (V 8 l) (V 7 l 6)) (h6 : 0 ≤ V 7 l 6 ∧ V 7 l 6 ≤ 121)  (k : 0 ≤ hU V l z ∧ hU V l z ≤ V 7 l 6 → P (some (vI (hU V l z))) σ) : WT (true, eb, true) (d + 3) 191 [vR 30 0, vI l, vI z] σ P := by
  refine WT_in fun K hK => ?_
  have hK : StpY (true, eb, true) cX6_placeOf RX6 (some .int) (WT (true, eb, true) (d + 2)) P K := hK
  have hM := hK.1
  have hC := hK.1.1
  show K 0 [some (vR 30 0), some (vI l), some (vI z), none] [] σ
  refine r_rngz hC (fun g0 => ?_)
  have r_z : -2147483648 ≤ z ∧ z ≤ 2147483647 := inR_le (g0 (vI z) (by simp))
  refine r_iconst hC dX6_placeOf_0 rfl ?_
  refine r_istore_n hC dX6_placeOf_1 rfl ?_
  have L2 : ∀ (n2 : Nat) (w1 : Int), 0 ≤ w1 ∧ w1 ≤ 121 → ((w1) ≤ V 7 l 6) → (∀ j : Int, 0 ≤ j → j < (w1) → V 8 l j ≤ z) → 121 - w1 < (n2 : Int) → K 2 [some (vR 30 0), some (vI l), some (vI z), some (vI w1)] [] σ := by
    intro n2
    induction n2 with
    | zero => intro w1  f_w1 i0_2 i1_2 hm  ; omega
    | succ n2 ih2 =>
      intro w1  f_w1 i0_2 i1_2 hm2  
      refine r_iload_n hC dX6_placeOf_2 rfl ?_
      refine r_aload_n hC dX6_placeOf_3 rfl ?_
      refine r_iload_n hC dX6_placeOf_4 rfl ?_
      refine z_inv1 hM dX6_placeOf_5 vl_RX6_116 rfl rfl rfl (Nat.le_of_ble_eq_true rfl) (Nat.le_of_ble_eq_true rfl) ?_
      refine y_heldOf (by omega) (fun o2 => ?_)
      have e3 : σ 31 0 (22 * l + 5) = (V 7 l 6) := (hR.1.a7 (s := 6) (f := 5) (by omega) (by omega) (by omega)).trans (rfl)
      rw [e3] at o2 ⊢
      have qo2 : 0 ≤ (V 7 l 6) ∧ (V 7 l 6) ≤ 121 := o2.1 (by omega)
      refine r_icmp_ge (tgt := 32) hC dX6_placeOf_8 rfl (fun h4 => ?_) (fun h4 => ?_)
      · refine r_iload_n hC dX6_placeOf_32 rfl ?_
        refine y_iret hK rfl dX6_placeOf_33 ?_
        have hv : hU V l z = w1 := hc_up hs (by omega) (by omega) i1_2 (by omega)
        have hb := hU_b (V := V) (i := l) (t := z) (by omega)
        rw [hv] at k hb
        exact k hb
      · refine r_aload_n hC dX6_placeOf_11 rfl ?_
        refine z_getR hM dX6_placeOf_12 fl_RX6_13 rfl rfl (vld_of (n := 1) rfl (by omega) (by omega)) ?_
        refine r_bipush hC dX6_placeOf_15 rfl ?_
        refine r_iload_n hC dX6_placeOf_17 rfl ?_
        refine r_imulE hC ((121 * l)) dX6_placeOf_18 (by omega) (by unfold inR; omega) ?_
        refine r_iload_n hC dX6_placeOf_19 rfl ?_
        refine r_iaddE hC (((121 * l) + w1)) dX6_placeOf_20 (by omega) (by unfold inR; omega) ?_
        refine z_iald hM dX6_placeOf_21 rfl (by omega) (by omega) (fun v5 h_v5 o_v5 t_v5 => ?_)
        have w_v5 := ((t_v5 (Or.inl trivial)).trans ((show σ 32 0 ((121 * l) + w1) = V 8 l w1 from by rw [show ((121 * l) + w1) = 121 * l + w1 from by omega]; exact hR.1.a8 (y := w1) (by omega) (by omega) (by omega) (by omega)).trans (rfl))).symm
        subst w_v5
        refine r_iload_n hC dX6_placeOf_22 rfl ?_
        refine r_icmp_gt (tgt := 32) hC dX6_placeOf_23 rfl (fun h6 => ?_) (fun h6 => ?_)
        · refine r_iload_n hC dX6_placeOf_32 rfl ?_
          refine y_iret hK rfl dX6_placeOf_33 ?_
          have hv : hU V l z = w1 := hc_up hs (by omega) (by omega) i1_2 (by omega)
          have hb := hU_b (V := V) (i := l) (t := z) (by omega)
          rw [hv] at k hb
          exact k hb
        · refine r_iincE hC ((w1 + 1)) dX6_placeOf_26 rfl rfl (by omega) (by unfold inR; omega) ?_
          refine r_goto (tgt := 2) hC dX6_placeOf_29 rfl ?_
          exact ih2 ((w1 + 1))  (by omega) (by omega) (by first | (intro j h0 h1; omega) | (intro j h0 h1; rcases (by omega : j < w1 ∨ j = w1) with h | h; exact i1_2 j h0 h; subst h; omega)) (by omega)  
  exact L2 123 (0)  (by omega) (by omega) (by first | (intro j h0 h1; omega) | (intro j h0 h1; rcases (by omega : j < w1 ∨ j = w1) with h | h; exact i1_2 j h0 h; subst h; omega)) (by omega)  
theorem y_copyEvent {eb : Bool} {t : Int} {V : Mm} {d : Nat} {P : Option Vl → Mm → Prop} {σ : Mm} {i z : Int} (b_i : 0 ≤ i ∧ i ≤ 967) (b_z : 0 ≤ z ∧ z ≤ 967) {l a m b : Int} {σ0 : Mm} (ht : 6 ≤ t ∧ t ≤ 7) (hR : RS t σ0 V σ) (hl : 0 ≤ l ∧ l ≤ t) (hm : 0 ≤ m ∧ m ≤ t) (ha : 0 ≤ a ∧ a ≤ 120) (hb : 0 ≤ b ∧ b ≤ 120) (hi : i = 121 * l + a) (hz : z = 121 * m + b)  (k : ∀ ρ : Mm, RS t σ0 (ceM V l a m b) ρ → P none ρ) : WT (true, eb, true) (d + 1) 190 [vR 30 0, vI i, vI z] σ P := by
  refine WT_in fun K hK => ?_
  have hK : StpY (true, eb, true) cX6_copyEvent RX6 (none) (WT (true, eb, true) (d + 0)) P K := hK
  have hM := hK.1
  have hC := hK.1.1
  show K 0 [some (vR 30 0), some (vI i), some (vI z)] [] σ
  refine r_aload_n hC dX6_copyEvent_0 rfl ?_
  refine z_getR hM dX6_copyEvent_1 fl_RX6_13 rfl rfl (vld_of (n := 1) rfl (by omega) (by omega)) ?_
  refine r_iload_n hC dX6_copyEvent_4 rfl ?_
  refine r_aload_n hC dX6_copyEvent_5 rfl ?_
  refine z_getR hM dX6_copyEvent_6 fl_RX6_13 rfl rfl (vld_of (n := 1) rfl (by omega) (by omega)) ?_
  refine r_iload_n hC dX6_copyEvent_9 rfl ?_
  refine z_iald hM dX6_copyEvent_10 rfl (by omega) (by omega) (fun v1 h_v1 o_v1 t_v1 => ?_)
  have w_v1 := ((t_v1 (Or.inl trivial)).trans ((show σ 32 0 i = V 8 l a from by rw [show i = 121 * l + a from by omega]; exact hR.1.a8 (y := a) (by omega) (by omega) (by omega) (by omega)).trans (rfl))).symm
  subst w_v1
  refine z_iastT hM dX6_copyEvent_11 rfl (by omega) (by omega) ⟨Or.inr (by simp [DL]), Or.inr (by simp [DF])⟩ (by first | trivial | (simp only [Okv]; omega) | (simp [Okv]; try omega)) ?_
  obtain ⟨ρ2, e_ρ2⟩ : ∃ zz_, zz_ = mu σ 32 0 z (V 8 l a) := ⟨_, rfl⟩
  rw [← e_ρ2]
  have Sρ2 : SB t σ0 (mu V 8 m b (V 8 l a)) ρ2 := by rw [e_ρ2, show z = 121 * m + b from by omega]; exact hR.1.p8 (by omega) (by omega) (by omega) (by omega)
  have Kρ2 : KF t (mu V 8 m b (V 8 l a)) ρ2 := by rw [e_ρ2]; exact (hR.2.1).e (fun l a b => ⟨mu_ne (by omega), mu_ne (by omega)⟩) |>.v (fun l => mu_ne (by omega))
  have Fρ2 : FB (mu V 8 m b (V 8 l a)) ρ2 := by rw [e_ρ2]; exact (hR.2.2).e (fun l a b => mu_ne (by omega)) |>.v (fun l y a b c => mu_ne (by omega))
  refine r_aload_n hC dX6_copyEvent_12 rfl ?_
  refine z_getR hM dX6_copyEvent_13 fl_RX6_16 rfl rfl (vld_of (n := 1) rfl (by omega) (by omega)) ?_
  refine r_iload_n hC dX6_copyEvent_16 rfl ?_
  refine r_aload_n hC dX6_copyEvent_17 rfl ?_
  refine z_getR hM dX6_copyEvent_18 fl_RX6_16 rfl rfl (vld_of (n := 1) rfl (by omega) (by omega)) ?_
  refine r_iload_n hC dX6_copyEvent_21 rfl ?_
  refine z_iald hM dX6_copyEvent_22 rfl (by omega) (by omega) (fun v3 h_v3 o_v3 t_v3 => ?_)
  have w_v3 := ((t_v3 (Or.inl trivial)).trans ((show ρ2 33 0 i = (mu V 8 m b (V 8 l a)) 9 l a from by rw [show i = 121 * l + a from by omega]; exact Sρ2.a9 (y := a) (by omega) (by omega) (by omega) (by omega)).trans ((mu_ne (by omega)).trans (rfl)))).symm
  subst w_v3
  have q_v3 : -1000 ≤ (V 9 l a) ∧ (V 9 l a) ≤ 1000 := o_v3
  refine z_iastT hM dX6_copyEvent_23 rfl (by omega) (by omega) ⟨Or.inr (by simp [DL]), Or.inr (by simp [DF])⟩ (by first | trivial | (simp only [Okv]; omega) | (simp [Okv]; try omega)) ?_
  obtain ⟨ρ4, e_ρ4⟩ : ∃ zz_, zz_ = mu ρ2 33 0 z (V 9 l a) := ⟨_, rfl⟩
  rw [← e_ρ4]
  have Sρ4 : SB t σ0 (mu (mu V 8 m b (V 8 l a)) 9 m b (V 9 l a)) ρ4 := by rw [e_ρ4, show z = 121 * m + b from by omega]; exact Sρ2.p9 (by omega) (by omega) (by omega) (by omega)
  have Kρ4 : KF t (mu (mu V 8 m b (V 8 l a)) 9 m b (V 9 l a)) ρ4 := by rw [e_ρ4]; exact (Kρ2).e (fun l a b => ⟨mu_ne (by omega), mu_ne (by omega)⟩) |>.v (fun l => mu_ne (by omega))
  have Fρ4 : FB (mu (mu V 8 m b (V 8 l a)) 9 m b (V 9 l a)) ρ4 := by rw [e_ρ4]; exact (Fρ2).e (fun l a b => mu_ne (by omega)) |>.v (fun l y a b c => mu_ne (by omega))
  refine r_aload_n hC dX6_copyEvent_24 rfl ?_
  refine z_getR hM dX6_copyEvent_25 fl_RX6_19 rfl rfl (vld_of (n := 1) rfl (by omega) (by omega)) ?_
  refine r_iload_n hC dX6_copyEvent_28 rfl ?_
  refine r_aload_n hC dX6_copyEvent_29 rfl ?_
  refine z_getR hM dX6_copyEvent_30 fl_RX6_19 rfl rfl (vld_of (n := 1) rfl (by omega) (by omega)) ?_
  refine r_iload_n hC dX6_copyEvent_33 rfl ?_
  refine z_iald hM dX6_copyEvent_34 rfl (by omega) (by omega) (fun v5 h_v5 o_v5 t_v5 => ?_)
  have w_v5 := ((t_v5 (Or.inl trivial)).trans ((show ρ4 34 0 i = (mu (mu V 8 m b (V 8 l a)) 9 m b (V 9 l a)) 10 l a from by rw [show i = 121 * l + a from by omega]; exact Sρ4.a10 (y := a) (by omega) (by omega) (by omega) (by omega)).trans ((mu_ne (by omega)).trans ((mu_ne (by omega)).trans (rfl))))).symm
  subst w_v5
  refine z_iastT hM dX6_copyEvent_35 rfl (by omega) (by omega) ⟨Or.inr (by simp [DL]), Or.inr (by simp [DF])⟩ (by first | trivial | (simp only [Okv]; omega) | (simp [Okv]; try omega)) ?_
  obtain ⟨ρ6, e_ρ6⟩ : ∃ zz_, zz_ = mu ρ4 34 0 z (V 10 l a) := ⟨_, rfl⟩
  rw [← e_ρ6]
  have Sρ6 : SB t σ0 (mu (mu (mu V 8 m b (V 8 l a)) 9 m b (V 9 l a)) 10 m b (V 10 l a)) ρ6 := by rw [e_ρ6, show z = 121 * m + b from by omega]; exact Sρ4.p10 (by omega) (by omega) (by omega) (by omega)
  have Kρ6 : KF t (mu (mu (mu V 8 m b (V 8 l a)) 9 m b (V 9 l a)) 10 m b (V 10 l a)) ρ6 := by rw [e_ρ6]; exact (Kρ4).e (fun l a b => ⟨mu_ne (by omega), mu_ne (by omega)⟩) |>.v (fun l => mu_ne (by omega))
  have Fρ6 : FB (mu (mu (mu V 8 m b (V 8 l a)) 9 m b (V 9 l a)) 10 m b (V 10 l a)) ρ6 := by rw [e_ρ6]; exact (Fρ4).e (fun l a b => mu_ne (by omega)) |>.v (fun l y a b c => mu_ne (by omega))
  refine y_vret hK rfl dX6_copyEvent_36 ?_
  exact k _ ⟨Sρ6, Kρ6, Fρ6⟩
