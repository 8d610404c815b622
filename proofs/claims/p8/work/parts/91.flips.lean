-- B: the reference: shifts, FLIPS
theorem y_shiftUp {eb : Bool} {t : Int} {V : Mm} {d : Nat} {P : Option Vl → Mm → Prop} {σ : Mm} {l f : Int} (b_l : 0 ≤ l ∧ l ≤ 7) (b_f : 0 ≤ f ∧ f ≤ 120) {σ0 : Mm} (ht : 6 ≤ t ∧ t ≤ 7) (hR : RS t σ0 V σ) (hl : l ≤ t) (h6 : 0 ≤ V 7 l 6 ∧ V 7 l 6 ≤ 120) (hf : f ≤ V 7 l 6)  (k : ∀ ρ : Mm, RS t σ0 (suM V l f (V 7 l 6)) ρ → P none ρ) : WT (true, eb, true) (d + 3) 189 [vR 30 0, vI l, vI f, vI 1] σ P := by
  refine WT_in fun K hK => ?_
  have hK : StpY (true, eb, true) cX6_shift RX6 (none) (WT (true, eb, true) (d + 2)) P K := hK
  have hM := hK.1
  have hC := hK.1.1
  show K 0 [some (vR 30 0), some (vI l), some (vI f), some (vI 1), none, none] [] σ
  refine r_bipush hC dX6_shift_0 rfl ?_
  refine r_iload_n hC dX6_shift_2 rfl ?_
  refine r_imulE hC ((121 * l)) dX6_shift_3 (by omega) (by unfold inR; omega) ?_
  refine r_istore hC dX6_shift_4 rfl ?_
  refine r_iload_n hC dX6_shift_6 rfl ?_
  refine r_if_eq (tgt := 48) hC dX6_shift_7 rfl (fun h1 => by omega) (fun h1 => ?_)
  refine r_iload hC dX6_shift_10 rfl ?_
  refine r_aload_n hC dX6_shift_12 rfl ?_
  refine r_iload_n hC dX6_shift_13 rfl ?_
  refine z_inv1 hM dX6_shift_14 vl_RX6_116 rfl rfl rfl (Nat.le_of_ble_eq_true rfl) (Nat.le_of_ble_eq_true rfl) ?_
  refine y_heldOf (by omega) (fun o2 => ?_)
  have e3 : σ 31 0 (22 * l + 5) = (V 7 l 6) := (hR.1.a7 (s := 6) (f := 5) (by omega) (by omega) (by omega)).trans (rfl)
  rw [e3] at o2 ⊢
  have qo2 : 0 ≤ (V 7 l 6) ∧ (V 7 l 6) ≤ 121 := o2.1 (by omega)
  refine r_iaddE hC (((121 * l) + (V 7 l 6))) dX6_shift_17 (by omega) (by unfold inR; omega) ?_
  refine r_istore hC dX6_shift_18 rfl ?_
  have L20 : ∀ (n20 : Nat) (w4 : Int) (ρ5 W5 : Mm), 0 ≤ w4 ∧ w4 ≤ 968 → (121 * l + f ≤ (w4)) → ((w4) ≤ 121 * l + V 7 l 6) → w4 < (n20 : Int) → (RS t σ0 W5 ρ5) → (W5 = suM V l ((w4) - 121 * l) (V 7 l 6)) → K 20 [some (vR 30 0), some (vI l), some (vI f), some (vI 1), some (vI (121 * l)), some (vI w4)] [] ρ5 := by
    intro n20
    induction n20 with
    | zero => intro w4 ρ5 W5 f_w4 i0_20 i1_20 hm  m0_20 m1_20; omega
    | succ n20 ih20 =>
      intro w4 ρ5 W5 f_w4 i0_20 i1_20 hm20  m0_20 m1_20
      refine r_iload hC dX6_shift_20 rfl ?_
      refine r_iload hC dX6_shift_22 rfl ?_
      refine r_iload_n hC dX6_shift_24 rfl ?_
      refine r_iaddE hC (((121 * l) + f)) dX6_shift_25 (by omega) (by unfold inR; omega) ?_
      refine r_icmp_le (tgt := 45) hC dX6_shift_26 rfl (fun h6 => ?_) (fun h6 => ?_)
      · refine r_goto (tgt := 85) hC dX6_shift_45 rfl ?_
        refine y_vret hK rfl dX6_shift_85 ?_
        have q := m0_20
        rw [m1_20, show w4 - 121 * l = f from by omega] at q
        exact k _ q
      · refine r_aload_n hC dX6_shift_29 rfl ?_
        refine r_iload hC dX6_shift_30 rfl ?_
        refine r_iconst hC dX6_shift_32 rfl ?_
        refine r_isubE hC ((w4 - 1)) dX6_shift_33 (by omega) (by unfold inR; omega) ?_
        refine r_iload hC dX6_shift_34 rfl ?_
        refine z_inv2 hM dX6_shift_36 vl_RX6_213 rfl rfl rfl (Nat.le_of_ble_eq_true rfl) (Nat.le_of_ble_eq_true rfl) ?_
        refine y_copyEvent (l := l) (a := ((w4 - 1) - 121 * l)) (m := l) (b := (w4 - 121 * l)) (by omega) (by omega) ht ⟨m0_20.1, m0_20.2.1, m0_20.2.2⟩ (by omega) (by omega) (by omega) (by omega) (by omega) (by omega) (fun ρ7 Rρ7 => ?_)
        refine r_iincE hC ((w4 - 1)) dX6_shift_39 rfl rfl (by omega) (by unfold inR; omega) ?_
        refine r_goto (tgt := 20) hC dX6_shift_42 rfl ?_
        exact ih20 ((w4 - 1)) ρ7 (ceM W5 l ((w4 - 1) - 121 * l) l (w4 - 121 * l)) (by omega) (by omega) (by omega) (by omega)  (⟨Rρ7.1, Rρ7.2.1, Rρ7.2.2⟩) (by rw [m1_20, show w4 - 1 - 121 * l = (w4 - 121 * l) - 1 from by omega]; exact suM_s (by omega))
  exact L20 970 (((121 * l) + (V 7 l 6))) σ V (by omega) (by omega) (by omega) (by omega)  (⟨hR.1, hR.2.1, hR.2.2⟩) ((suM_0 (by omega)).symm)
theorem y_shiftDn {eb : Bool} {t : Int} {V : Mm} {d : Nat} {P : Option Vl → Mm → Prop} {σ : Mm} {l f : Int} (b_l : 0 ≤ l ∧ l ≤ 7) (b_f : 0 ≤ f ∧ f ≤ 120) {σ0 : Mm} (ht : 6 ≤ t ∧ t ≤ 7) (hR : RS t σ0 V σ) (hl : l ≤ t) (h6 : 0 ≤ V 7 l 6 ∧ V 7 l 6 ≤ 121) (hf : f < V 7 l 6)  (k : ∀ ρ : Mm, RS t σ0 (sdM V l f (V 7 l 6 - 1)) ρ → P none ρ) : WT (true, eb, true) (d + 3) 189 [vR 30 0, vI l, vI f, vI 0] σ P := by
  refine WT_in fun K hK => ?_
  have hK : StpY (true, eb, true) cX6_shift RX6 (none) (WT (true, eb, true) (d + 2)) P K := hK
  have hM := hK.1
  have hC := hK.1.1
  show K 0 [some (vR 30 0), some (vI l), some (vI f), some (vI 0), none, none] [] σ
  refine r_bipush hC dX6_shift_0 rfl ?_
  refine r_iload_n hC dX6_shift_2 rfl ?_
  refine r_imulE hC ((121 * l)) dX6_shift_3 (by omega) (by unfold inR; omega) ?_
  refine r_istore hC dX6_shift_4 rfl ?_
  refine r_iload_n hC dX6_shift_6 rfl ?_
  refine r_if_eq (tgt := 48) hC dX6_shift_7 rfl (fun h1 => ?_) (fun h1 => by omega)
  refine r_iload hC dX6_shift_48 rfl ?_
  refine r_iload_n hC dX6_shift_50 rfl ?_
  refine r_iaddE hC (((121 * l) + f)) dX6_shift_51 (by omega) (by unfold inR; omega) ?_
  refine r_istore hC dX6_shift_52 rfl ?_
  have L54 : ∀ (n54 : Nat) (w2 : Int) (ρ3 W3 : Mm), 0 ≤ w2 ∧ w2 ≤ 968 → (121 * l + f ≤ (w2)) → ((w2) + 1 ≤ 121 * l + V 7 l 6) → 968 - w2 < (n54 : Int) → (RS t σ0 W3 ρ3) → (W3 = sdM V l f ((w2) - 121 * l)) → K 54 [some (vR 30 0), some (vI l), some (vI f), some (vI 0), some (vI (121 * l)), some (vI w2)] [] ρ3 := by
    intro n54
    induction n54 with
    | zero => intro w2 ρ3 W3 f_w2 i0_54 i1_54 hm  m0_54 m1_54; omega
    | succ n54 ih54 =>
      intro w2 ρ3 W3 f_w2 i0_54 i1_54 hm54  m0_54 m1_54
      have w6 : W3 7 l 6 = V 7 l 6 := by rw [m1_54]; exact sdM_ne (by omega)
      refine r_iload hC dX6_shift_54 rfl ?_
      refine r_iconst hC dX6_shift_56 rfl ?_
      refine r_iaddE hC ((w2 + 1)) dX6_shift_57 (by omega) (by unfold inR; omega) ?_
      refine r_iload hC dX6_shift_58 rfl ?_
      refine r_aload_n hC dX6_shift_60 rfl ?_
      refine r_iload_n hC dX6_shift_61 rfl ?_
      refine z_inv1 hM dX6_shift_62 vl_RX6_116 rfl rfl rfl (Nat.le_of_ble_eq_true rfl) (Nat.le_of_ble_eq_true rfl) ?_
      refine y_heldOf (by omega) (fun o4 => ?_)
      have e5 : ρ3 31 0 (22 * l + 5) = (W3 7 l 6) := (m0_54.1.a7 (s := 6) (f := 5) (by omega) (by omega) (by omega)).trans (rfl)
      rw [e5] at o4 ⊢
      have qo4 : 0 ≤ (W3 7 l 6) ∧ (W3 7 l 6) ≤ 121 := o4.1 (by omega)
      refine r_iaddE hC (((121 * l) + (W3 7 l 6))) dX6_shift_65 (by omega) (by unfold inR; omega) ?_
      refine r_icmp_ge (tgt := 85) hC dX6_shift_66 rfl (fun h6 => ?_) (fun h6 => ?_)
      · refine y_vret hK rfl dX6_shift_85 ?_
        have q := m0_54
        rw [m1_54, show w2 - 121 * l = V 7 l 6 - 1 from by omega] at q
        exact k _ q
      · refine r_aload_n hC dX6_shift_69 rfl ?_
        refine r_iload hC dX6_shift_70 rfl ?_
        refine r_iconst hC dX6_shift_72 rfl ?_
        refine r_iaddE hC ((w2 + 1)) dX6_shift_73 (by omega) (by unfold inR; omega) ?_
        refine r_iload hC dX6_shift_74 rfl ?_
        refine z_inv2 hM dX6_shift_76 vl_RX6_213 rfl rfl rfl (Nat.le_of_ble_eq_true rfl) (Nat.le_of_ble_eq_true rfl) ?_
        refine y_copyEvent (l := l) (a := ((w2 + 1) - 121 * l)) (m := l) (b := (w2 - 121 * l)) (by omega) (by omega) ht ⟨m0_54.1, m0_54.2.1, m0_54.2.2⟩ (by omega) (by omega) (by omega) (by omega) (by omega) (by omega) (fun ρ7 Rρ7 => ?_)
        refine r_iincE hC ((w2 + 1)) dX6_shift_79 rfl rfl (by omega) (by unfold inR; omega) ?_
        refine r_goto (tgt := 54) hC dX6_shift_82 rfl ?_
        exact ih54 ((w2 + 1)) ρ7 (ceM W3 l ((w2 + 1) - 121 * l) l (w2 - 121 * l)) (by omega) (by omega) (by omega) (by omega)  (⟨Rρ7.1, Rρ7.2.1, Rρ7.2.2⟩) (by rw [m1_54, show w2 + 1 - 121 * l = (w2 - 121 * l) + 1 from by omega]; exact sdM_s (h := 0) (by omega))
  exact L54 970 (((121 * l) + f)) σ V (by omega) (by omega) (by omega) (by omega)  (⟨hR.1, hR.2.1, hR.2.2⟩) (by rw [show 121 * l + f - 121 * l = f from by omega]; exact (sdM_0 (by omega)).symm)
theorem mu_eq {V : Mm} {c : Nat} {x y a b : Int} (h : a = b) : mu V c x y a = mu V c x y b := by rw [h]
theorem mu_eq3 {V : Mm} {c : Nat} {x y z w a b a2 b2 d : Int} (h : a = b) (h2 : a2 = b2) : mu (mu (mu V c x y a) c x z a2) c x w d = mu (mu (mu V c x y b) c x z b2) c x w d := by rw [h, h2]
theorem y_goFlip {eb : Bool} {t : Int} {V : Mm} {d : Nat} {P : Option Vl → Mm → Prop} {σ : Mm} {l : Int} (b_l : 0 ≤ l ∧ l ≤ 7) {σ0 : Mm} {fl fr : Int} (ht : 6 ≤ t ∧ t ≤ 7) (hS : SB t σ0 V σ) (hX : KX t l V σ) (hFB : FB V σ) (hl : l ≤ t) (hb : (0 ≤ V 11 l 0 ∧ V 11 l 0 ≤ 121) ∧ (0 ≤ V 11 l 1 ∧ V 11 l 1 ≤ 122) ∧ (0 ≤ V 11 l 2 ∧ V 11 l 2 ≤ 122) ∧ 0 ≤ V 11 l 3 ∧ V 11 l 3 ≤ 243) (hfr : 0 ≤ fr ∧ fr ≤ 1) (h16 : σ 31 0 (22 * l + 16) = 1) (h17 : σ 31 0 (22 * l + 17) = fr)  (k1 : 3 < V 11 l 3 → ∀ ρ : Mm, SB t σ0 (mu V 11 l 3 (V 11 l 3 - 3)) ρ → KX t l (mu V 11 l 3 (V 11 l 3 - 3)) ρ → FB (mu V 11 l 3 (V 11 l 3 - 3)) ρ → ρ 31 0 (22 * l + 16) = 1 → ρ 31 0 (22 * l + 17) = 0 → P (some (vI (3 - fr))) ρ) (k0 : V 11 l 3 ≤ 3 → ∀ ρ : Mm, SB t σ0 (mu (mu (mu V 11 l 3 0) 11 l 0 (V 11 l 0 + V 11 l 1)) 11 l 1 0) ρ → KX t l (mu (mu (mu V 11 l 3 0) 11 l 0 (V 11 l 0 + V 11 l 1)) 11 l 1 0) ρ → FB (mu (mu (mu V 11 l 3 0) 11 l 0 (V 11 l 0 + V 11 l 1)) 11 l 1 0) ρ → ρ 31 0 (22 * l + 16) = 0 → ρ 31 0 (22 * l + 17) = (if 0 < V 11 l 3 then 0 else fr) → P (some (vI (if 0 < V 11 l 3 then V 11 l 3 - fr else 0))) ρ) : WT (true, eb, true) (d + 2) 178 [vR 30 0, vI l] σ P := by
  refine WT_in fun K hK => ?_
  have hK : StpY (true, eb, true) cX6_goFlip RX6 (some .int) (WT (true, eb, true) (d + 1)) P K := hK
  have hM := hK.1
  have hC := hK.1.1
  show K 0 [some (vR 30 0), some (vI l), none, none] [] σ
  refine r_aload_n hC dX6_goFlip_0 rfl ?_
  refine r_iload_n hC dX6_goFlip_1 rfl ?_
  refine r_bipush hC dX6_goFlip_2 rfl ?_
  refine z_inv2 hM dX6_goFlip_4 vl_RX6_80 rfl rfl rfl (Nat.le_of_ble_eq_true rfl) (Nat.le_of_ble_eq_true rfl) ?_
  refine y_of (by omega) (by omega) (by omega) (fun o1 => ?_)
  have e2 : σ 31 0 (22 * l + 15) = (V 11 l 3) := (hS.a11 (s := 3) (f := 15) (by omega) (by omega) (by omega)).trans (rfl)
  rw [e2] at o1 ⊢
  refine r_iconst hC dX6_goFlip_7 rfl ?_
  refine r_icmp_ge (tgt := 21) hC dX6_goFlip_8 rfl (fun h3 => ?_) (fun h3 => ?_)
  · refine r_iconst hC dX6_goFlip_21 rfl ?_
    refine r_istore_n hC dX6_goFlip_22 rfl ?_
    refine r_iload_n hC dX6_goFlip_23 rfl ?_
    refine r_if_le (tgt := 39) hC dX6_goFlip_24 rfl (fun h4 => by omega) (fun h4 => ?_)
    refine r_iload_n hC dX6_goFlip_27 rfl ?_
    refine r_aload_n hC dX6_goFlip_28 rfl ?_
    refine r_iload_n hC dX6_goFlip_29 rfl ?_
    refine r_bipush hC dX6_goFlip_30 rfl ?_
    refine z_inv2 hM dX6_goFlip_32 vl_RX6_80 rfl rfl rfl (Nat.le_of_ble_eq_true rfl) (Nat.le_of_ble_eq_true rfl) ?_
    refine y_of (by omega) (by omega) (by omega) (fun o5 => ?_)
    rw [h17]
    refine r_isubE hC ((3 - fr)) dX6_goFlip_35 (by omega) (by unfold inR; omega) ?_
    refine r_goto (tgt := 40) hC dX6_goFlip_36 rfl ?_
    refine r_istore_n hC dX6_goFlip_40 rfl ?_
    refine r_iload_n hC dX6_goFlip_41 rfl ?_
    refine r_if_le (tgt := 53) hC dX6_goFlip_42 rfl (fun h6 => by omega) (fun h6 => ?_)
    refine r_aload_n hC dX6_goFlip_45 rfl ?_
    refine r_iload_n hC dX6_goFlip_46 rfl ?_
    refine r_bipush hC dX6_goFlip_47 rfl ?_
    refine r_iconst hC dX6_goFlip_49 rfl ?_
    refine z_inv3 hM dX6_goFlip_50 vl_RX6_173 rfl rfl rfl (Nat.le_of_ble_eq_true rfl) (Nat.le_of_ble_eq_true rfl) ?_
    refine y_set (by omega) (by omega) ⟨fun h => by omega, fun h => by omega⟩ ?_
    obtain ⟨ρ7, e_ρ7⟩ : ∃ zz_, zz_ = mu σ 31 0 ((22 * l) + 17) 0 := ⟨_, rfl⟩
    rw [← e_ρ7]
    have Sρ7 : SB t σ0 V ρ7 := by rw [e_ρ7, show ((22 * l) + 17) = 22 * l + 17 from by omega]; exact hS.px (by omega)
    have r16_ρ7 : ρ7 31 0 (22 * l + 16) = 1 := by rw [e_ρ7]; exact (mu_ne (by omega)).trans h16
    have r17_ρ7 : ρ7 31 0 (22 * l + 17) = 0 := by rw [e_ρ7, show ((22 * l) + 17) = 22 * l + 17 from by omega]; exact mu_self _ _ _ _ _
    have Xρ7 : KX t l V ρ7 := (hX).e (fun m a b c => by rw [e_ρ7]; exact ⟨mu_ne (by omega), mu_ne (by omega)⟩) (fun m c => rfl)
    have Fρ7 : FB V ρ7 := by rw [e_ρ7]; exact (hFB).e (fun l a b => mu_ne (by omega))
    refine r_aload_n hC dX6_goFlip_53 rfl ?_
    refine r_iload_n hC dX6_goFlip_54 rfl ?_
    refine r_bipush hC dX6_goFlip_55 rfl ?_
    refine r_iload_n hC dX6_goFlip_57 rfl ?_
    refine r_inegS hC dX6_goFlip_58 (by unfold inR; omega) ?_
    refine z_inv3 hM dX6_goFlip_59 vl_RX6_188 rfl rfl rfl (Nat.le_of_ble_eq_true rfl) (Nat.le_of_ble_eq_true rfl) ?_
    refine y_moreE (a := (V 11 l 3)) (by omega) (by omega) (by omega) ⟨fun h => by omega, by omega⟩ ((Sρ7.a11 (s := 3) (f := 15) (by omega) (by omega) (by omega)).trans (rfl)) (by omega) ?_
    rw [show (V 11 l 3) + (-3) = ((V 11 l 3) + (-3)) from by omega]
    obtain ⟨ρ8, e_ρ8⟩ : ∃ zz_, zz_ = mu ρ7 31 0 ((22 * l) + 15) ((V 11 l 3) + (-3)) := ⟨_, rfl⟩
    rw [← e_ρ8]
    have Sρ8 : SB t σ0 (mu V 11 l 3 ((V 11 l 3) + (-3))) ρ8 := by rw [e_ρ8, show ((22 * l) + 15) = 22 * l + 15 from by omega]; exact Sρ7.p11 (by omega) (by omega) (by omega)
    have r16_ρ8 : ρ8 31 0 (22 * l + 16) = 1 := by rw [e_ρ8]; exact (mu_ne (by omega)).trans r16_ρ7
    have r17_ρ8 : ρ8 31 0 (22 * l + 17) = 0 := by rw [e_ρ8]; exact (mu_ne (by omega)).trans r17_ρ7
    have Xρ8 : KX t l (mu V 11 l 3 ((V 11 l 3) + (-3))) ρ8 := (Xρ7).e (fun m a b c => by rw [e_ρ8]; exact ⟨mu_ne (by omega), mu_ne (by omega)⟩) (fun m c => mu_ne (by omega))
    have Fρ8 : FB (mu V 11 l 3 ((V 11 l 3) + (-3))) ρ8 := by rw [e_ρ8]; exact (Fρ7).e (fun l a b => mu_ne (by omega)) |>.v (fun l y a b c => mu_ne (by omega))
    refine r_aload_n hC dX6_goFlip_62 rfl ?_
    refine r_iload_n hC dX6_goFlip_63 rfl ?_
    refine r_bipush hC dX6_goFlip_64 rfl ?_
    refine z_inv2 hM dX6_goFlip_66 vl_RX6_80 rfl rfl rfl (Nat.le_of_ble_eq_true rfl) (Nat.le_of_ble_eq_true rfl) ?_
    refine y_of (by omega) (by omega) (by omega) (fun o9 => ?_)
    have e10 : ρ8 31 0 (22 * l + 15) = ((V 11 l 3) + (-3)) := (Sρ8.a11 (s := 3) (f := 15) (by omega) (by omega) (by omega)).trans (mu_self _ _ _ _ _)
    rw [e10] at o9 ⊢
    refine r_if_le (tgt := 74) hC dX6_goFlip_69 rfl (fun h11 => ?_) (fun h11 => ?_)
    · refine r_aload_n hC dX6_goFlip_74 rfl ?_
      refine r_iload_n hC dX6_goFlip_75 rfl ?_
      refine r_bipush hC dX6_goFlip_76 rfl ?_
      refine r_aload_n hC dX6_goFlip_78 rfl ?_
      refine r_iload_n hC dX6_goFlip_79 rfl ?_
      refine r_bipush hC dX6_goFlip_80 rfl ?_
      refine z_inv2 hM dX6_goFlip_82 vl_RX6_80 rfl rfl rfl (Nat.le_of_ble_eq_true rfl) (Nat.le_of_ble_eq_true rfl) ?_
      refine y_of (by omega) (by omega) (by omega) (fun o12 => ?_)
      have e13 : ρ8 31 0 (22 * l + 13) = (V 11 l 1) := (Sρ8.a11 (s := 1) (f := 13) (by omega) (by omega) (by omega)).trans ((mu_ne (by omega)).trans (rfl))
      rw [e13] at o12 ⊢
      refine z_inv3 hM dX6_goFlip_85 vl_RX6_188 rfl rfl rfl (Nat.le_of_ble_eq_true rfl) (Nat.le_of_ble_eq_true rfl) ?_
      refine y_moreE (a := (V 11 l 0)) (by omega) (by omega) (by omega) ⟨fun h => by omega, by omega⟩ ((Sρ8.a11 (s := 0) (f := 12) (by omega) (by omega) (by omega)).trans ((mu_ne (by omega)).trans (rfl))) (by omega) ?_
      rw [show (V 11 l 0) + (V 11 l 1) = ((V 11 l 0) + (V 11 l 1)) from by omega]
      obtain ⟨ρ14, e_ρ14⟩ : ∃ zz_, zz_ = mu ρ8 31 0 ((22 * l) + 12) ((V 11 l 0) + (V 11 l 1)) := ⟨_, rfl⟩
      rw [← e_ρ14]
      have Sρ14 : SB t σ0 (mu (mu V 11 l 3 ((V 11 l 3) + (-3))) 11 l 0 ((V 11 l 0) + (V 11 l 1))) ρ14 := by rw [e_ρ14, show ((22 * l) + 12) = 22 * l + 12 from by omega]; exact Sρ8.p11 (by omega) (by omega) (by omega)
      have r16_ρ14 : ρ14 31 0 (22 * l + 16) = 1 := by rw [e_ρ14]; exact (mu_ne (by omega)).trans r16_ρ8
      have r17_ρ14 : ρ14 31 0 (22 * l + 17) = 0 := by rw [e_ρ14]; exact (mu_ne (by omega)).trans r17_ρ8
      have Xρ14 : KX t l (mu (mu V 11 l 3 ((V 11 l 3) + (-3))) 11 l 0 ((V 11 l 0) + (V 11 l 1))) ρ14 := (Xρ8).e (fun m a b c => by rw [e_ρ14]; exact ⟨mu_ne (by omega), mu_ne (by omega)⟩) (fun m c => mu_ne (by omega))
      have Fρ14 : FB (mu (mu V 11 l 3 ((V 11 l 3) + (-3))) 11 l 0 ((V 11 l 0) + (V 11 l 1))) ρ14 := by rw [e_ρ14]; exact (Fρ8).e (fun l a b => mu_ne (by omega)) |>.v (fun l y a b c => mu_ne (by omega))
      refine r_aload_n hC dX6_goFlip_88 rfl ?_
      refine r_iload_n hC dX6_goFlip_89 rfl ?_
      refine r_bipush hC dX6_goFlip_90 rfl ?_
      refine r_iconst hC dX6_goFlip_92 rfl ?_
      refine z_inv3 hM dX6_goFlip_93 vl_RX6_173 rfl rfl rfl (Nat.le_of_ble_eq_true rfl) (Nat.le_of_ble_eq_true rfl) ?_
      refine y_set (by omega) (by omega) ⟨fun h => by omega, fun h => by omega⟩ ?_
      obtain ⟨ρ15, e_ρ15⟩ : ∃ zz_, zz_ = mu ρ14 31 0 ((22 * l) + 13) 0 := ⟨_, rfl⟩
      rw [← e_ρ15]
      have Sρ15 : SB t σ0 (mu (mu (mu V 11 l 3 ((V 11 l 3) + (-3))) 11 l 0 ((V 11 l 0) + (V 11 l 1))) 11 l 1 0) ρ15 := by rw [e_ρ15, show ((22 * l) + 13) = 22 * l + 13 from by omega]; exact Sρ14.p11 (by omega) (by omega) (by omega)
      have r16_ρ15 : ρ15 31 0 (22 * l + 16) = 1 := by rw [e_ρ15]; exact (mu_ne (by omega)).trans r16_ρ14
      have r17_ρ15 : ρ15 31 0 (22 * l + 17) = 0 := by rw [e_ρ15]; exact (mu_ne (by omega)).trans r17_ρ14
      have Xρ15 : KX t l (mu (mu (mu V 11 l 3 ((V 11 l 3) + (-3))) 11 l 0 ((V 11 l 0) + (V 11 l 1))) 11 l 1 0) ρ15 := (Xρ14).e (fun m a b c => by rw [e_ρ15]; exact ⟨mu_ne (by omega), mu_ne (by omega)⟩) (fun m c => mu_ne (by omega))
      have Fρ15 : FB (mu (mu (mu V 11 l 3 ((V 11 l 3) + (-3))) 11 l 0 ((V 11 l 0) + (V 11 l 1))) 11 l 1 0) ρ15 := by rw [e_ρ15]; exact (Fρ14).e (fun l a b => mu_ne (by omega)) |>.v (fun l y a b c => mu_ne (by omega))
      refine r_aload_n hC dX6_goFlip_96 rfl ?_
      refine r_iload_n hC dX6_goFlip_97 rfl ?_
      refine r_bipush hC dX6_goFlip_98 rfl ?_
      refine r_iconst hC dX6_goFlip_100 rfl ?_
      refine z_inv3 hM dX6_goFlip_101 vl_RX6_173 rfl rfl rfl (Nat.le_of_ble_eq_true rfl) (Nat.le_of_ble_eq_true rfl) ?_
      refine y_set (by omega) (by omega) ⟨fun h => by omega, fun h => by omega⟩ ?_
      obtain ⟨ρ16, e_ρ16⟩ : ∃ zz_, zz_ = mu ρ15 31 0 ((22 * l) + 16) 0 := ⟨_, rfl⟩
      rw [← e_ρ16]
      have Sρ16 : SB t σ0 (mu (mu (mu V 11 l 3 ((V 11 l 3) + (-3))) 11 l 0 ((V 11 l 0) + (V 11 l 1))) 11 l 1 0) ρ16 := by rw [e_ρ16, show ((22 * l) + 16) = 22 * l + 16 from by omega]; exact Sρ15.px (by omega)
      have r16_ρ16 : ρ16 31 0 (22 * l + 16) = 0 := by rw [e_ρ16, show ((22 * l) + 16) = 22 * l + 16 from by omega]; exact mu_self _ _ _ _ _
      have r17_ρ16 : ρ16 31 0 (22 * l + 17) = 0 := by rw [e_ρ16]; exact (mu_ne (by omega)).trans r17_ρ15
      have Xρ16 : KX t l (mu (mu (mu V 11 l 3 ((V 11 l 3) + (-3))) 11 l 0 ((V 11 l 0) + (V 11 l 1))) 11 l 1 0) ρ16 := (Xρ15).e (fun m a b c => by rw [e_ρ16]; exact ⟨mu_ne (by omega), mu_ne (by omega)⟩) (fun m c => rfl)
      have Fρ16 : FB (mu (mu (mu V 11 l 3 ((V 11 l 3) + (-3))) 11 l 0 ((V 11 l 0) + (V 11 l 1))) 11 l 1 0) ρ16 := by rw [e_ρ16]; exact (Fρ15).e (fun l a b => mu_ne (by omega))
      refine r_iload_n hC dX6_goFlip_104 rfl ?_
      refine y_iret hK rfl dX6_goFlip_105 ?_
      first
      | (exfalso; omega)
      | (have hV : (mu (mu (mu V 11 l 3 ((V 11 l 3) + (-3))) 11 l 0 ((V 11 l 0) + (V 11 l 1))) 11 l 1 0) = (mu (mu (mu V 11 l 3 0) 11 l 0 (V 11 l 0 + V 11 l 1)) 11 l 1 0) := mu_eq3 (by omega) (by omega)
         have hv : (3 - fr) = (if 0 < V 11 l 3 then V 11 l 3 - fr else 0) := by first | omega | (rw [if_pos (by omega)]; omega) | (rw [if_pos (by omega)]) | (rw [if_neg (by omega)]; omega) | (rw [if_neg (by omega)])
         have h17_ : (0 : Int) = (if 0 < V 11 l 3 then 0 else fr) := by first | omega | exact (if_pos (by omega)).symm | exact (if_neg (by omega)).symm
         have q1 := Sρ16
         have q2 := Xρ16
         have q3 := Fρ16
         rw [hV] at q1 q2 q3
         rw [hv]
         exact k0 (by omega) _ q1 q2 q3 r16_ρ16 (r17_ρ16.trans h17_))
    · refine r_iload_n hC dX6_goFlip_72 rfl ?_
      refine y_iret hK rfl dX6_goFlip_73 ?_
      first
      | (exfalso; omega)
      | (have hV : (mu V 11 l 3 ((V 11 l 3) + (-3))) = (mu V 11 l 3 (V 11 l 3 - 3)) := mu_eq (by omega)
         have hv : (3 - fr) = 3 - fr := by first | omega | (rw [if_pos (by omega)]; omega) | (rw [if_pos (by omega)]) | (rw [if_neg (by omega)]; omega) | (rw [if_neg (by omega)])
         have h17_ : (0 : Int) = 0 := by first | omega | exact (if_pos (by omega)).symm | exact (if_neg (by omega)).symm
         have q1 := Sρ8
         have q2 := Xρ8
         have q3 := Fρ8
         rw [hV] at q1 q2 q3
         rw [hv]
         exact k1 (by omega) _ q1 q2 q3 r16_ρ8 (r17_ρ8.trans h17_))
  · refine r_aload_n hC dX6_goFlip_11 rfl ?_
    refine r_iload_n hC dX6_goFlip_12 rfl ?_
    refine r_bipush hC dX6_goFlip_13 rfl ?_
    refine z_inv2 hM dX6_goFlip_15 vl_RX6_80 rfl rfl rfl (Nat.le_of_ble_eq_true rfl) (Nat.le_of_ble_eq_true rfl) ?_
    refine y_of (by omega) (by omega) (by omega) (fun o17 => ?_)
    have e18 : σ 31 0 (22 * l + 15) = (V 11 l 3) := (hS.a11 (s := 3) (f := 15) (by omega) (by omega) (by omega)).trans (rfl)
    rw [e18] at o17 ⊢
    refine r_goto (tgt := 22) hC dX6_goFlip_18 rfl ?_
    refine r_istore_n hC dX6_goFlip_22 rfl ?_
    refine r_iload_n hC dX6_goFlip_23 rfl ?_
    refine r_if_le (tgt := 39) hC dX6_goFlip_24 rfl (fun h19 => ?_) (fun h19 => ?_)
    · refine r_iconst hC dX6_goFlip_39 rfl ?_
      refine r_istore_n hC dX6_goFlip_40 rfl ?_
      refine r_iload_n hC dX6_goFlip_41 rfl ?_
      refine r_if_le (tgt := 53) hC dX6_goFlip_42 rfl (fun h20 => ?_) (fun h20 => by omega)
      refine r_aload_n hC dX6_goFlip_53 rfl ?_
      refine r_iload_n hC dX6_goFlip_54 rfl ?_
      refine r_bipush hC dX6_goFlip_55 rfl ?_
      refine r_iload_n hC dX6_goFlip_57 rfl ?_
      refine r_inegS hC dX6_goFlip_58 (by unfold inR; omega) ?_
      refine z_inv3 hM dX6_goFlip_59 vl_RX6_188 rfl rfl rfl (Nat.le_of_ble_eq_true rfl) (Nat.le_of_ble_eq_true rfl) ?_
      refine y_moreE (a := (V 11 l 3)) (by omega) (by omega) (by omega) ⟨fun h => by omega, by omega⟩ ((hS.a11 (s := 3) (f := 15) (by omega) (by omega) (by omega)).trans (rfl)) (by omega) ?_
      rw [show (V 11 l 3) + (-(V 11 l 3)) = ((V 11 l 3) + (-(V 11 l 3))) from by omega]
      obtain ⟨ρ21, e_ρ21⟩ : ∃ zz_, zz_ = mu σ 31 0 ((22 * l) + 15) ((V 11 l 3) + (-(V 11 l 3))) := ⟨_, rfl⟩
      rw [← e_ρ21]
      have Sρ21 : SB t σ0 (mu V 11 l 3 ((V 11 l 3) + (-(V 11 l 3)))) ρ21 := by rw [e_ρ21, show ((22 * l) + 15) = 22 * l + 15 from by omega]; exact hS.p11 (by omega) (by omega) (by omega)
      have r16_ρ21 : ρ21 31 0 (22 * l + 16) = 1 := by rw [e_ρ21]; exact (mu_ne (by omega)).trans h16
      have r17_ρ21 : ρ21 31 0 (22 * l + 17) = fr := by rw [e_ρ21]; exact (mu_ne (by omega)).trans h17
      have Xρ21 : KX t l (mu V 11 l 3 ((V 11 l 3) + (-(V 11 l 3)))) ρ21 := (hX).e (fun m a b c => by rw [e_ρ21]; exact ⟨mu_ne (by omega), mu_ne (by omega)⟩) (fun m c => mu_ne (by omega))
      have Fρ21 : FB (mu V 11 l 3 ((V 11 l 3) + (-(V 11 l 3)))) ρ21 := by rw [e_ρ21]; exact (hFB).e (fun l a b => mu_ne (by omega)) |>.v (fun l y a b c => mu_ne (by omega))
      refine r_aload_n hC dX6_goFlip_62 rfl ?_
      refine r_iload_n hC dX6_goFlip_63 rfl ?_
      refine r_bipush hC dX6_goFlip_64 rfl ?_
      refine z_inv2 hM dX6_goFlip_66 vl_RX6_80 rfl rfl rfl (Nat.le_of_ble_eq_true rfl) (Nat.le_of_ble_eq_true rfl) ?_
      refine y_of (by omega) (by omega) (by omega) (fun o22 => ?_)
      have e23 : ρ21 31 0 (22 * l + 15) = ((V 11 l 3) + (-(V 11 l 3))) := (Sρ21.a11 (s := 3) (f := 15) (by omega) (by omega) (by omega)).trans (mu_self _ _ _ _ _)
      rw [e23] at o22 ⊢
      refine r_if_le (tgt := 74) hC dX6_goFlip_69 rfl (fun h24 => ?_) (fun h24 => ?_)
      · refine r_aload_n hC dX6_goFlip_74 rfl ?_
        refine r_iload_n hC dX6_goFlip_75 rfl ?_
        refine r_bipush hC dX6_goFlip_76 rfl ?_
        refine r_aload_n hC dX6_goFlip_78 rfl ?_
        refine r_iload_n hC dX6_goFlip_79 rfl ?_
        refine r_bipush hC dX6_goFlip_80 rfl ?_
        refine z_inv2 hM dX6_goFlip_82 vl_RX6_80 rfl rfl rfl (Nat.le_of_ble_eq_true rfl) (Nat.le_of_ble_eq_true rfl) ?_
        refine y_of (by omega) (by omega) (by omega) (fun o25 => ?_)
        have e26 : ρ21 31 0 (22 * l + 13) = (V 11 l 1) := (Sρ21.a11 (s := 1) (f := 13) (by omega) (by omega) (by omega)).trans ((mu_ne (by omega)).trans (rfl))
        rw [e26] at o25 ⊢
        refine z_inv3 hM dX6_goFlip_85 vl_RX6_188 rfl rfl rfl (Nat.le_of_ble_eq_true rfl) (Nat.le_of_ble_eq_true rfl) ?_
        refine y_moreE (a := (V 11 l 0)) (by omega) (by omega) (by omega) ⟨fun h => by omega, by omega⟩ ((Sρ21.a11 (s := 0) (f := 12) (by omega) (by omega) (by omega)).trans ((mu_ne (by omega)).trans (rfl))) (by omega) ?_
        rw [show (V 11 l 0) + (V 11 l 1) = ((V 11 l 0) + (V 11 l 1)) from by omega]
        obtain ⟨ρ27, e_ρ27⟩ : ∃ zz_, zz_ = mu ρ21 31 0 ((22 * l) + 12) ((V 11 l 0) + (V 11 l 1)) := ⟨_, rfl⟩
        rw [← e_ρ27]
        have Sρ27 : SB t σ0 (mu (mu V 11 l 3 ((V 11 l 3) + (-(V 11 l 3)))) 11 l 0 ((V 11 l 0) + (V 11 l 1))) ρ27 := by rw [e_ρ27, show ((22 * l) + 12) = 22 * l + 12 from by omega]; exact Sρ21.p11 (by omega) (by omega) (by omega)
        have r16_ρ27 : ρ27 31 0 (22 * l + 16) = 1 := by rw [e_ρ27]; exact (mu_ne (by omega)).trans r16_ρ21
        have r17_ρ27 : ρ27 31 0 (22 * l + 17) = fr := by rw [e_ρ27]; exact (mu_ne (by omega)).trans r17_ρ21
        have Xρ27 : KX t l (mu (mu V 11 l 3 ((V 11 l 3) + (-(V 11 l 3)))) 11 l 0 ((V 11 l 0) + (V 11 l 1))) ρ27 := (Xρ21).e (fun m a b c => by rw [e_ρ27]; exact ⟨mu_ne (by omega), mu_ne (by omega)⟩) (fun m c => mu_ne (by omega))
        have Fρ27 : FB (mu (mu V 11 l 3 ((V 11 l 3) + (-(V 11 l 3)))) 11 l 0 ((V 11 l 0) + (V 11 l 1))) ρ27 := by rw [e_ρ27]; exact (Fρ21).e (fun l a b => mu_ne (by omega)) |>.v (fun l y a b c => mu_ne (by omega))
        refine r_aload_n hC dX6_goFlip_88 rfl ?_
        refine r_iload_n hC dX6_goFlip_89 rfl ?_
        refine r_bipush hC dX6_goFlip_90 rfl ?_
        refine r_iconst hC dX6_goFlip_92 rfl ?_
        refine z_inv3 hM dX6_goFlip_93 vl_RX6_173 rfl rfl rfl (Nat.le_of_ble_eq_true rfl) (Nat.le_of_ble_eq_true rfl) ?_
        refine y_set (by omega) (by omega) ⟨fun h => by omega, fun h => by omega⟩ ?_
        obtain ⟨ρ28, e_ρ28⟩ : ∃ zz_, zz_ = mu ρ27 31 0 ((22 * l) + 13) 0 := ⟨_, rfl⟩
        rw [← e_ρ28]
        have Sρ28 : SB t σ0 (mu (mu (mu V 11 l 3 ((V 11 l 3) + (-(V 11 l 3)))) 11 l 0 ((V 11 l 0) + (V 11 l 1))) 11 l 1 0) ρ28 := by rw [e_ρ28, show ((22 * l) + 13) = 22 * l + 13 from by omega]; exact Sρ27.p11 (by omega) (by omega) (by omega)
        have r16_ρ28 : ρ28 31 0 (22 * l + 16) = 1 := by rw [e_ρ28]; exact (mu_ne (by omega)).trans r16_ρ27
        have r17_ρ28 : ρ28 31 0 (22 * l + 17) = fr := by rw [e_ρ28]; exact (mu_ne (by omega)).trans r17_ρ27
        have Xρ28 : KX t l (mu (mu (mu V 11 l 3 ((V 11 l 3) + (-(V 11 l 3)))) 11 l 0 ((V 11 l 0) + (V 11 l 1))) 11 l 1 0) ρ28 := (Xρ27).e (fun m a b c => by rw [e_ρ28]; exact ⟨mu_ne (by omega), mu_ne (by omega)⟩) (fun m c => mu_ne (by omega))
        have Fρ28 : FB (mu (mu (mu V 11 l 3 ((V 11 l 3) + (-(V 11 l 3)))) 11 l 0 ((V 11 l 0) + (V 11 l 1))) 11 l 1 0) ρ28 := by rw [e_ρ28]; exact (Fρ27).e (fun l a b => mu_ne (by omega)) |>.v (fun l y a b c => mu_ne (by omega))
        refine r_aload_n hC dX6_goFlip_96 rfl ?_
        refine r_iload_n hC dX6_goFlip_97 rfl ?_
        refine r_bipush hC dX6_goFlip_98 rfl ?_
        refine r_iconst hC dX6_goFlip_100 rfl ?_
        refine z_inv3 hM dX6_goFlip_101 vl_RX6_173 rfl rfl rfl (Nat.le_of_ble_eq_true rfl) (Nat.le_of_ble_eq_true rfl) ?_
        refine y_set (by omega) (by omega) ⟨fun h => by omega, fun h => by omega⟩ ?_
        obtain ⟨ρ29, e_ρ29⟩ : ∃ zz_, zz_ = mu ρ28 31 0 ((22 * l) + 16) 0 := ⟨_, rfl⟩
        rw [← e_ρ29]
        have Sρ29 : SB t σ0 (mu (mu (mu V 11 l 3 ((V 11 l 3) + (-(V 11 l 3)))) 11 l 0 ((V 11 l 0) + (V 11 l 1))) 11 l 1 0) ρ29 := by rw [e_ρ29, show ((22 * l) + 16) = 22 * l + 16 from by omega]; exact Sρ28.px (by omega)
        have r16_ρ29 : ρ29 31 0 (22 * l + 16) = 0 := by rw [e_ρ29, show ((22 * l) + 16) = 22 * l + 16 from by omega]; exact mu_self _ _ _ _ _
        have r17_ρ29 : ρ29 31 0 (22 * l + 17) = fr := by rw [e_ρ29]; exact (mu_ne (by omega)).trans r17_ρ28
        have Xρ29 : KX t l (mu (mu (mu V 11 l 3 ((V 11 l 3) + (-(V 11 l 3)))) 11 l 0 ((V 11 l 0) + (V 11 l 1))) 11 l 1 0) ρ29 := (Xρ28).e (fun m a b c => by rw [e_ρ29]; exact ⟨mu_ne (by omega), mu_ne (by omega)⟩) (fun m c => rfl)
        have Fρ29 : FB (mu (mu (mu V 11 l 3 ((V 11 l 3) + (-(V 11 l 3)))) 11 l 0 ((V 11 l 0) + (V 11 l 1))) 11 l 1 0) ρ29 := by rw [e_ρ29]; exact (Fρ28).e (fun l a b => mu_ne (by omega))
        refine r_iload_n hC dX6_goFlip_104 rfl ?_
        refine y_iret hK rfl dX6_goFlip_105 ?_
        first
        | (exfalso; omega)
        | (have hV : (mu (mu (mu V 11 l 3 ((V 11 l 3) + (-(V 11 l 3)))) 11 l 0 ((V 11 l 0) + (V 11 l 1))) 11 l 1 0) = (mu (mu (mu V 11 l 3 0) 11 l 0 (V 11 l 0 + V 11 l 1)) 11 l 1 0) := mu_eq3 (by omega) (by omega)
           have hv : 0 = (if 0 < V 11 l 3 then V 11 l 3 - fr else 0) := by first | omega | (rw [if_pos (by omega)]; omega) | (rw [if_pos (by omega)]) | (rw [if_neg (by omega)]; omega) | (rw [if_neg (by omega)])
           have h17_ : (fr : Int) = (if 0 < V 11 l 3 then 0 else fr) := by first | omega | exact (if_pos (by omega)).symm | exact (if_neg (by omega)).symm
           have q1 := Sρ29
           have q2 := Xρ29
           have q3 := Fρ29
           rw [hV] at q1 q2 q3
           rw [hv]
           exact k0 (by omega) _ q1 q2 q3 r16_ρ29 (r17_ρ29.trans h17_))
      · refine r_iload_n hC dX6_goFlip_72 rfl ?_
        refine y_iret hK rfl dX6_goFlip_73 ?_
        first
        | (exfalso; omega)
        | (have hV : (mu V 11 l 3 ((V 11 l 3) + (-(V 11 l 3)))) = (mu V 11 l 3 (V 11 l 3 - 3)) := mu_eq (by omega)
           have hv : 0 = 3 - fr := by first | omega | (rw [if_pos (by omega)]; omega) | (rw [if_pos (by omega)]) | (rw [if_neg (by omega)]; omega) | (rw [if_neg (by omega)])
           have h17_ : (fr : Int) = 0 := by first | omega | exact (if_pos (by omega)).symm | exact (if_neg (by omega)).symm
           have q1 := Sρ21
           have q2 := Xρ21
           have q3 := Fρ21
           rw [hV] at q1 q2 q3
           rw [hv]
           exact k1 (by omega) _ q1 q2 q3 r16_ρ21 (r17_ρ21.trans h17_))
    · refine r_iload_n hC dX6_goFlip_27 rfl ?_
      refine r_aload_n hC dX6_goFlip_28 rfl ?_
      refine r_iload_n hC dX6_goFlip_29 rfl ?_
      refine r_bipush hC dX6_goFlip_30 rfl ?_
      refine z_inv2 hM dX6_goFlip_32 vl_RX6_80 rfl rfl rfl (Nat.le_of_ble_eq_true rfl) (Nat.le_of_ble_eq_true rfl) ?_
      refine y_of (by omega) (by omega) (by omega) (fun o30 => ?_)
      rw [h17]
      refine r_isubE hC (((V 11 l 3) - fr)) dX6_goFlip_35 (by omega) (by unfold inR; omega) ?_
      refine r_goto (tgt := 40) hC dX6_goFlip_36 rfl ?_
      refine r_istore_n hC dX6_goFlip_40 rfl ?_
      refine r_iload_n hC dX6_goFlip_41 rfl ?_
      refine r_if_le (tgt := 53) hC dX6_goFlip_42 rfl (fun h31 => by omega) (fun h31 => ?_)
      refine r_aload_n hC dX6_goFlip_45 rfl ?_
      refine r_iload_n hC dX6_goFlip_46 rfl ?_
      refine r_bipush hC dX6_goFlip_47 rfl ?_
      refine r_iconst hC dX6_goFlip_49 rfl ?_
      refine z_inv3 hM dX6_goFlip_50 vl_RX6_173 rfl rfl rfl (Nat.le_of_ble_eq_true rfl) (Nat.le_of_ble_eq_true rfl) ?_
      refine y_set (by omega) (by omega) ⟨fun h => by omega, fun h => by omega⟩ ?_
      obtain ⟨ρ32, e_ρ32⟩ : ∃ zz_, zz_ = mu σ 31 0 ((22 * l) + 17) 0 := ⟨_, rfl⟩
      rw [← e_ρ32]
      have Sρ32 : SB t σ0 V ρ32 := by rw [e_ρ32, show ((22 * l) + 17) = 22 * l + 17 from by omega]; exact hS.px (by omega)
      have r16_ρ32 : ρ32 31 0 (22 * l + 16) = 1 := by rw [e_ρ32]; exact (mu_ne (by omega)).trans h16
      have r17_ρ32 : ρ32 31 0 (22 * l + 17) = 0 := by rw [e_ρ32, show ((22 * l) + 17) = 22 * l + 17 from by omega]; exact mu_self _ _ _ _ _
      have Xρ32 : KX t l V ρ32 := (hX).e (fun m a b c => by rw [e_ρ32]; exact ⟨mu_ne (by omega), mu_ne (by omega)⟩) (fun m c => rfl)
      have Fρ32 : FB V ρ32 := by rw [e_ρ32]; exact (hFB).e (fun l a b => mu_ne (by omega))
      refine r_aload_n hC dX6_goFlip_53 rfl ?_
      refine r_iload_n hC dX6_goFlip_54 rfl ?_
      refine r_bipush hC dX6_goFlip_55 rfl ?_
      refine r_iload_n hC dX6_goFlip_57 rfl ?_
      refine r_inegS hC dX6_goFlip_58 (by unfold inR; omega) ?_
      refine z_inv3 hM dX6_goFlip_59 vl_RX6_188 rfl rfl rfl (Nat.le_of_ble_eq_true rfl) (Nat.le_of_ble_eq_true rfl) ?_
      refine y_moreE (a := (V 11 l 3)) (by omega) (by omega) (by omega) ⟨fun h => by omega, by omega⟩ ((Sρ32.a11 (s := 3) (f := 15) (by omega) (by omega) (by omega)).trans (rfl)) (by omega) ?_
      rw [show (V 11 l 3) + (-(V 11 l 3)) = ((V 11 l 3) + (-(V 11 l 3))) from by omega]
      obtain ⟨ρ33, e_ρ33⟩ : ∃ zz_, zz_ = mu ρ32 31 0 ((22 * l) + 15) ((V 11 l 3) + (-(V 11 l 3))) := ⟨_, rfl⟩
      rw [← e_ρ33]
      have Sρ33 : SB t σ0 (mu V 11 l 3 ((V 11 l 3) + (-(V 11 l 3)))) ρ33 := by rw [e_ρ33, show ((22 * l) + 15) = 22 * l + 15 from by omega]; exact Sρ32.p11 (by omega) (by omega) (by omega)
      have r16_ρ33 : ρ33 31 0 (22 * l + 16) = 1 := by rw [e_ρ33]; exact (mu_ne (by omega)).trans r16_ρ32
      have r17_ρ33 : ρ33 31 0 (22 * l + 17) = 0 := by rw [e_ρ33]; exact (mu_ne (by omega)).trans r17_ρ32
      have Xρ33 : KX t l (mu V 11 l 3 ((V 11 l 3) + (-(V 11 l 3)))) ρ33 := (Xρ32).e (fun m a b c => by rw [e_ρ33]; exact ⟨mu_ne (by omega), mu_ne (by omega)⟩) (fun m c => mu_ne (by omega))
      have Fρ33 : FB (mu V 11 l 3 ((V 11 l 3) + (-(V 11 l 3)))) ρ33 := by rw [e_ρ33]; exact (Fρ32).e (fun l a b => mu_ne (by omega)) |>.v (fun l y a b c => mu_ne (by omega))
      refine r_aload_n hC dX6_goFlip_62 rfl ?_
      refine r_iload_n hC dX6_goFlip_63 rfl ?_
      refine r_bipush hC dX6_goFlip_64 rfl ?_
      refine z_inv2 hM dX6_goFlip_66 vl_RX6_80 rfl rfl rfl (Nat.le_of_ble_eq_true rfl) (Nat.le_of_ble_eq_true rfl) ?_
      refine y_of (by omega) (by omega) (by omega) (fun o34 => ?_)
      have e35 : ρ33 31 0 (22 * l + 15) = ((V 11 l 3) + (-(V 11 l 3))) := (Sρ33.a11 (s := 3) (f := 15) (by omega) (by omega) (by omega)).trans (mu_self _ _ _ _ _)
      rw [e35] at o34 ⊢
      refine r_if_le (tgt := 74) hC dX6_goFlip_69 rfl (fun h36 => ?_) (fun h36 => ?_)
      · refine r_aload_n hC dX6_goFlip_74 rfl ?_
        refine r_iload_n hC dX6_goFlip_75 rfl ?_
        refine r_bipush hC dX6_goFlip_76 rfl ?_
        refine r_aload_n hC dX6_goFlip_78 rfl ?_
        refine r_iload_n hC dX6_goFlip_79 rfl ?_
        refine r_bipush hC dX6_goFlip_80 rfl ?_
        refine z_inv2 hM dX6_goFlip_82 vl_RX6_80 rfl rfl rfl (Nat.le_of_ble_eq_true rfl) (Nat.le_of_ble_eq_true rfl) ?_
        refine y_of (by omega) (by omega) (by omega) (fun o37 => ?_)
        have e38 : ρ33 31 0 (22 * l + 13) = (V 11 l 1) := (Sρ33.a11 (s := 1) (f := 13) (by omega) (by omega) (by omega)).trans ((mu_ne (by omega)).trans (rfl))
        rw [e38] at o37 ⊢
        refine z_inv3 hM dX6_goFlip_85 vl_RX6_188 rfl rfl rfl (Nat.le_of_ble_eq_true rfl) (Nat.le_of_ble_eq_true rfl) ?_
        refine y_moreE (a := (V 11 l 0)) (by omega) (by omega) (by omega) ⟨fun h => by omega, by omega⟩ ((Sρ33.a11 (s := 0) (f := 12) (by omega) (by omega) (by omega)).trans ((mu_ne (by omega)).trans (rfl))) (by omega) ?_
        rw [show (V 11 l 0) + (V 11 l 1) = ((V 11 l 0) + (V 11 l 1)) from by omega]
        obtain ⟨ρ39, e_ρ39⟩ : ∃ zz_, zz_ = mu ρ33 31 0 ((22 * l) + 12) ((V 11 l 0) + (V 11 l 1)) := ⟨_, rfl⟩
        rw [← e_ρ39]
        have Sρ39 : SB t σ0 (mu (mu V 11 l 3 ((V 11 l 3) + (-(V 11 l 3)))) 11 l 0 ((V 11 l 0) + (V 11 l 1))) ρ39 := by rw [e_ρ39, show ((22 * l) + 12) = 22 * l + 12 from by omega]; exact Sρ33.p11 (by omega) (by omega) (by omega)
        have r16_ρ39 : ρ39 31 0 (22 * l + 16) = 1 := by rw [e_ρ39]; exact (mu_ne (by omega)).trans r16_ρ33
        have r17_ρ39 : ρ39 31 0 (22 * l + 17) = 0 := by rw [e_ρ39]; exact (mu_ne (by omega)).trans r17_ρ33
        have Xρ39 : KX t l (mu (mu V 11 l 3 ((V 11 l 3) + (-(V 11 l 3)))) 11 l 0 ((V 11 l 0) + (V 11 l 1))) ρ39 := (Xρ33).e (fun m a b c => by rw [e_ρ39]; exact ⟨mu_ne (by omega), mu_ne (by omega)⟩) (fun m c => mu_ne (by omega))
        have Fρ39 : FB (mu (mu V 11 l 3 ((V 11 l 3) + (-(V 11 l 3)))) 11 l 0 ((V 11 l 0) + (V 11 l 1))) ρ39 := by rw [e_ρ39]; exact (Fρ33).e (fun l a b => mu_ne (by omega)) |>.v (fun l y a b c => mu_ne (by omega))
        refine r_aload_n hC dX6_goFlip_88 rfl ?_
        refine r_iload_n hC dX6_goFlip_89 rfl ?_
        refine r_bipush hC dX6_goFlip_90 rfl ?_
        refine r_iconst hC dX6_goFlip_92 rfl ?_
        refine z_inv3 hM dX6_goFlip_93 vl_RX6_173 rfl rfl rfl (Nat.le_of_ble_eq_true rfl) (Nat.le_of_ble_eq_true rfl) ?_
        refine y_set (by omega) (by omega) ⟨fun h => by omega, fun h => by omega⟩ ?_
        obtain ⟨ρ40, e_ρ40⟩ : ∃ zz_, zz_ = mu ρ39 31 0 ((22 * l) + 13) 0 := ⟨_, rfl⟩
        rw [← e_ρ40]
        have Sρ40 : SB t σ0 (mu (mu (mu V 11 l 3 ((V 11 l 3) + (-(V 11 l 3)))) 11 l 0 ((V 11 l 0) + (V 11 l 1))) 11 l 1 0) ρ40 := by rw [e_ρ40, show ((22 * l) + 13) = 22 * l + 13 from by omega]; exact Sρ39.p11 (by omega) (by omega) (by omega)
        have r16_ρ40 : ρ40 31 0 (22 * l + 16) = 1 := by rw [e_ρ40]; exact (mu_ne (by omega)).trans r16_ρ39
        have r17_ρ40 : ρ40 31 0 (22 * l + 17) = 0 := by rw [e_ρ40]; exact (mu_ne (by omega)).trans r17_ρ39
        have Xρ40 : KX t l (mu (mu (mu V 11 l 3 ((V 11 l 3) + (-(V 11 l 3)))) 11 l 0 ((V 11 l 0) + (V 11 l 1))) 11 l 1 0) ρ40 := (Xρ39).e (fun m a b c => by rw [e_ρ40]; exact ⟨mu_ne (by omega), mu_ne (by omega)⟩) (fun m c => mu_ne (by omega))
        have Fρ40 : FB (mu (mu (mu V 11 l 3 ((V 11 l 3) + (-(V 11 l 3)))) 11 l 0 ((V 11 l 0) + (V 11 l 1))) 11 l 1 0) ρ40 := by rw [e_ρ40]; exact (Fρ39).e (fun l a b => mu_ne (by omega)) |>.v (fun l y a b c => mu_ne (by omega))
        refine r_aload_n hC dX6_goFlip_96 rfl ?_
        refine r_iload_n hC dX6_goFlip_97 rfl ?_
        refine r_bipush hC dX6_goFlip_98 rfl ?_
        refine r_iconst hC dX6_goFlip_100 rfl ?_
        refine z_inv3 hM dX6_goFlip_101 vl_RX6_173 rfl rfl rfl (Nat.le_of_ble_eq_true rfl) (Nat.le_of_ble_eq_true rfl) ?_
        refine y_set (by omega) (by omega) ⟨fun h => by omega, fun h => by omega⟩ ?_
        obtain ⟨ρ41, e_ρ41⟩ : ∃ zz_, zz_ = mu ρ40 31 0 ((22 * l) + 16) 0 := ⟨_, rfl⟩
        rw [← e_ρ41]
        have Sρ41 : SB t σ0 (mu (mu (mu V 11 l 3 ((V 11 l 3) + (-(V 11 l 3)))) 11 l 0 ((V 11 l 0) + (V 11 l 1))) 11 l 1 0) ρ41 := by rw [e_ρ41, show ((22 * l) + 16) = 22 * l + 16 from by omega]; exact Sρ40.px (by omega)
        have r16_ρ41 : ρ41 31 0 (22 * l + 16) = 0 := by rw [e_ρ41, show ((22 * l) + 16) = 22 * l + 16 from by omega]; exact mu_self _ _ _ _ _
        have r17_ρ41 : ρ41 31 0 (22 * l + 17) = 0 := by rw [e_ρ41]; exact (mu_ne (by omega)).trans r17_ρ40
        have Xρ41 : KX t l (mu (mu (mu V 11 l 3 ((V 11 l 3) + (-(V 11 l 3)))) 11 l 0 ((V 11 l 0) + (V 11 l 1))) 11 l 1 0) ρ41 := (Xρ40).e (fun m a b c => by rw [e_ρ41]; exact ⟨mu_ne (by omega), mu_ne (by omega)⟩) (fun m c => rfl)
        have Fρ41 : FB (mu (mu (mu V 11 l 3 ((V 11 l 3) + (-(V 11 l 3)))) 11 l 0 ((V 11 l 0) + (V 11 l 1))) 11 l 1 0) ρ41 := by rw [e_ρ41]; exact (Fρ40).e (fun l a b => mu_ne (by omega))
        refine r_iload_n hC dX6_goFlip_104 rfl ?_
        refine y_iret hK rfl dX6_goFlip_105 ?_
        first
        | (exfalso; omega)
        | (have hV : (mu (mu (mu V 11 l 3 ((V 11 l 3) + (-(V 11 l 3)))) 11 l 0 ((V 11 l 0) + (V 11 l 1))) 11 l 1 0) = (mu (mu (mu V 11 l 3 0) 11 l 0 (V 11 l 0 + V 11 l 1)) 11 l 1 0) := mu_eq3 (by omega) (by omega)
           have hv : ((V 11 l 3) - fr) = (if 0 < V 11 l 3 then V 11 l 3 - fr else 0) := by first | omega | (rw [if_pos (by omega)]; omega) | (rw [if_pos (by omega)]) | (rw [if_neg (by omega)]; omega) | (rw [if_neg (by omega)])
           have h17_ : (0 : Int) = (if 0 < V 11 l 3 then 0 else fr) := by first | omega | exact (if_pos (by omega)).symm | exact (if_neg (by omega)).symm
           have q1 := Sρ41
           have q2 := Xρ41
           have q3 := Fρ41
           rw [hV] at q1 q2 q3
           rw [hv]
           exact k0 (by omega) _ q1 q2 q3 r16_ρ41 (r17_ρ41.trans h17_))
      · refine r_iload_n hC dX6_goFlip_72 rfl ?_
        refine y_iret hK rfl dX6_goFlip_73 ?_
        first
        | (exfalso; omega)
        | (have hV : (mu V 11 l 3 ((V 11 l 3) + (-(V 11 l 3)))) = (mu V 11 l 3 (V 11 l 3 - 3)) := mu_eq (by omega)
           have hv : ((V 11 l 3) - fr) = 3 - fr := by first | omega | (rw [if_pos (by omega)]; omega) | (rw [if_pos (by omega)]) | (rw [if_neg (by omega)]; omega) | (rw [if_neg (by omega)])
           have h17_ : (0 : Int) = 0 := by first | omega | exact (if_pos (by omega)).symm | exact (if_neg (by omega)).symm
           have q1 := Sρ33
           have q2 := Xρ33
           have q3 := Fρ33
           rw [hV] at q1 q2 q3
           rw [hv]
           exact k1 (by omega) _ q1 q2 q3 r16_ρ33 (r17_ρ33.trans h17_))
