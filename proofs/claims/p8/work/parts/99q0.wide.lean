-- B: ends of MOVES, wide
theorem y_goFlipW {eb : Bool} {t : Int} {V : Mm} {d : Nat} {P : Option Vl → Mm → Prop} {σ : Mm} {l : Int} (b_l : 0 ≤ l ∧ l ≤ 7) {σ0 : Mm} {fl fr : Int} (ht : 6 ≤ t ∧ t ≤ 7) (hS : SB t σ0 V σ) (hX : KX t l V σ) (hFB : FB V σ) (hl : l ≤ t) (hb : (0 ≤ V 11 l 0 ∧ V 11 l 0 ≤ 400) ∧ (0 ≤ V 11 l 1 ∧ V 11 l 1 ≤ 400) ∧ (0 ≤ V 11 l 2 ∧ V 11 l 2 ≤ 400) ∧ 0 ≤ V 11 l 3 ∧ V 11 l 3 ≤ 1000) (hfr : 0 ≤ fr ∧ fr ≤ 1) (h16 : σ 31 0 (22 * l + 16) = 1) (h17 : σ 31 0 (22 * l + 17) = fr)  (k1 : 3 < V 11 l 3 → ∀ ρ : Mm, SB t σ0 (mu V 11 l 3 (V 11 l 3 - 3)) ρ → KX t l (mu V 11 l 3 (V 11 l 3 - 3)) ρ → FB (mu V 11 l 3 (V 11 l 3 - 3)) ρ → ρ 31 0 (22 * l + 16) = 1 → ρ 31 0 (22 * l + 17) = 0 → P (some (vI (3 - fr))) ρ) (k0 : V 11 l 3 ≤ 3 → ∀ ρ : Mm, SB t σ0 (mu (mu (mu V 11 l 3 0) 11 l 0 (V 11 l 0 + V 11 l 1)) 11 l 1 0) ρ → KX t l (mu (mu (mu V 11 l 3 0) 11 l 0 (V 11 l 0 + V 11 l 1)) 11 l 1 0) ρ → FB (mu (mu (mu V 11 l 3 0) 11 l 0 (V 11 l 0 + V 11 l 1)) 11 l 1 0) ρ → ρ 31 0 (22 * l + 16) = 0 → ρ 31 0 (22 * l + 17) = (if 0 < V 11 l 3 then 0 else fr) → P (some (vI (if 0 < V 11 l 3 then V 11 l 3 - fr else 0))) ρ) : WT (true, eb, true) (d + 2) 178 [vR 30 0, vI l] σ P := by
  refine WT_in fun K hK => ?_
  have hK : StpY (true, eb, true) cX6_goFlip RX6 (some .int) (WT (true, eb, true) (d + 1)) P K := hK
  have hM := hK.1
  have hC := hK.1.1
  show K 0 [some (vR 30 0), some (vI l), none, none] [] σ
  refine r_aload_n hC dX6_goFlip_0 rfl ?_
  refine r_iload_n hC dX6_goFlip_1 rfl ?_
  refine r_bipush hC dX6_goFlip_2 rfl ?_
  refine z_inv2 hM dX6_goFlip_4 vl_RX6_80 rfl rfl rfl (Nat.le_of_ble_eq_true rfl) (Nat.le_of_ble_eq_true rfl) ?_
  refine y_of (by omega) (by omega) (by omega) (fun o1 => ?_)
  have e2 : σ 31 0 (22 * l + 15) = (V 11 l 3) := (hS.a11 (s := 3) (f := 15) (by omega) (by omega) (by omega)).trans (rfl)
  rw [e2] at o1 ⊢
  refine r_iconst hC dX6_goFlip_7 rfl ?_
  refine r_icmp_ge (tgt := 21) hC dX6_goFlip_8 rfl (fun h3 => ?_) (fun h3 => ?_)
  · refine r_iconst hC dX6_goFlip_21 rfl ?_
    refine r_istore_n hC dX6_goFlip_22 rfl ?_
    refine r_iload_n hC dX6_goFlip_23 rfl ?_
    refine r_if_le (tgt := 39) hC dX6_goFlip_24 rfl (fun h4 => by omega) (fun h4 => ?_)
    refine r_iload_n hC dX6_goFlip_27 rfl ?_
    refine r_aload_n hC dX6_goFlip_28 rfl ?_
    refine r_iload_n hC dX6_goFlip_29 rfl ?_
    refine r_bipush hC dX6_goFlip_30 rfl ?_
    refine z_inv2 hM dX6_goFlip_32 vl_RX6_80 rfl rfl rfl (Nat.le_of_ble_eq_true rfl) (Nat.le_of_ble_eq_true rfl) ?_
    refine y_of (by omega) (by omega) (by omega) (fun o5 => ?_)
    rw [h17]
    refine r_isubE hC ((3 - fr)) dX6_goFlip_35 (by omega) (by unfold inR; omega) ?_
    refine r_goto (tgt := 40) hC dX6_goFlip_36 rfl ?_
    refine r_istore_n hC dX6_goFlip_40 rfl ?_
    refine r_iload_n hC dX6_goFlip_41 rfl ?_
    refine r_if_le (tgt := 53) hC dX6_goFlip_42 rfl (fun h6 => by omega) (fun h6 => ?_)
    refine r_aload_n hC dX6_goFlip_45 rfl ?_
    refine r_iload_n hC dX6_goFlip_46 rfl ?_
    refine r_bipush hC dX6_goFlip_47 rfl ?_
    refine r_iconst hC dX6_goFlip_49 rfl ?_
    refine z_inv3 hM dX6_goFlip_50 vl_RX6_173 rfl rfl rfl (Nat.le_of_ble_eq_true rfl) (Nat.le_of_ble_eq_true rfl) ?_
    refine y_set (by omega) (by omega) ⟨fun h => by omega, fun h => by omega⟩ ?_
    obtain ⟨ρ7, e_ρ7⟩ : ∃ zz_, zz_ = mu σ 31 0 ((22 * l) + 17) 0 := ⟨_, rfl⟩
    rw [← e_ρ7]
    have Sρ7 : SB t σ0 V ρ7 := by rw [e_ρ7, show ((22 * l) + 17) = 22 * l + 17 from by omega]; exact hS.px (by omega)
    have r16a_ρ7 : ρ7 31 0 (22 * l + 16) = 1 := by rw [e_ρ7]; exact (mu_ne (by omega)).trans h16
    have r17b_ρ7 : ρ7 31 0 (22 * l + 17) = 0 := by rw [e_ρ7, show ((22 * l) + 17) = 22 * l + 17 from by omega]; exact mu_self _ _ _ _ _
    have Xρ7 : KX t l V ρ7 := (hX).e (fun m a b c => by rw [e_ρ7]; exact ⟨mu_ne (by omega), mu_ne (by omega)⟩) (fun m c => rfl)
    have Fρ7 : FB V ρ7 := by rw [e_ρ7]; exact (hFB).e (fun l a b => mu_ne (by omega))
    refine r_aload_n hC dX6_goFlip_53 rfl ?_
    refine r_iload_n hC dX6_goFlip_54 rfl ?_
    refine r_bipush hC dX6_goFlip_55 rfl ?_
    refine r_iload_n hC dX6_goFlip_57 rfl ?_
    refine r_inegS hC dX6_goFlip_58 (by unfold inR; omega) ?_
    refine z_inv3 hM dX6_goFlip_59 vl_RX6_188 rfl rfl rfl (Nat.le_of_ble_eq_true rfl) (Nat.le_of_ble_eq_true rfl) ?_
    refine y_moreE (a := (V 11 l 3)) (by omega) (by omega) (by omega) ⟨fun h => by omega, by omega⟩ ((Sρ7.a11 (s := 3) (f := 15) (by omega) (by omega) (by omega)).trans (rfl)) (by omega) ?_
    rw [show (V 11 l 3) + (-3) = ((V 11 l 3) + (-3)) from by omega]
    obtain ⟨ρ8, e_ρ8⟩ : ∃ zz_, zz_ = mu ρ7 31 0 ((22 * l) + 15) ((V 11 l 3) + (-3)) := ⟨_, rfl⟩
    rw [← e_ρ8]
    have Sρ8 : SB t σ0 (mu V 11 l 3 ((V 11 l 3) + (-3))) ρ8 := by rw [e_ρ8, show ((22 * l) + 15) = 22 * l + 15 from by omega]; exact Sρ7.p11 (by omega) (by omega) (by omega)
    have r16a_ρ8 : ρ8 31 0 (22 * l + 16) = 1 := by rw [e_ρ8]; exact (mu_ne (by omega)).trans r16a_ρ7
    have r17b_ρ8 : ρ8 31 0 (22 * l + 17) = 0 := by rw [e_ρ8]; exact (mu_ne (by omega)).trans r17b_ρ7
    have Xρ8 : KX t l (mu V 11 l 3 ((V 11 l 3) + (-3))) ρ8 := (Xρ7).e (fun m a b c => by rw [e_ρ8]; exact ⟨mu_ne (by omega), mu_ne (by omega)⟩) (fun m c => mu_ne (by omega))
    have Fρ8 : FB (mu V 11 l 3 ((V 11 l 3) + (-3))) ρ8 := by rw [e_ρ8]; exact (Fρ7).e (fun l a b => mu_ne (by omega)) |>.v (fun l y a b c => mu_ne (by omega))
    refine r_aload_n hC dX6_goFlip_62 rfl ?_
    refine r_iload_n hC dX6_goFlip_63 rfl ?_
    refine r_bipush hC dX6_goFlip_64 rfl ?_
    refine z_inv2 hM dX6_goFlip_66 vl_RX6_80 rfl rfl rfl (Nat.le_of_ble_eq_true rfl) (Nat.le_of_ble_eq_true rfl) ?_
    refine y_of (by omega) (by omega) (by omega) (fun o9 => ?_)
    have e10 : ρ8 31 0 (22 * l + 15) = ((V 11 l 3) + (-3)) := (Sρ8.a11 (s := 3) (f := 15) (by omega) (by omega) (by omega)).trans (mu_self _ _ _ _ _)
    rw [e10] at o9 ⊢
    refine r_if_le (tgt := 74) hC dX6_goFlip_69 rfl (fun h11 => ?_) (fun h11 => ?_)
    · refine r_aload_n hC dX6_goFlip_74 rfl ?_
      refine r_iload_n hC dX6_goFlip_75 rfl ?_
      refine r_bipush hC dX6_goFlip_76 rfl ?_
      refine r_aload_n hC dX6_goFlip_78 rfl ?_
      refine r_iload_n hC dX6_goFlip_79 rfl ?_
      refine r_bipush hC dX6_goFlip_80 rfl ?_
      refine z_inv2 hM dX6_goFlip_82 vl_RX6_80 rfl rfl rfl (Nat.le_of_ble_eq_true rfl) (Nat.le_of_ble_eq_true rfl) ?_
      refine y_of (by omega) (by omega) (by omega) (fun o12 => ?_)
      have e13 : ρ8 31 0 (22 * l + 13) = (V 11 l 1) := (Sρ8.a11 (s := 1) (f := 13) (by omega) (by omega) (by omega)).trans ((mu_ne (by omega)).trans (rfl))
      rw [e13] at o12 ⊢
      refine z_inv3 hM dX6_goFlip_85 vl_RX6_188 rfl rfl rfl (Nat.le_of_ble_eq_true rfl) (Nat.le_of_ble_eq_true rfl) ?_
      refine y_moreE (a := (V 11 l 0)) (by omega) (by omega) (by omega) ⟨fun h => by omega, by omega⟩ ((Sρ8.a11 (s := 0) (f := 12) (by omega) (by omega) (by omega)).trans ((mu_ne (by omega)).trans (rfl))) (by omega) ?_
      rw [show (V 11 l 0) + (V 11 l 1) = ((V 11 l 0) + (V 11 l 1)) from by omega]
      obtain ⟨ρ14, e_ρ14⟩ : ∃ zz_, zz_ = mu ρ8 31 0 ((22 * l) + 12) ((V 11 l 0) + (V 11 l 1)) := ⟨_, rfl⟩
      rw [← e_ρ14]
      have Sρ14 : SB t σ0 (mu (mu V 11 l 3 ((V 11 l 3) + (-3))) 11 l 0 ((V 11 l 0) + (V 11 l 1))) ρ14 := by rw [e_ρ14, show ((22 * l) + 12) = 22 * l + 12 from by omega]; exact Sρ8.p11 (by omega) (by omega) (by omega)
      have r16a_ρ14 : ρ14 31 0 (22 * l + 16) = 1 := by rw [e_ρ14]; exact (mu_ne (by omega)).trans r16a_ρ8
      have r17b_ρ14 : ρ14 31 0 (22 * l + 17) = 0 := by rw [e_ρ14]; exact (mu_ne (by omega)).trans r17b_ρ8
      have Xρ14 : KX t l (mu (mu V 11 l 3 ((V 11 l 3) + (-3))) 11 l 0 ((V 11 l 0) + (V 11 l 1))) ρ14 := (Xρ8).e (fun m a b c => by rw [e_ρ14]; exact ⟨mu_ne (by omega), mu_ne (by omega)⟩) (fun m c => mu_ne (by omega))
      have Fρ14 : FB (mu (mu V 11 l 3 ((V 11 l 3) + (-3))) 11 l 0 ((V 11 l 0) + (V 11 l 1))) ρ14 := by rw [e_ρ14]; exact (Fρ8).e (fun l a b => mu_ne (by omega)) |>.v (fun l y a b c => mu_ne (by omega))
      refine r_aload_n hC dX6_goFlip_88 rfl ?_
      refine r_iload_n hC dX6_goFlip_89 rfl ?_
      refine r_bipush hC dX6_goFlip_90 rfl ?_
      refine r_iconst hC dX6_goFlip_92 rfl ?_
      refine z_inv3 hM dX6_goFlip_93 vl_RX6_173 rfl rfl rfl (Nat.le_of_ble_eq_true rfl) (Nat.le_of_ble_eq_true rfl) ?_
      refine y_set (by omega) (by omega) ⟨fun h => by omega, fun h => by omega⟩ ?_
      obtain ⟨ρ15, e_ρ15⟩ : ∃ zz_, zz_ = mu ρ14 31 0 ((22 * l) + 13) 0 := ⟨_, rfl⟩
      rw [← e_ρ15]
      have Sρ15 : SB t σ0 (mu (mu (mu V 11 l 3 ((V 11 l 3) + (-3))) 11 l 0 ((V 11 l 0) + (V 11 l 1))) 11 l 1 0) ρ15 := by rw [e_ρ15, show ((22 * l) + 13) = 22 * l + 13 from by omega]; exact Sρ14.p11 (by omega) (by omega) (by omega)
      have r16a_ρ15 : ρ15 31 0 (22 * l + 16) = 1 := by rw [e_ρ15]; exact (mu_ne (by omega)).trans r16a_ρ14
      have r17b_ρ15 : ρ15 31 0 (22 * l + 17) = 0 := by rw [e_ρ15]; exact (mu_ne (by omega)).trans r17b_ρ14
      have Xρ15 : KX t l (mu (mu (mu V 11 l 3 ((V 11 l 3) + (-3))) 11 l 0 ((V 11 l 0) + (V 11 l 1))) 11 l 1 0) ρ15 := (Xρ14).e (fun m a b c => by rw [e_ρ15]; exact ⟨mu_ne (by omega), mu_ne (by omega)⟩) (fun m c => mu_ne (by omega))
      have Fρ15 : FB (mu (mu (mu V 11 l 3 ((V 11 l 3) + (-3))) 11 l 0 ((V 11 l 0) + (V 11 l 1))) 11 l 1 0) ρ15 := by rw [e_ρ15]; exact (Fρ14).e (fun l a b => mu_ne (by omega)) |>.v (fun l y a b c => mu_ne (by omega))
      refine r_aload_n hC dX6_goFlip_96 rfl ?_
      refine r_iload_n hC dX6_goFlip_97 rfl ?_
      refine r_bipush hC dX6_goFlip_98 rfl ?_
      refine r_iconst hC dX6_goFlip_100 rfl ?_
      refine z_inv3 hM dX6_goFlip_101 vl_RX6_173 rfl rfl rfl (Nat.le_of_ble_eq_true rfl) (Nat.le_of_ble_eq_true rfl) ?_
      refine y_set (by omega) (by omega) ⟨fun h => by omega, fun h => by omega⟩ ?_
      obtain ⟨ρ16, e_ρ16⟩ : ∃ zz_, zz_ = mu ρ15 31 0 ((22 * l) + 16) 0 := ⟨_, rfl⟩
      rw [← e_ρ16]
      have Sρ16 : SB t σ0 (mu (mu (mu V 11 l 3 ((V 11 l 3) + (-3))) 11 l 0 ((V 11 l 0) + (V 11 l 1))) 11 l 1 0) ρ16 := by rw [e_ρ16, show ((22 * l) + 16) = 22 * l + 16 from by omega]; exact Sρ15.px (by omega)
      have r16a_ρ16 : ρ16 31 0 (22 * l + 16) = 0 := by rw [e_ρ16, show ((22 * l) + 16) = 22 * l + 16 from by omega]; exact mu_self _ _ _ _ _
      have r17b_ρ16 : ρ16 31 0 (22 * l + 17) = 0 := by rw [e_ρ16]; exact (mu_ne (by omega)).trans r17b_ρ15
      have Xρ16 : KX t l (mu (mu (mu V 11 l 3 ((V 11 l 3) + (-3))) 11 l 0 ((V 11 l 0) + (V 11 l 1))) 11 l 1 0) ρ16 := (Xρ15).e (fun m a b c => by rw [e_ρ16]; exact ⟨mu_ne (by omega), mu_ne (by omega)⟩) (fun m c => rfl)
      have Fρ16 : FB (mu (mu (mu V 11 l 3 ((V 11 l 3) + (-3))) 11 l 0 ((V 11 l 0) + (V 11 l 1))) 11 l 1 0) ρ16 := by rw [e_ρ16]; exact (Fρ15).e (fun l a b => mu_ne (by omega))
      refine r_iload_n hC dX6_goFlip_104 rfl ?_
      refine y_iret hK rfl dX6_goFlip_105 ?_
      first
      | (exfalso; omega)
      | (have hV : (mu (mu (mu V 11 l 3 ((V 11 l 3) + (-3))) 11 l 0 ((V 11 l 0) + (V 11 l 1))) 11 l 1 0) = (mu (mu (mu V 11 l 3 0) 11 l 0 (V 11 l 0 + V 11 l 1)) 11 l 1 0) := mu_eq3 (by omega) (by omega)
         have hv : (3 - fr) = (if 0 < V 11 l 3 then V 11 l 3 - fr else 0) := by first | omega | (rw [if_pos (by omega)]; omega) | (rw [if_pos (by omega)]) | (rw [if_neg (by omega)]; omega) | (rw [if_neg (by omega)])
         have h17_ : (0 : Int) = (if 0 < V 11 l 3 then 0 else fr) := by first | omega | exact (if_pos (by omega)).symm | exact (if_neg (by omega)).symm
         have q1 := Sρ16
         have q2 := Xρ16
         have q3 := Fρ16
         rw [hV] at q1 q2 q3
         rw [hv]
         exact k0 (by omega) _ q1 q2 q3 r16a_ρ16 (r17b_ρ16.trans h17_))
    · refine r_iload_n hC dX6_goFlip_72 rfl ?_
      refine y_iret hK rfl dX6_goFlip_73 ?_
      first
      | (exfalso; omega)
      | (have hV : (mu V 11 l 3 ((V 11 l 3) + (-3))) = (mu V 11 l 3 (V 11 l 3 - 3)) := mu_eq (by omega)
         have hv : (3 - fr) = 3 - fr := by first | omega | (rw [if_pos (by omega)]; omega) | (rw [if_pos (by omega)]) | (rw [if_neg (by omega)]; omega) | (rw [if_neg (by omega)])
         have h17_ : (0 : Int) = 0 := by first | omega | exact (if_pos (by omega)).symm | exact (if_neg (by omega)).symm
         have q1 := Sρ8
         have q2 := Xρ8
         have q3 := Fρ8
         rw [hV] at q1 q2 q3
         rw [hv]
         exact k1 (by omega) _ q1 q2 q3 r16a_ρ8 (r17b_ρ8.trans h17_))
  · refine r_aload_n hC dX6_goFlip_11 rfl ?_
    refine r_iload_n hC dX6_goFlip_12 rfl ?_
    refine r_bipush hC dX6_goFlip_13 rfl ?_
    refine z_inv2 hM dX6_goFlip_15 vl_RX6_80 rfl rfl rfl (Nat.le_of_ble_eq_true rfl) (Nat.le_of_ble_eq_true rfl) ?_
    refine y_of (by omega) (by omega) (by omega) (fun o17 => ?_)
    have e18 : σ 31 0 (22 * l + 15) = (V 11 l 3) := (hS.a11 (s := 3) (f := 15) (by omega) (by omega) (by omega)).trans (rfl)
    rw [e18] at o17 ⊢
    refine r_goto (tgt := 22) hC dX6_goFlip_18 rfl ?_
    refine r_istore_n hC dX6_goFlip_22 rfl ?_
    refine r_iload_n hC dX6_goFlip_23 rfl ?_
    refine r_if_le (tgt := 39) hC dX6_goFlip_24 rfl (fun h19 => ?_) (fun h19 => ?_)
    · refine r_iconst hC dX6_goFlip_39 rfl ?_
      refine r_istore_n hC dX6_goFlip_40 rfl ?_
      refine r_iload_n hC dX6_goFlip_41 rfl ?_
      refine r_if_le (tgt := 53) hC dX6_goFlip_42 rfl (fun h20 => ?_) (fun h20 => by omega)
      refine r_aload_n hC dX6_goFlip_53 rfl ?_
      refine r_iload_n hC dX6_goFlip_54 rfl ?_
      refine r_bipush hC dX6_goFlip_55 rfl ?_
      refine r_iload_n hC dX6_goFlip_57 rfl ?_
      refine r_inegS hC dX6_goFlip_58 (by unfold inR; omega) ?_
      refine z_inv3 hM dX6_goFlip_59 vl_RX6_188 rfl rfl rfl (Nat.le_of_ble_eq_true rfl) (Nat.le_of_ble_eq_true rfl) ?_
      refine y_moreE (a := (V 11 l 3)) (by omega) (by omega) (by omega) ⟨fun h => by omega, by omega⟩ ((hS.a11 (s := 3) (f := 15) (by omega) (by omega) (by omega)).trans (rfl)) (by omega) ?_
      rw [show (V 11 l 3) + (-(V 11 l 3)) = ((V 11 l 3) + (-(V 11 l 3))) from by omega]
      obtain ⟨ρ21, e_ρ21⟩ : ∃ zz_, zz_ = mu σ 31 0 ((22 * l) + 15) ((V 11 l 3) + (-(V 11 l 3))) := ⟨_, rfl⟩
      rw [← e_ρ21]
      have Sρ21 : SB t σ0 (mu V 11 l 3 ((V 11 l 3) + (-(V 11 l 3)))) ρ21 := by rw [e_ρ21, show ((22 * l) + 15) = 22 * l + 15 from by omega]; exact hS.p11 (by omega) (by omega) (by omega)
      have r16a_ρ21 : ρ21 31 0 (22 * l + 16) = 1 := by rw [e_ρ21]; exact (mu_ne (by omega)).trans h16
      have r17b_ρ21 : ρ21 31 0 (22 * l + 17) = fr := by rw [e_ρ21]; exact (mu_ne (by omega)).trans h17
      have Xρ21 : KX t l (mu V 11 l 3 ((V 11 l 3) + (-(V 11 l 3)))) ρ21 := (hX).e (fun m a b c => by rw [e_ρ21]; exact ⟨mu_ne (by omega), mu_ne (by omega)⟩) (fun m c => mu_ne (by omega))
      have Fρ21 : FB (mu V 11 l 3 ((V 11 l 3) + (-(V 11 l 3)))) ρ21 := by rw [e_ρ21]; exact (hFB).e (fun l a b => mu_ne (by omega)) |>.v (fun l y a b c => mu_ne (by omega))
      refine r_aload_n hC dX6_goFlip_62 rfl ?_
      refine r_iload_n hC dX6_goFlip_63 rfl ?_
      refine r_bipush hC dX6_goFlip_64 rfl ?_
      refine z_inv2 hM dX6_goFlip_66 vl_RX6_80 rfl rfl rfl (Nat.le_of_ble_eq_true rfl) (Nat.le_of_ble_eq_true rfl) ?_
      refine y_of (by omega) (by omega) (by omega) (fun o22 => ?_)
      have e23 : ρ21 31 0 (22 * l + 15) = ((V 11 l 3) + (-(V 11 l 3))) := (Sρ21.a11 (s := 3) (f := 15) (by omega) (by omega) (by omega)).trans (mu_self _ _ _ _ _)
      rw [e23] at o22 ⊢
      refine r_if_le (tgt := 74) hC dX6_goFlip_69 rfl (fun h24 => ?_) (fun h24 => ?_)
      · refine r_aload_n hC dX6_goFlip_74 rfl ?_
        refine r_iload_n hC dX6_goFlip_75 rfl ?_
        refine r_bipush hC dX6_goFlip_76 rfl ?_
        refine r_aload_n hC dX6_goFlip_78 rfl ?_
        refine r_iload_n hC dX6_goFlip_79 rfl ?_
        refine r_bipush hC dX6_goFlip_80 rfl ?_
        refine z_inv2 hM dX6_goFlip_82 vl_RX6_80 rfl rfl rfl (Nat.le_of_ble_eq_true rfl) (Nat.le_of_ble_eq_true rfl) ?_
        refine y_of (by omega) (by omega) (by omega) (fun o25 => ?_)
        have e26 : ρ21 31 0 (22 * l + 13) = (V 11 l 1) := (Sρ21.a11 (s := 1) (f := 13) (by omega) (by omega) (by omega)).trans ((mu_ne (by omega)).trans (rfl))
        rw [e26] at o25 ⊢
        refine z_inv3 hM dX6_goFlip_85 vl_RX6_188 rfl rfl rfl (Nat.le_of_ble_eq_true rfl) (Nat.le_of_ble_eq_true rfl) ?_
        refine y_moreE (a := (V 11 l 0)) (by omega) (by omega) (by omega) ⟨fun h => by omega, by omega⟩ ((Sρ21.a11 (s := 0) (f := 12) (by omega) (by omega) (by omega)).trans ((mu_ne (by omega)).trans (rfl))) (by omega) ?_
        rw [show (V 11 l 0) + (V 11 l 1) = ((V 11 l 0) + (V 11 l 1)) from by omega]
        obtain ⟨ρ27, e_ρ27⟩ : ∃ zz_, zz_ = mu ρ21 31 0 ((22 * l) + 12) ((V 11 l 0) + (V 11 l 1)) := ⟨_, rfl⟩
        rw [← e_ρ27]
        have Sρ27 : SB t σ0 (mu (mu V 11 l 3 ((V 11 l 3) + (-(V 11 l 3)))) 11 l 0 ((V 11 l 0) + (V 11 l 1))) ρ27 := by rw [e_ρ27, show ((22 * l) + 12) = 22 * l + 12 from by omega]; exact Sρ21.p11 (by omega) (by omega) (by omega)
        have r16a_ρ27 : ρ27 31 0 (22 * l + 16) = 1 := by rw [e_ρ27]; exact (mu_ne (by omega)).trans r16a_ρ21
        have r17b_ρ27 : ρ27 31 0 (22 * l + 17) = fr := by rw [e_ρ27]; exact (mu_ne (by omega)).trans r17b_ρ21
        have Xρ27 : KX t l (mu (mu V 11 l 3 ((V 11 l 3) + (-(V 11 l 3)))) 11 l 0 ((V 11 l 0) + (V 11 l 1))) ρ27 := (Xρ21).e (fun m a b c => by rw [e_ρ27]; exact ⟨mu_ne (by omega), mu_ne (by omega)⟩) (fun m c => mu_ne (by omega))
        have Fρ27 : FB (mu (mu V 11 l 3 ((V 11 l 3) + (-(V 11 l 3)))) 11 l 0 ((V 11 l 0) + (V 11 l 1))) ρ27 := by rw [e_ρ27]; exact (Fρ21).e (fun l a b => mu_ne (by omega)) |>.v (fun l y a b c => mu_ne (by omega))
        refine r_aload_n hC dX6_goFlip_88 rfl ?_
        refine r_iload_n hC dX6_goFlip_89 rfl ?_
        refine r_bipush hC dX6_goFlip_90 rfl ?_
        refine r_iconst hC dX6_goFlip_92 rfl ?_
        refine z_inv3 hM dX6_goFlip_93 vl_RX6_173 rfl rfl rfl (Nat.le_of_ble_eq_true rfl) (Nat.le_of_ble_eq_true rfl) ?_
        refine y_set (by omega) (by omega) ⟨fun h => by omega, fun h => by omega⟩ ?_
        obtain ⟨ρ28, e_ρ28⟩ : ∃ zz_, zz_ = mu ρ27 31 0 ((22 * l) + 13) 0 := ⟨_, rfl⟩
        rw [← e_ρ28]
        have Sρ28 : SB t σ0 (mu (mu (mu V 11 l 3 ((V 11 l 3) + (-(V 11 l 3)))) 11 l 0 ((V 11 l 0) + (V 11 l 1))) 11 l 1 0) ρ28 := by rw [e_ρ28, show ((22 * l) + 13) = 22 * l + 13 from by omega]; exact Sρ27.p11 (by omega) (by omega) (by omega)
        have r16a_ρ28 : ρ28 31 0 (22 * l + 16) = 1 := by rw [e_ρ28]; exact (mu_ne (by omega)).trans r16a_ρ27
        have r17b_ρ28 : ρ28 31 0 (22 * l + 17) = fr := by rw [e_ρ28]; exact (mu_ne (by omega)).trans r17b_ρ27
        have Xρ28 : KX t l (mu (mu (mu V 11 l 3 ((V 11 l 3) + (-(V 11 l 3)))) 11 l 0 ((V 11 l 0) + (V 11 l 1))) 11 l 1 0) ρ28 := (Xρ27).e (fun m a b c => by rw [e_ρ28]; exact ⟨mu_ne (by omega), mu_ne (by omega)⟩) (fun m c => mu_ne (by omega))
        have Fρ28 : FB (mu (mu (mu V 11 l 3 ((V 11 l 3) + (-(V 11 l 3)))) 11 l 0 ((V 11 l 0) + (V 11 l 1))) 11 l 1 0) ρ28 := by rw [e_ρ28]; exact (Fρ27).e (fun l a b => mu_ne (by omega)) |>.v (fun l y a b c => mu_ne (by omega))
        refine r_aload_n hC dX6_goFlip_96 rfl ?_
        refine r_iload_n hC dX6_goFlip_97 rfl ?_
        refine r_bipush hC dX6_goFlip_98 rfl ?_
        refine r_iconst hC dX6_goFlip_100 rfl ?_
        refine z_inv3 hM dX6_goFlip_101 vl_RX6_173 rfl rfl rfl (Nat.le_of_ble_eq_true rfl) (Nat.le_of_ble_eq_true rfl) ?_
        refine y_set (by omega) (by omega) ⟨fun h => by omega, fun h => by omega⟩ ?_
        obtain ⟨ρ29, e_ρ29⟩ : ∃ zz_, zz_ = mu ρ28 31 0 ((22 * l) + 16) 0 := ⟨_, rfl⟩
        rw [← e_ρ29]
        have Sρ29 : SB t σ0 (mu (mu (mu V 11 l 3 ((V 11 l 3) + (-(V 11 l 3)))) 11 l 0 ((V 11 l 0) + (V 11 l 1))) 11 l 1 0) ρ29 := by rw [e_ρ29, show ((22 * l) + 16) = 22 * l + 16 from by omega]; exact Sρ28.px (by omega)
        have r16a_ρ29 : ρ29 31 0 (22 * l + 16) = 0 := by rw [e_ρ29, show ((22 * l) + 16) = 22 * l + 16 from by omega]; exact mu_self _ _ _ _ _
        have r17b_ρ29 : ρ29 31 0 (22 * l + 17) = fr := by rw [e_ρ29]; exact (mu_ne (by omega)).trans r17b_ρ28
        have Xρ29 : KX t l (mu (mu (mu V 11 l 3 ((V 11 l 3) + (-(V 11 l 3)))) 11 l 0 ((V 11 l 0) + (V 11 l 1))) 11 l 1 0) ρ29 := (Xρ28).e (fun m a b c => by rw [e_ρ29]; exact ⟨mu_ne (by omega), mu_ne (by omega)⟩) (fun m c => rfl)
        have Fρ29 : FB (mu (mu (mu V 11 l 3 ((V 11 l 3) + (-(V 11 l 3)))) 11 l 0 ((V 11 l 0) + (V 11 l 1))) 11 l 1 0) ρ29 := by rw [e_ρ29]; exact (Fρ28).e (fun l a b => mu_ne (by omega))
        refine r_iload_n hC dX6_goFlip_104 rfl ?_
        refine y_iret hK rfl dX6_goFlip_105 ?_
        first
        | (exfalso; omega)
        | (have hV : (mu (mu (mu V 11 l 3 ((V 11 l 3) + (-(V 11 l 3)))) 11 l 0 ((V 11 l 0) + (V 11 l 1))) 11 l 1 0) = (mu (mu (mu V 11 l 3 0) 11 l 0 (V 11 l 0 + V 11 l 1)) 11 l 1 0) := mu_eq3 (by omega) (by omega)
           have hv : 0 = (if 0 < V 11 l 3 then V 11 l 3 - fr else 0) := by first | omega | (rw [if_pos (by omega)]; omega) | (rw [if_pos (by omega)]) | (rw [if_neg (by omega)]; omega) | (rw [if_neg (by omega)])
           have h17_ : (fr : Int) = (if 0 < V 11 l 3 then 0 else fr) := by first | omega | exact (if_pos (by omega)).symm | exact (if_neg (by omega)).symm
           have q1 := Sρ29
           have q2 := Xρ29
           have q3 := Fρ29
           rw [hV] at q1 q2 q3
           rw [hv]
           exact k0 (by omega) _ q1 q2 q3 r16a_ρ29 (r17b_ρ29.trans h17_))
      · refine r_iload_n hC dX6_goFlip_72 rfl ?_
        refine y_iret hK rfl dX6_goFlip_73 ?_
        first
        | (exfalso; omega)
        | (have hV : (mu V 11 l 3 ((V 11 l 3) + (-(V 11 l 3)))) = (mu V 11 l 3 (V 11 l 3 - 3)) := mu_eq (by omega)
           have hv : 0 = 3 - fr := by first | omega | (rw [if_pos (by omega)]; omega) | (rw [if_pos (by omega)]) | (rw [if_neg (by omega)]; omega) | (rw [if_neg (by omega)])
           have h17_ : (fr : Int) = 0 := by first | omega | exact (if_pos (by omega)).symm | exact (if_neg (by omega)).symm
           have q1 := Sρ21
           have q2 := Xρ21
           have q3 := Fρ21
           rw [hV] at q1 q2 q3
           rw [hv]
           exact k1 (by omega) _ q1 q2 q3 r16a_ρ21 (r17b_ρ21.trans h17_))
    · refine r_iload_n hC dX6_goFlip_27 rfl ?_
      refine r_aload_n hC dX6_goFlip_28 rfl ?_
      refine r_iload_n hC dX6_goFlip_29 rfl ?_
      refine r_bipush hC dX6_goFlip_30 rfl ?_
      refine z_inv2 hM dX6_goFlip_32 vl_RX6_80 rfl rfl rfl (Nat.le_of_ble_eq_true rfl) (Nat.le_of_ble_eq_true rfl) ?_
      refine y_of (by omega) (by omega) (by omega) (fun o30 => ?_)
      rw [h17]
      refine r_isubE hC (((V 11 l 3) - fr)) dX6_goFlip_35 (by omega) (by unfold inR; omega) ?_
      refine r_goto (tgt := 40) hC dX6_goFlip_36 rfl ?_
      refine r_istore_n hC dX6_goFlip_40 rfl ?_
      refine r_iload_n hC dX6_goFlip_41 rfl ?_
      refine r_if_le (tgt := 53) hC dX6_goFlip_42 rfl (fun h31 => by omega) (fun h31 => ?_)
      refine r_aload_n hC dX6_goFlip_45 rfl ?_
      refine r_iload_n hC dX6_goFlip_46 rfl ?_
      refine r_bipush hC dX6_goFlip_47 rfl ?_
      refine r_iconst hC dX6_goFlip_49 rfl ?_
      refine z_inv3 hM dX6_goFlip_50 vl_RX6_173 rfl rfl rfl (Nat.le_of_ble_eq_true rfl) (Nat.le_of_ble_eq_true rfl) ?_
      refine y_set (by omega) (by omega) ⟨fun h => by omega, fun h => by omega⟩ ?_
      obtain ⟨ρ32, e_ρ32⟩ : ∃ zz_, zz_ = mu σ 31 0 ((22 * l) + 17) 0 := ⟨_, rfl⟩
      rw [← e_ρ32]
      have Sρ32 : SB t σ0 V ρ32 := by rw [e_ρ32, show ((22 * l) + 17) = 22 * l + 17 from by omega]; exact hS.px (by omega)
      have r16a_ρ32 : ρ32 31 0 (22 * l + 16) = 1 := by rw [e_ρ32]; exact (mu_ne (by omega)).trans h16
      have r17b_ρ32 : ρ32 31 0 (22 * l + 17) = 0 := by rw [e_ρ32, show ((22 * l) + 17) = 22 * l + 17 from by omega]; exact mu_self _ _ _ _ _
      have Xρ32 : KX t l V ρ32 := (hX).e (fun m a b c => by rw [e_ρ32]; exact ⟨mu_ne (by omega), mu_ne (by omega)⟩) (fun m c => rfl)
      have Fρ32 : FB V ρ32 := by rw [e_ρ32]; exact (hFB).e (fun l a b => mu_ne (by omega))
      refine r_aload_n hC dX6_goFlip_53 rfl ?_
      refine r_iload_n hC dX6_goFlip_54 rfl ?_
      refine r_bipush hC dX6_goFlip_55 rfl ?_
      refine r_iload_n hC dX6_goFlip_57 rfl ?_
      refine r_inegS hC dX6_goFlip_58 (by unfold inR; omega) ?_
      refine z_inv3 hM dX6_goFlip_59 vl_RX6_188 rfl rfl rfl (Nat.le_of_ble_eq_true rfl) (Nat.le_of_ble_eq_true rfl) ?_
      refine y_moreE (a := (V 11 l 3)) (by omega) (by omega) (by omega) ⟨fun h => by omega, by omega⟩ ((Sρ32.a11 (s := 3) (f := 15) (by omega) (by omega) (by omega)).trans (rfl)) (by omega) ?_
      rw [show (V 11 l 3) + (-(V 11 l 3)) = ((V 11 l 3) + (-(V 11 l 3))) from by omega]
      obtain ⟨ρ33, e_ρ33⟩ : ∃ zz_, zz_ = mu ρ32 31 0 ((22 * l) + 15) ((V 11 l 3) + (-(V 11 l 3))) := ⟨_, rfl⟩
      rw [← e_ρ33]
      have Sρ33 : SB t σ0 (mu V 11 l 3 ((V 11 l 3) + (-(V 11 l 3)))) ρ33 := by rw [e_ρ33, show ((22 * l) + 15) = 22 * l + 15 from by omega]; exact Sρ32.p11 (by omega) (by omega) (by omega)
      have r16a_ρ33 : ρ33 31 0 (22 * l + 16) = 1 := by rw [e_ρ33]; exact (mu_ne (by omega)).trans r16a_ρ32
      have r17b_ρ33 : ρ33 31 0 (22 * l + 17) = 0 := by rw [e_ρ33]; exact (mu_ne (by omega)).trans r17b_ρ32
      have Xρ33 : KX t l (mu V 11 l 3 ((V 11 l 3) + (-(V 11 l 3)))) ρ33 := (Xρ32).e (fun m a b c => by rw [e_ρ33]; exact ⟨mu_ne (by omega), mu_ne (by omega)⟩) (fun m c => mu_ne (by omega))
      have Fρ33 : FB (mu V 11 l 3 ((V 11 l 3) + (-(V 11 l 3)))) ρ33 := by rw [e_ρ33]; exact (Fρ32).e (fun l a b => mu_ne (by omega)) |>.v (fun l y a b c => mu_ne (by omega))
      refine r_aload_n hC dX6_goFlip_62 rfl ?_
      refine r_iload_n hC dX6_goFlip_63 rfl ?_
      refine r_bipush hC dX6_goFlip_64 rfl ?_
      refine z_inv2 hM dX6_goFlip_66 vl_RX6_80 rfl rfl rfl (Nat.le_of_ble_eq_true rfl) (Nat.le_of_ble_eq_true rfl) ?_
      refine y_of (by omega) (by omega) (by omega) (fun o34 => ?_)
      have e35 : ρ33 31 0 (22 * l + 15) = ((V 11 l 3) + (-(V 11 l 3))) := (Sρ33.a11 (s := 3) (f := 15) (by omega) (by omega) (by omega)).trans (mu_self _ _ _ _ _)
      rw [e35] at o34 ⊢
      refine r_if_le (tgt := 74) hC dX6_goFlip_69 rfl (fun h36 => ?_) (fun h36 => ?_)
      · refine r_aload_n hC dX6_goFlip_74 rfl ?_
        refine r_iload_n hC dX6_goFlip_75 rfl ?_
        refine r_bipush hC dX6_goFlip_76 rfl ?_
        refine r_aload_n hC dX6_goFlip_78 rfl ?_
        refine r_iload_n hC dX6_goFlip_79 rfl ?_
        refine r_bipush hC dX6_goFlip_80 rfl ?_
        refine z_inv2 hM dX6_goFlip_82 vl_RX6_80 rfl rfl rfl (Nat.le_of_ble_eq_true rfl) (Nat.le_of_ble_eq_true rfl) ?_
        refine y_of (by omega) (by omega) (by omega) (fun o37 => ?_)
        have e38 : ρ33 31 0 (22 * l + 13) = (V 11 l 1) := (Sρ33.a11 (s := 1) (f := 13) (by omega) (by omega) (by omega)).trans ((mu_ne (by omega)).trans (rfl))
        rw [e38] at o37 ⊢
        refine z_inv3 hM dX6_goFlip_85 vl_RX6_188 rfl rfl rfl (Nat.le_of_ble_eq_true rfl) (Nat.le_of_ble_eq_true rfl) ?_
        refine y_moreE (a := (V 11 l 0)) (by omega) (by omega) (by omega) ⟨fun h => by omega, by omega⟩ ((Sρ33.a11 (s := 0) (f := 12) (by omega) (by omega) (by omega)).trans ((mu_ne (by omega)).trans (rfl))) (by omega) ?_
        rw [show (V 11 l 0) + (V 11 l 1) = ((V 11 l 0) + (V 11 l 1)) from by omega]
        obtain ⟨ρ39, e_ρ39⟩ : ∃ zz_, zz_ = mu ρ33 31 0 ((22 * l) + 12) ((V 11 l 0) + (V 11 l 1)) := ⟨_, rfl⟩
        rw [← e_ρ39]
        have Sρ39 : SB t σ0 (mu (mu V 11 l 3 ((V 11 l 3) + (-(V 11 l 3)))) 11 l 0 ((V 11 l 0) + (V 11 l 1))) ρ39 := by rw [e_ρ39, show ((22 * l) + 12) = 22 * l + 12 from by omega]; exact Sρ33.p11 (by omega) (by omega) (by omega)
        have r16a_ρ39 : ρ39 31 0 (22 * l + 16) = 1 := by rw [e_ρ39]; exact (mu_ne (by omega)).trans r16a_ρ33
        have r17b_ρ39 : ρ39 31 0 (22 * l + 17) = 0 := by rw [e_ρ39]; exact (mu_ne (by omega)).trans r17b_ρ33
        have Xρ39 : KX t l (mu (mu V 11 l 3 ((V 11 l 3) + (-(V 11 l 3)))) 11 l 0 ((V 11 l 0) + (V 11 l 1))) ρ39 := (Xρ33).e (fun m a b c => by rw [e_ρ39]; exact ⟨mu_ne (by omega), mu_ne (by omega)⟩) (fun m c => mu_ne (by omega))
        have Fρ39 : FB (mu (mu V 11 l 3 ((V 11 l 3) + (-(V 11 l 3)))) 11 l 0 ((V 11 l 0) + (V 11 l 1))) ρ39 := by rw [e_ρ39]; exact (Fρ33).e (fun l a b => mu_ne (by omega)) |>.v (fun l y a b c => mu_ne (by omega))
        refine r_aload_n hC dX6_goFlip_88 rfl ?_
        refine r_iload_n hC dX6_goFlip_89 rfl ?_
        refine r_bipush hC dX6_goFlip_90 rfl ?_
        refine r_iconst hC dX6_goFlip_92 rfl ?_
        refine z_inv3 hM dX6_goFlip_93 vl_RX6_173 rfl rfl rfl (Nat.le_of_ble_eq_true rfl) (Nat.le_of_ble_eq_true rfl) ?_
        refine y_set (by omega) (by omega) ⟨fun h => by omega, fun h => by omega⟩ ?_
        obtain ⟨ρ40, e_ρ40⟩ : ∃ zz_, zz_ = mu ρ39 31 0 ((22 * l) + 13) 0 := ⟨_, rfl⟩
        rw [← e_ρ40]
        have Sρ40 : SB t σ0 (mu (mu (mu V 11 l 3 ((V 11 l 3) + (-(V 11 l 3)))) 11 l 0 ((V 11 l 0) + (V 11 l 1))) 11 l 1 0) ρ40 := by rw [e_ρ40, show ((22 * l) + 13) = 22 * l + 13 from by omega]; exact Sρ39.p11 (by omega) (by omega) (by omega)
        have r16a_ρ40 : ρ40 31 0 (22 * l + 16) = 1 := by rw [e_ρ40]; exact (mu_ne (by omega)).trans r16a_ρ39
        have r17b_ρ40 : ρ40 31 0 (22 * l + 17) = 0 := by rw [e_ρ40]; exact (mu_ne (by omega)).trans r17b_ρ39
        have Xρ40 : KX t l (mu (mu (mu V 11 l 3 ((V 11 l 3) + (-(V 11 l 3)))) 11 l 0 ((V 11 l 0) + (V 11 l 1))) 11 l 1 0) ρ40 := (Xρ39).e (fun m a b c => by rw [e_ρ40]; exact ⟨mu_ne (by omega), mu_ne (by omega)⟩) (fun m c => mu_ne (by omega))
        have Fρ40 : FB (mu (mu (mu V 11 l 3 ((V 11 l 3) + (-(V 11 l 3)))) 11 l 0 ((V 11 l 0) + (V 11 l 1))) 11 l 1 0) ρ40 := by rw [e_ρ40]; exact (Fρ39).e (fun l a b => mu_ne (by omega)) |>.v (fun l y a b c => mu_ne (by omega))
        refine r_aload_n hC dX6_goFlip_96 rfl ?_
        refine r_iload_n hC dX6_goFlip_97 rfl ?_
        refine r_bipush hC dX6_goFlip_98 rfl ?_
        refine r_iconst hC dX6_goFlip_100 rfl ?_
        refine z_inv3 hM dX6_goFlip_101 vl_RX6_173 rfl rfl rfl (Nat.le_of_ble_eq_true rfl) (Nat.le_of_ble_eq_true rfl) ?_
        refine y_set (by omega) (by omega) ⟨fun h => by omega, fun h => by omega⟩ ?_
        obtain ⟨ρ41, e_ρ41⟩ : ∃ zz_, zz_ = mu ρ40 31 0 ((22 * l) + 16) 0 := ⟨_, rfl⟩
        rw [← e_ρ41]
        have Sρ41 : SB t σ0 (mu (mu (mu V 11 l 3 ((V 11 l 3) + (-(V 11 l 3)))) 11 l 0 ((V 11 l 0) + (V 11 l 1))) 11 l 1 0) ρ41 := by rw [e_ρ41, show ((22 * l) + 16) = 22 * l + 16 from by omega]; exact Sρ40.px (by omega)
        have r16a_ρ41 : ρ41 31 0 (22 * l + 16) = 0 := by rw [e_ρ41, show ((22 * l) + 16) = 22 * l + 16 from by omega]; exact mu_self _ _ _ _ _
        have r17b_ρ41 : ρ41 31 0 (22 * l + 17) = 0 := by rw [e_ρ41]; exact (mu_ne (by omega)).trans r17b_ρ40
        have Xρ41 : KX t l (mu (mu (mu V 11 l 3 ((V 11 l 3) + (-(V 11 l 3)))) 11 l 0 ((V 11 l 0) + (V 11 l 1))) 11 l 1 0) ρ41 := (Xρ40).e (fun m a b c => by rw [e_ρ41]; exact ⟨mu_ne (by omega), mu_ne (by omega)⟩) (fun m c => rfl)
        have Fρ41 : FB (mu (mu (mu V 11 l 3 ((V 11 l 3) + (-(V 11 l 3)))) 11 l 0 ((V 11 l 0) + (V 11 l 1))) 11 l 1 0) ρ41 := by rw [e_ρ41]; exact (Fρ40).e (fun l a b => mu_ne (by omega))
        refine r_iload_n hC dX6_goFlip_104 rfl ?_
        refine y_iret hK rfl dX6_goFlip_105 ?_
        first
        | (exfalso; omega)
        | (have hV : (mu (mu (mu V 11 l 3 ((V 11 l 3) + (-(V 11 l 3)))) 11 l 0 ((V 11 l 0) + (V 11 l 1))) 11 l 1 0) = (mu (mu (mu V 11 l 3 0) 11 l 0 (V 11 l 0 + V 11 l 1)) 11 l 1 0) := mu_eq3 (by omega) (by omega)
           have hv : ((V 11 l 3) - fr) = (if 0 < V 11 l 3 then V 11 l 3 - fr else 0) := by first | omega | (rw [if_pos (by omega)]; omega) | (rw [if_pos (by omega)]) | (rw [if_neg (by omega)]; omega) | (rw [if_neg (by omega)])
           have h17_ : (0 : Int) = (if 0 < V 11 l 3 then 0 else fr) := by first | omega | exact (if_pos (by omega)).symm | exact (if_neg (by omega)).symm
           have q1 := Sρ41
           have q2 := Xρ41
           have q3 := Fρ41
           rw [hV] at q1 q2 q3
           rw [hv]
           exact k0 (by omega) _ q1 q2 q3 r16a_ρ41 (r17b_ρ41.trans h17_))
      · refine r_iload_n hC dX6_goFlip_72 rfl ?_
        refine y_iret hK rfl dX6_goFlip_73 ?_
        first
        | (exfalso; omega)
        | (have hV : (mu V 11 l 3 ((V 11 l 3) + (-(V 11 l 3)))) = (mu V 11 l 3 (V 11 l 3 - 3)) := mu_eq (by omega)
           have hv : ((V 11 l 3) - fr) = 3 - fr := by first | omega | (rw [if_pos (by omega)]; omega) | (rw [if_pos (by omega)]) | (rw [if_neg (by omega)]; omega) | (rw [if_neg (by omega)])
           have h17_ : (0 : Int) = 0 := by first | omega | exact (if_pos (by omega)).symm | exact (if_neg (by omega)).symm
           have q1 := Sρ33
           have q2 := Xρ33
           have q3 := Fρ33
           rw [hV] at q1 q2 q3
           rw [hv]
           exact k1 (by omega) _ q1 q2 q3 r16a_ρ33 (r17b_ρ33.trans h17_))
theorem y_endMoveW {eb : Bool} {t : Int} {V : Mm} {d : Nat} {P : Option Vl → Mm → Prop} {σ : Mm} {l c : Int} (b_l : 0 ≤ l ∧ l ≤ 7) (b_c : 0 ≤ c ∧ c ≤ 1) {σ0 : Mm} {fl fr : Int} (ht : 6 ≤ t ∧ t ≤ 7) (hS : SB t σ0 V σ) (hX : KX t l V σ) (hFB : FB V σ) (hl : l ≤ t) (hL : LK V l) (hb : (0 ≤ V 11 l 0 ∧ V 11 l 0 ≤ 400) ∧ (0 ≤ V 11 l 1 ∧ V 11 l 1 ≤ 400) ∧ (0 ≤ V 11 l 2 ∧ V 11 l 2 ≤ 400) ∧ 0 ≤ V 11 l 3 ∧ V 11 l 3 ≤ 1000) (hfl : (fl = 0 ∧ V 11 l 1 = 0 ∧ V 11 l 3 = 0) ∨ (fl = 1 ∧ V 11 l 1 ≠ 0)) (h16 : σ 31 0 (22 * l + 16) = fl) (h17 : σ 31 0 (22 * l + 17) = 0)  (k : ∀ ρ : Mm, RS t σ0 (rgM (su V 11 l (emR c (V 11 l))) l) ρ → P none ρ) : WT (true, eb, true) (d + 7) 177 [vR 30 0, vI l, vI c] σ P := by
  refine WT_in fun K hK => ?_
  have hK : StpY (true, eb, true) cX6_endMove RX6 (none) (WT (true, eb, true) (d + 6)) P K := hK
  have hM := hK.1
  have hC := hK.1.1
  show K 0 [some (vR 30 0), some (vI l), some (vI c), none] [] σ
  refine r_iload_n hC dX6_endMove_0 rfl ?_
  refine r_istore_n hC dX6_endMove_1 rfl ?_
  refine r_aload_n hC dX6_endMove_2 rfl ?_
  refine r_iload_n hC dX6_endMove_3 rfl ?_
  refine r_bipush hC dX6_endMove_4 rfl ?_
  refine z_inv2 hM dX6_endMove_6 vl_RX6_80 rfl rfl rfl (Nat.le_of_ble_eq_true rfl) (Nat.le_of_ble_eq_true rfl) ?_
  refine y_of (by omega) (by omega) (by omega) (fun o1 => ?_)
  rw [h16]
  refine r_if_ne (tgt := 89) hC dX6_endMove_9 rfl (fun h2 => ?_) (fun h2 => ?_)
  · refine r_aload_n hC dX6_endMove_89 rfl ?_
    refine r_iload_n hC dX6_endMove_90 rfl ?_
    refine r_bipush hC dX6_endMove_91 rfl ?_
    refine z_inv2 hM dX6_endMove_93 vl_RX6_80 rfl rfl rfl (Nat.le_of_ble_eq_true rfl) (Nat.le_of_ble_eq_true rfl) ?_
    refine y_of (by omega) (by omega) (by omega) (fun o3 => ?_)
    rw [h16]
    refine r_iconst hC dX6_endMove_96 rfl ?_
    refine r_icmp_ne (tgt := 108) hC dX6_endMove_97 rfl (fun h4 => by omega) (fun h4 => ?_)
    refine r_iload_n hC dX6_endMove_100 rfl ?_
    refine r_aload_n hC dX6_endMove_101 rfl ?_
    refine r_iload_n hC dX6_endMove_102 rfl ?_
    refine z_inv1 hM dX6_endMove_103 vl_RX6_185 rfl rfl rfl (Nat.le_of_ble_eq_true rfl) (Nat.le_of_ble_eq_true rfl) ?_
    refine y_goFlipW (V := V) (fl := 1) (fr := 0) (by omega) ht hS hX hFB (by omega) (by omega) (by omega) (h16.trans (by omega)) h17 (fun hgo ρg Sg Xg Fg r16g r17g => ?_) (fun hgo ρg Sg Xg Fg r16g r17g => ?_)
    · refine r_iaddE hC ((c + (3 - 0))) dX6_endMove_106 (by omega) (by unfold inR; omega) ?_
      refine r_istore_n hC dX6_endMove_107 rfl ?_
      refine r_aload_n hC dX6_endMove_108 rfl ?_
      refine r_iload_n hC dX6_endMove_109 rfl ?_
      refine r_bipush hC dX6_endMove_110 rfl ?_
      refine r_iload_n hC dX6_endMove_112 rfl ?_
      refine z_inv3 hM dX6_endMove_113 vl_RX6_173 rfl rfl rfl (Nat.le_of_ble_eq_true rfl) (Nat.le_of_ble_eq_true rfl) ?_
      refine y_set (by omega) (by omega) ⟨fun h => by omega, fun h => by omega⟩ ?_
      obtain ⟨ρ5, e_ρ5⟩ : ∃ zz_, zz_ = mu ρg 31 0 ((22 * l) + 18) (c + (3 - 0)) := ⟨_, rfl⟩
      rw [← e_ρ5]
      have Sρ5 : SB t σ0 (mu (mu V 11 l 3 ((V 11 l 3) - 3)) 11 l 4 (c + (3 - 0))) ρ5 := by rw [e_ρ5, show ((22 * l) + 18) = 22 * l + 18 from by omega]; exact Sg.p11 (by omega) (by omega) (by omega)
      have r16a_ρ5 : ρ5 31 0 (22 * l + 16) = 1 := by rw [e_ρ5]; exact (mu_ne (by omega)).trans r16g
      have r17b_ρ5 : ρ5 31 0 (22 * l + 17) = 0 := by rw [e_ρ5]; exact (mu_ne (by omega)).trans r17g
      have Xρ5 : KX t l (mu (mu V 11 l 3 ((V 11 l 3) - 3)) 11 l 4 (c + (3 - 0))) ρ5 := (Xg).e (fun m a b c => by rw [e_ρ5]; exact ⟨mu_ne (by omega), mu_ne (by omega)⟩) (fun m c => mu_ne (by omega))
      have Fρ5 : FB (mu (mu V 11 l 3 ((V 11 l 3) - 3)) 11 l 4 (c + (3 - 0))) ρ5 := by rw [e_ρ5]; exact (Fg).e (fun l a b => mu_ne (by omega)) |>.v (fun l y a b c => mu_ne (by omega))
      refine r_aload_n hC dX6_endMove_116 rfl ?_
      refine r_iload_n hC dX6_endMove_117 rfl ?_
      refine r_bipush hC dX6_endMove_118 rfl ?_
      refine r_iload_n hC dX6_endMove_120 rfl ?_
      refine z_inv3 hM dX6_endMove_121 vl_RX6_188 rfl rfl rfl (Nat.le_of_ble_eq_true rfl) (Nat.le_of_ble_eq_true rfl) ?_
      refine y_moreW (a := (V 11 l 5)) (by omega) (by omega) ⟨fun h => by omega, by omega⟩ ((Sρ5.a11 (s := 5) (f := 19) (by omega) (by omega) (by omega)).trans ((mu_ne (by omega)).trans ((mu_ne (by omega)).trans (rfl)))) (by omega) ?_
      obtain ⟨ρ6, e_ρ6⟩ : ∃ zz_, zz_ = mu ρ5 31 0 ((22 * l) + 19) (wr ((V 11 l 5) + (c + (3 - 0)))) := ⟨_, rfl⟩
      rw [← e_ρ6]
      have Sρ6 : SB t σ0 (mu (mu (mu V 11 l 3 ((V 11 l 3) - 3)) 11 l 4 (c + (3 - 0))) 11 l 5 (wr ((V 11 l 5) + (c + (3 - 0))))) ρ6 := by rw [e_ρ6, show ((22 * l) + 19) = 22 * l + 19 from by omega]; exact Sρ5.p11 (by omega) (by omega) (by omega)
      have r16a_ρ6 : ρ6 31 0 (22 * l + 16) = 1 := by rw [e_ρ6]; exact (mu_ne (by omega)).trans r16a_ρ5
      have r17b_ρ6 : ρ6 31 0 (22 * l + 17) = 0 := by rw [e_ρ6]; exact (mu_ne (by omega)).trans r17b_ρ5
      have Xρ6 : KX t l (mu (mu (mu V 11 l 3 ((V 11 l 3) - 3)) 11 l 4 (c + (3 - 0))) 11 l 5 (wr ((V 11 l 5) + (c + (3 - 0))))) ρ6 := (Xρ5).e (fun m a b c => by rw [e_ρ6]; exact ⟨mu_ne (by omega), mu_ne (by omega)⟩) (fun m c => mu_ne (by omega))
      have Fρ6 : FB (mu (mu (mu V 11 l 3 ((V 11 l 3) - 3)) 11 l 4 (c + (3 - 0))) 11 l 5 (wr ((V 11 l 5) + (c + (3 - 0))))) ρ6 := by rw [e_ρ6]; exact (Fρ5).e (fun l a b => mu_ne (by omega)) |>.v (fun l y a b c => mu_ne (by omega))
      refine r_iload_n hC dX6_endMove_124 rfl ?_
      refine r_aload_n hC dX6_endMove_125 rfl ?_
      refine r_iload_n hC dX6_endMove_126 rfl ?_
      refine r_bipush hC dX6_endMove_127 rfl ?_
      refine z_inv2 hM dX6_endMove_129 vl_RX6_80 rfl rfl rfl (Nat.le_of_ble_eq_true rfl) (Nat.le_of_ble_eq_true rfl) ?_
      refine y_of (by omega) (by omega) (by omega) (fun o7 => ?_)
      have e8 : ρ6 31 0 (22 * l + 20) = (V 11 l 6) := (Sρ6.a11 (s := 6) (f := 20) (by omega) (by omega) (by omega)).trans ((mu_ne (by omega)).trans ((mu_ne (by omega)).trans ((mu_ne (by omega)).trans (rfl))))
      rw [e8] at o7 ⊢
      refine r_icmp_le (tgt := 143) hC dX6_endMove_132 rfl (fun h9 => ?_) (fun h9 => ?_)
      · refine r_aload_n hC dX6_endMove_143 rfl ?_
        refine r_iload_n hC dX6_endMove_144 rfl ?_
        refine z_inv1 hM dX6_endMove_145 vl_RX6_191 rfl rfl rfl (Nat.le_of_ble_eq_true rfl) (Nat.le_of_ble_eq_true rfl) ?_
        have hbeg : ¬ (V 11 l 1 = 0 ∧ V 11 l 2 > V 11 l 0) := by omega
        have m0 : (mu (mu (mu V 11 l 3 ((V 11 l 3) - 3)) 11 l 4 (c + (3 - 0))) 11 l 5 (wr ((V 11 l 5) + (c + (3 - 0))))) 11 l 0 = (if (if (V 11 l 1) = 0 ∧ (V 11 l 2) > (V 11 l 0) then (V 11 l 2) + (V 11 l 0) else (V 11 l 3)) - min 3 (if (V 11 l 1) = 0 ∧ (V 11 l 2) > (V 11 l 0) then (V 11 l 2) + (V 11 l 0) else (V 11 l 3)) = 0 then (V 11 l 0) + (if (V 11 l 1) = 0 ∧ (V 11 l 2) > (V 11 l 0) then (V 11 l 2) else (V 11 l 1)) else (V 11 l 0)) := (show (mu (mu (mu V 11 l 3 ((V 11 l 3) - 3)) 11 l 4 (c + (3 - 0))) 11 l 5 (wr ((V 11 l 5) + (c + (3 - 0))))) 11 l 0 = (V 11 l 0) from ((mu_ne (by omega)).trans ((mu_ne (by omega)).trans ((mu_ne (by omega)).trans (rfl))))).trans (by (repeat' split) <;> omega)
        have m1 : (mu (mu (mu V 11 l 3 ((V 11 l 3) - 3)) 11 l 4 (c + (3 - 0))) 11 l 5 (wr ((V 11 l 5) + (c + (3 - 0))))) 11 l 1 = (if (if (V 11 l 1) = 0 ∧ (V 11 l 2) > (V 11 l 0) then (V 11 l 2) + (V 11 l 0) else (V 11 l 3)) - min 3 (if (V 11 l 1) = 0 ∧ (V 11 l 2) > (V 11 l 0) then (V 11 l 2) + (V 11 l 0) else (V 11 l 3)) = 0 then 0 else (if (V 11 l 1) = 0 ∧ (V 11 l 2) > (V 11 l 0) then (V 11 l 2) else (V 11 l 1))) := (show (mu (mu (mu V 11 l 3 ((V 11 l 3) - 3)) 11 l 4 (c + (3 - 0))) 11 l 5 (wr ((V 11 l 5) + (c + (3 - 0))))) 11 l 1 = (V 11 l 1) from ((mu_ne (by omega)).trans ((mu_ne (by omega)).trans ((mu_ne (by omega)).trans (rfl))))).trans (by (repeat' split) <;> omega)
        have m2 : (mu (mu (mu V 11 l 3 ((V 11 l 3) - 3)) 11 l 4 (c + (3 - 0))) 11 l 5 (wr ((V 11 l 5) + (c + (3 - 0))))) 11 l 2 = (if (V 11 l 1) = 0 ∧ (V 11 l 2) > (V 11 l 0) then 0 else (V 11 l 2)) := (show (mu (mu (mu V 11 l 3 ((V 11 l 3) - 3)) 11 l 4 (c + (3 - 0))) 11 l 5 (wr ((V 11 l 5) + (c + (3 - 0))))) 11 l 2 = (V 11 l 2) from ((mu_ne (by omega)).trans ((mu_ne (by omega)).trans ((mu_ne (by omega)).trans (rfl))))).trans (by (repeat' split) <;> omega)
        have m3 : (mu (mu (mu V 11 l 3 ((V 11 l 3) - 3)) 11 l 4 (c + (3 - 0))) 11 l 5 (wr ((V 11 l 5) + (c + (3 - 0))))) 11 l 3 = ((if (V 11 l 1) = 0 ∧ (V 11 l 2) > (V 11 l 0) then (V 11 l 2) + (V 11 l 0) else (V 11 l 3)) - min 3 (if (V 11 l 1) = 0 ∧ (V 11 l 2) > (V 11 l 0) then (V 11 l 2) + (V 11 l 0) else (V 11 l 3))) := (show (mu (mu (mu V 11 l 3 ((V 11 l 3) - 3)) 11 l 4 (c + (3 - 0))) 11 l 5 (wr ((V 11 l 5) + (c + (3 - 0))))) 11 l 3 = ((V 11 l 3) - 3) from ((mu_ne (by omega)).trans ((mu_ne (by omega)).trans (mu_self _ _ _ _ _)))).trans (by (repeat' split) <;> omega)
        have m4 : (mu (mu (mu V 11 l 3 ((V 11 l 3) - 3)) 11 l 4 (c + (3 - 0))) 11 l 5 (wr ((V 11 l 5) + (c + (3 - 0))))) 11 l 4 = (((if (V 11 l 1) = 0 ∧ (V 11 l 2) > (V 11 l 0) then c - 1 else c) + min 3 (if (V 11 l 1) = 0 ∧ (V 11 l 2) > (V 11 l 0) then (V 11 l 2) + (V 11 l 0) else (V 11 l 3)))) := (show (mu (mu (mu V 11 l 3 ((V 11 l 3) - 3)) 11 l 4 (c + (3 - 0))) 11 l 5 (wr ((V 11 l 5) + (c + (3 - 0))))) 11 l 4 = (c + (3 - 0)) from ((mu_ne (by omega)).trans (mu_self _ _ _ _ _))).trans (by (repeat' split) <;> omega)
        have m5 : (mu (mu (mu V 11 l 3 ((V 11 l 3) - 3)) 11 l 4 (c + (3 - 0))) 11 l 5 (wr ((V 11 l 5) + (c + (3 - 0))))) 11 l 5 = (wr ((V 11 l 5) + ((if (V 11 l 1) = 0 ∧ (V 11 l 2) > (V 11 l 0) then c - 1 else c) + min 3 (if (V 11 l 1) = 0 ∧ (V 11 l 2) > (V 11 l 0) then (V 11 l 2) + (V 11 l 0) else (V 11 l 3))))) := (show (mu (mu (mu V 11 l 3 ((V 11 l 3) - 3)) 11 l 4 (c + (3 - 0))) 11 l 5 (wr ((V 11 l 5) + (c + (3 - 0))))) 11 l 5 = wr ((V 11 l 5) + (c + (3 - 0))) from (mu_self _ _ _ _ _)).trans (congrArg wr (by simp only [if_neg hbeg]; (repeat' split) <;> omega))
        have m6 : (mu (mu (mu V 11 l 3 ((V 11 l 3) - 3)) 11 l 4 (c + (3 - 0))) 11 l 5 (wr ((V 11 l 5) + (c + (3 - 0))))) 11 l 6 = (max (V 11 l 6) ((if (V 11 l 1) = 0 ∧ (V 11 l 2) > (V 11 l 0) then c - 1 else c) + min 3 (if (V 11 l 1) = 0 ∧ (V 11 l 2) > (V 11 l 0) then (V 11 l 2) + (V 11 l 0) else (V 11 l 3)))) := (show (mu (mu (mu V 11 l 3 ((V 11 l 3) - 3)) 11 l 4 (c + (3 - 0))) 11 l 5 (wr ((V 11 l 5) + (c + (3 - 0))))) 11 l 6 = (V 11 l 6) from ((mu_ne (by omega)).trans ((mu_ne (by omega)).trans ((mu_ne (by omega)).trans (rfl))))).trans (by (repeat' split) <;> omega)
        have hV : (mu (mu (mu V 11 l 3 ((V 11 l 3) - 3)) 11 l 4 (c + (3 - 0))) 11 l 5 (wr ((V 11 l 5) + (c + (3 - 0))))) = (su V 11 l (emR c (V 11 l))) := mu7 (fun c2 x y h => (mu_ne (by omega)).trans ((mu_ne (by omega)).trans ((mu_ne (by omega)).trans (rfl)))) m0 m1 m2 m3 m4 m5 m6
        have qS := Sρ6
        have qX := Xρ6
        have qF := Fρ6
        rw [hV] at qS qX qF
        have q16 : 1 = (if (su V 11 l (emR c (V 11 l))) 11 l 3 = 0 then (0 : Int) else 1) := by rw [← hV, m3]; simp only [if_neg hbeg]; (repeat' split) <;> omega
        have qR : RS t σ0 (su V 11 l (emR c (V 11 l))) ρ6 := ⟨qS, qX.kf (r16a_ρ6.trans q16) r17b_ρ6, qF⟩
        have qL : LK (su V 11 l (emR c (V 11 l))) l := hL.to (fun c2 x y h => su_ne (by omega))
        refine y_look (V := (su V 11 l (emR c (V 11 l)))) (by omega) ht qR (by omega) qL (fun ρ10 Rρ10 => ?_)
        refine y_vret hK rfl dX6_endMove_148 ?_
        exact k _ Rρ10
      · refine r_aload_n hC dX6_endMove_135 rfl ?_
        refine r_iload_n hC dX6_endMove_136 rfl ?_
        refine r_bipush hC dX6_endMove_137 rfl ?_
        refine r_iload_n hC dX6_endMove_139 rfl ?_
        refine z_inv3 hM dX6_endMove_140 vl_RX6_173 rfl rfl rfl (Nat.le_of_ble_eq_true rfl) (Nat.le_of_ble_eq_true rfl) ?_
        refine y_set (by omega) (by omega) ⟨fun h => by omega, fun h => by omega⟩ ?_
        obtain ⟨ρ11, e_ρ11⟩ : ∃ zz_, zz_ = mu ρ6 31 0 ((22 * l) + 20) (c + (3 - 0)) := ⟨_, rfl⟩
        rw [← e_ρ11]
        have Sρ11 : SB t σ0 (mu (mu (mu (mu V 11 l 3 ((V 11 l 3) - 3)) 11 l 4 (c + (3 - 0))) 11 l 5 (wr ((V 11 l 5) + (c + (3 - 0))))) 11 l 6 (c + (3 - 0))) ρ11 := by rw [e_ρ11, show ((22 * l) + 20) = 22 * l + 20 from by omega]; exact Sρ6.p11 (by omega) (by omega) (by omega)
        have r16a_ρ11 : ρ11 31 0 (22 * l + 16) = 1 := by rw [e_ρ11]; exact (mu_ne (by omega)).trans r16a_ρ6
        have r17b_ρ11 : ρ11 31 0 (22 * l + 17) = 0 := by rw [e_ρ11]; exact (mu_ne (by omega)).trans r17b_ρ6
        have Xρ11 : KX t l (mu (mu (mu (mu V 11 l 3 ((V 11 l 3) - 3)) 11 l 4 (c + (3 - 0))) 11 l 5 (wr ((V 11 l 5) + (c + (3 - 0))))) 11 l 6 (c + (3 - 0))) ρ11 := (Xρ6).e (fun m a b c => by rw [e_ρ11]; exact ⟨mu_ne (by omega), mu_ne (by omega)⟩) (fun m c => mu_ne (by omega))
        have Fρ11 : FB (mu (mu (mu (mu V 11 l 3 ((V 11 l 3) - 3)) 11 l 4 (c + (3 - 0))) 11 l 5 (wr ((V 11 l 5) + (c + (3 - 0))))) 11 l 6 (c + (3 - 0))) ρ11 := by rw [e_ρ11]; exact (Fρ6).e (fun l a b => mu_ne (by omega)) |>.v (fun l y a b c => mu_ne (by omega))
        refine r_aload_n hC dX6_endMove_143 rfl ?_
        refine r_iload_n hC dX6_endMove_144 rfl ?_
        refine z_inv1 hM dX6_endMove_145 vl_RX6_191 rfl rfl rfl (Nat.le_of_ble_eq_true rfl) (Nat.le_of_ble_eq_true rfl) ?_
        have hbeg : ¬ (V 11 l 1 = 0 ∧ V 11 l 2 > V 11 l 0) := by omega
        have m0 : (mu (mu (mu (mu V 11 l 3 ((V 11 l 3) - 3)) 11 l 4 (c + (3 - 0))) 11 l 5 (wr ((V 11 l 5) + (c + (3 - 0))))) 11 l 6 (c + (3 - 0))) 11 l 0 = (if (if (V 11 l 1) = 0 ∧ (V 11 l 2) > (V 11 l 0) then (V 11 l 2) + (V 11 l 0) else (V 11 l 3)) - min 3 (if (V 11 l 1) = 0 ∧ (V 11 l 2) > (V 11 l 0) then (V 11 l 2) + (V 11 l 0) else (V 11 l 3)) = 0 then (V 11 l 0) + (if (V 11 l 1) = 0 ∧ (V 11 l 2) > (V 11 l 0) then (V 11 l 2) else (V 11 l 1)) else (V 11 l 0)) := (show (mu (mu (mu (mu V 11 l 3 ((V 11 l 3) - 3)) 11 l 4 (c + (3 - 0))) 11 l 5 (wr ((V 11 l 5) + (c + (3 - 0))))) 11 l 6 (c + (3 - 0))) 11 l 0 = (V 11 l 0) from ((mu_ne (by omega)).trans ((mu_ne (by omega)).trans ((mu_ne (by omega)).trans ((mu_ne (by omega)).trans (rfl)))))).trans (by (repeat' split) <;> omega)
        have m1 : (mu (mu (mu (mu V 11 l 3 ((V 11 l 3) - 3)) 11 l 4 (c + (3 - 0))) 11 l 5 (wr ((V 11 l 5) + (c + (3 - 0))))) 11 l 6 (c + (3 - 0))) 11 l 1 = (if (if (V 11 l 1) = 0 ∧ (V 11 l 2) > (V 11 l 0) then (V 11 l 2) + (V 11 l 0) else (V 11 l 3)) - min 3 (if (V 11 l 1) = 0 ∧ (V 11 l 2) > (V 11 l 0) then (V 11 l 2) + (V 11 l 0) else (V 11 l 3)) = 0 then 0 else (if (V 11 l 1) = 0 ∧ (V 11 l 2) > (V 11 l 0) then (V 11 l 2) else (V 11 l 1))) := (show (mu (mu (mu (mu V 11 l 3 ((V 11 l 3) - 3)) 11 l 4 (c + (3 - 0))) 11 l 5 (wr ((V 11 l 5) + (c + (3 - 0))))) 11 l 6 (c + (3 - 0))) 11 l 1 = (V 11 l 1) from ((mu_ne (by omega)).trans ((mu_ne (by omega)).trans ((mu_ne (by omega)).trans ((mu_ne (by omega)).trans (rfl)))))).trans (by (repeat' split) <;> omega)
        have m2 : (mu (mu (mu (mu V 11 l 3 ((V 11 l 3) - 3)) 11 l 4 (c + (3 - 0))) 11 l 5 (wr ((V 11 l 5) + (c + (3 - 0))))) 11 l 6 (c + (3 - 0))) 11 l 2 = (if (V 11 l 1) = 0 ∧ (V 11 l 2) > (V 11 l 0) then 0 else (V 11 l 2)) := (show (mu (mu (mu (mu V 11 l 3 ((V 11 l 3) - 3)) 11 l 4 (c + (3 - 0))) 11 l 5 (wr ((V 11 l 5) + (c + (3 - 0))))) 11 l 6 (c + (3 - 0))) 11 l 2 = (V 11 l 2) from ((mu_ne (by omega)).trans ((mu_ne (by omega)).trans ((mu_ne (by omega)).trans ((mu_ne (by omega)).trans (rfl)))))).trans (by (repeat' split) <;> omega)
        have m3 : (mu (mu (mu (mu V 11 l 3 ((V 11 l 3) - 3)) 11 l 4 (c + (3 - 0))) 11 l 5 (wr ((V 11 l 5) + (c + (3 - 0))))) 11 l 6 (c + (3 - 0))) 11 l 3 = ((if (V 11 l 1) = 0 ∧ (V 11 l 2) > (V 11 l 0) then (V 11 l 2) + (V 11 l 0) else (V 11 l 3)) - min 3 (if (V 11 l 1) = 0 ∧ (V 11 l 2) > (V 11 l 0) then (V 11 l 2) + (V 11 l 0) else (V 11 l 3))) := (show (mu (mu (mu (mu V 11 l 3 ((V 11 l 3) - 3)) 11 l 4 (c + (3 - 0))) 11 l 5 (wr ((V 11 l 5) + (c + (3 - 0))))) 11 l 6 (c + (3 - 0))) 11 l 3 = ((V 11 l 3) - 3) from ((mu_ne (by omega)).trans ((mu_ne (by omega)).trans ((mu_ne (by omega)).trans (mu_self _ _ _ _ _))))).trans (by (repeat' split) <;> omega)
        have m4 : (mu (mu (mu (mu V 11 l 3 ((V 11 l 3) - 3)) 11 l 4 (c + (3 - 0))) 11 l 5 (wr ((V 11 l 5) + (c + (3 - 0))))) 11 l 6 (c + (3 - 0))) 11 l 4 = (((if (V 11 l 1) = 0 ∧ (V 11 l 2) > (V 11 l 0) then c - 1 else c) + min 3 (if (V 11 l 1) = 0 ∧ (V 11 l 2) > (V 11 l 0) then (V 11 l 2) + (V 11 l 0) else (V 11 l 3)))) := (show (mu (mu (mu (mu V 11 l 3 ((V 11 l 3) - 3)) 11 l 4 (c + (3 - 0))) 11 l 5 (wr ((V 11 l 5) + (c + (3 - 0))))) 11 l 6 (c + (3 - 0))) 11 l 4 = (c + (3 - 0)) from ((mu_ne (by omega)).trans ((mu_ne (by omega)).trans (mu_self _ _ _ _ _)))).trans (by (repeat' split) <;> omega)
        have m5 : (mu (mu (mu (mu V 11 l 3 ((V 11 l 3) - 3)) 11 l 4 (c + (3 - 0))) 11 l 5 (wr ((V 11 l 5) + (c + (3 - 0))))) 11 l 6 (c + (3 - 0))) 11 l 5 = (wr ((V 11 l 5) + ((if (V 11 l 1) = 0 ∧ (V 11 l 2) > (V 11 l 0) then c - 1 else c) + min 3 (if (V 11 l 1) = 0 ∧ (V 11 l 2) > (V 11 l 0) then (V 11 l 2) + (V 11 l 0) else (V 11 l 3))))) := (show (mu (mu (mu (mu V 11 l 3 ((V 11 l 3) - 3)) 11 l 4 (c + (3 - 0))) 11 l 5 (wr ((V 11 l 5) + (c + (3 - 0))))) 11 l 6 (c + (3 - 0))) 11 l 5 = wr ((V 11 l 5) + (c + (3 - 0))) from ((mu_ne (by omega)).trans (mu_self _ _ _ _ _))).trans (congrArg wr (by simp only [if_neg hbeg]; (repeat' split) <;> omega))
        have m6 : (mu (mu (mu (mu V 11 l 3 ((V 11 l 3) - 3)) 11 l 4 (c + (3 - 0))) 11 l 5 (wr ((V 11 l 5) + (c + (3 - 0))))) 11 l 6 (c + (3 - 0))) 11 l 6 = (max (V 11 l 6) ((if (V 11 l 1) = 0 ∧ (V 11 l 2) > (V 11 l 0) then c - 1 else c) + min 3 (if (V 11 l 1) = 0 ∧ (V 11 l 2) > (V 11 l 0) then (V 11 l 2) + (V 11 l 0) else (V 11 l 3)))) := (show (mu (mu (mu (mu V 11 l 3 ((V 11 l 3) - 3)) 11 l 4 (c + (3 - 0))) 11 l 5 (wr ((V 11 l 5) + (c + (3 - 0))))) 11 l 6 (c + (3 - 0))) 11 l 6 = (c + (3 - 0)) from (mu_self _ _ _ _ _)).trans (by (repeat' split) <;> omega)
        have hV : (mu (mu (mu (mu V 11 l 3 ((V 11 l 3) - 3)) 11 l 4 (c + (3 - 0))) 11 l 5 (wr ((V 11 l 5) + (c + (3 - 0))))) 11 l 6 (c + (3 - 0))) = (su V 11 l (emR c (V 11 l))) := mu7 (fun c2 x y h => (mu_ne (by omega)).trans ((mu_ne (by omega)).trans ((mu_ne (by omega)).trans ((mu_ne (by omega)).trans (rfl))))) m0 m1 m2 m3 m4 m5 m6
        have qS := Sρ11
        have qX := Xρ11
        have qF := Fρ11
        rw [hV] at qS qX qF
        have q16 : 1 = (if (su V 11 l (emR c (V 11 l))) 11 l 3 = 0 then (0 : Int) else 1) := by rw [← hV, m3]; simp only [if_neg hbeg]; (repeat' split) <;> omega
        have qR : RS t σ0 (su V 11 l (emR c (V 11 l))) ρ11 := ⟨qS, qX.kf (r16a_ρ11.trans q16) r17b_ρ11, qF⟩
        have qL : LK (su V 11 l (emR c (V 11 l))) l := hL.to (fun c2 x y h => su_ne (by omega))
        refine y_look (V := (su V 11 l (emR c (V 11 l)))) (by omega) ht qR (by omega) qL (fun ρ12 Rρ12 => ?_)
        refine y_vret hK rfl dX6_endMove_148 ?_
        exact k _ Rρ12
    · have hval : 0 ≤ (if 0 < (V 11 l 3) then (V 11 l 3) - 0 else 0) ∧ (if 0 < (V 11 l 3) then (V 11 l 3) - 0 else 0) ≤ 3 := by split <;> omega
      have r17z := r17g.trans (show (if 0 < (V 11 l 3) then (0 : Int) else 0) = 0 from by split <;> omega)
      refine r_iaddE hC ((c + (if 0 < (V 11 l 3) then (V 11 l 3) - 0 else 0))) dX6_endMove_106 (by omega) (by unfold inR; omega) ?_
      refine r_istore_n hC dX6_endMove_107 rfl ?_
      refine r_aload_n hC dX6_endMove_108 rfl ?_
      refine r_iload_n hC dX6_endMove_109 rfl ?_
      refine r_bipush hC dX6_endMove_110 rfl ?_
      refine r_iload_n hC dX6_endMove_112 rfl ?_
      refine z_inv3 hM dX6_endMove_113 vl_RX6_173 rfl rfl rfl (Nat.le_of_ble_eq_true rfl) (Nat.le_of_ble_eq_true rfl) ?_
      refine y_set (by omega) (by omega) ⟨fun h => by omega, fun h => by omega⟩ ?_
      obtain ⟨ρ13, e_ρ13⟩ : ∃ zz_, zz_ = mu ρg 31 0 ((22 * l) + 18) (c + (if 0 < (V 11 l 3) then (V 11 l 3) - 0 else 0)) := ⟨_, rfl⟩
      rw [← e_ρ13]
      have Sρ13 : SB t σ0 (mu (mu (mu (mu V 11 l 3 0) 11 l 0 ((V 11 l 0) + (V 11 l 1))) 11 l 1 0) 11 l 4 (c + (if 0 < (V 11 l 3) then (V 11 l 3) - 0 else 0))) ρ13 := by rw [e_ρ13, show ((22 * l) + 18) = 22 * l + 18 from by omega]; exact Sg.p11 (by omega) (by omega) (by omega)
      have r16a_ρ13 : ρ13 31 0 (22 * l + 16) = 0 := by rw [e_ρ13]; exact (mu_ne (by omega)).trans r16g
      have r17b_ρ13 : ρ13 31 0 (22 * l + 17) = 0 := by rw [e_ρ13]; exact (mu_ne (by omega)).trans r17z
      have Xρ13 : KX t l (mu (mu (mu (mu V 11 l 3 0) 11 l 0 ((V 11 l 0) + (V 11 l 1))) 11 l 1 0) 11 l 4 (c + (if 0 < (V 11 l 3) then (V 11 l 3) - 0 else 0))) ρ13 := (Xg).e (fun m a b c => by rw [e_ρ13]; exact ⟨mu_ne (by omega), mu_ne (by omega)⟩) (fun m c => mu_ne (by omega))
      have Fρ13 : FB (mu (mu (mu (mu V 11 l 3 0) 11 l 0 ((V 11 l 0) + (V 11 l 1))) 11 l 1 0) 11 l 4 (c + (if 0 < (V 11 l 3) then (V 11 l 3) - 0 else 0))) ρ13 := by rw [e_ρ13]; exact (Fg).e (fun l a b => mu_ne (by omega)) |>.v (fun l y a b c => mu_ne (by omega))
      refine r_aload_n hC dX6_endMove_116 rfl ?_
      refine r_iload_n hC dX6_endMove_117 rfl ?_
      refine r_bipush hC dX6_endMove_118 rfl ?_
      refine r_iload_n hC dX6_endMove_120 rfl ?_
      refine z_inv3 hM dX6_endMove_121 vl_RX6_188 rfl rfl rfl (Nat.le_of_ble_eq_true rfl) (Nat.le_of_ble_eq_true rfl) ?_
      refine y_moreW (a := (V 11 l 5)) (by omega) (by omega) ⟨fun h => by omega, by omega⟩ ((Sρ13.a11 (s := 5) (f := 19) (by omega) (by omega) (by omega)).trans ((mu_ne (by omega)).trans ((mu_ne (by omega)).trans ((mu_ne (by omega)).trans ((mu_ne (by omega)).trans (rfl)))))) (by omega) ?_
      obtain ⟨ρ14, e_ρ14⟩ : ∃ zz_, zz_ = mu ρ13 31 0 ((22 * l) + 19) (wr ((V 11 l 5) + (c + (if 0 < (V 11 l 3) then (V 11 l 3) - 0 else 0)))) := ⟨_, rfl⟩
      rw [← e_ρ14]
      have Sρ14 : SB t σ0 (mu (mu (mu (mu (mu V 11 l 3 0) 11 l 0 ((V 11 l 0) + (V 11 l 1))) 11 l 1 0) 11 l 4 (c + (if 0 < (V 11 l 3) then (V 11 l 3) - 0 else 0))) 11 l 5 (wr ((V 11 l 5) + (c + (if 0 < (V 11 l 3) then (V 11 l 3) - 0 else 0))))) ρ14 := by rw [e_ρ14, show ((22 * l) + 19) = 22 * l + 19 from by omega]; exact Sρ13.p11 (by omega) (by omega) (by omega)
      have r16a_ρ14 : ρ14 31 0 (22 * l + 16) = 0 := by rw [e_ρ14]; exact (mu_ne (by omega)).trans r16a_ρ13
      have r17b_ρ14 : ρ14 31 0 (22 * l + 17) = 0 := by rw [e_ρ14]; exact (mu_ne (by omega)).trans r17b_ρ13
      have Xρ14 : KX t l (mu (mu (mu (mu (mu V 11 l 3 0) 11 l 0 ((V 11 l 0) + (V 11 l 1))) 11 l 1 0) 11 l 4 (c + (if 0 < (V 11 l 3) then (V 11 l 3) - 0 else 0))) 11 l 5 (wr ((V 11 l 5) + (c + (if 0 < (V 11 l 3) then (V 11 l 3) - 0 else 0))))) ρ14 := (Xρ13).e (fun m a b c => by rw [e_ρ14]; exact ⟨mu_ne (by omega), mu_ne (by omega)⟩) (fun m c => mu_ne (by omega))
      have Fρ14 : FB (mu (mu (mu (mu (mu V 11 l 3 0) 11 l 0 ((V 11 l 0) + (V 11 l 1))) 11 l 1 0) 11 l 4 (c + (if 0 < (V 11 l 3) then (V 11 l 3) - 0 else 0))) 11 l 5 (wr ((V 11 l 5) + (c + (if 0 < (V 11 l 3) then (V 11 l 3) - 0 else 0))))) ρ14 := by rw [e_ρ14]; exact (Fρ13).e (fun l a b => mu_ne (by omega)) |>.v (fun l y a b c => mu_ne (by omega))
      refine r_iload_n hC dX6_endMove_124 rfl ?_
      refine r_aload_n hC dX6_endMove_125 rfl ?_
      refine r_iload_n hC dX6_endMove_126 rfl ?_
      refine r_bipush hC dX6_endMove_127 rfl ?_
      refine z_inv2 hM dX6_endMove_129 vl_RX6_80 rfl rfl rfl (Nat.le_of_ble_eq_true rfl) (Nat.le_of_ble_eq_true rfl) ?_
      refine y_of (by omega) (by omega) (by omega) (fun o15 => ?_)
      have e16 : ρ14 31 0 (22 * l + 20) = (V 11 l 6) := (Sρ14.a11 (s := 6) (f := 20) (by omega) (by omega) (by omega)).trans ((mu_ne (by omega)).trans ((mu_ne (by omega)).trans ((mu_ne (by omega)).trans ((mu_ne (by omega)).trans ((mu_ne (by omega)).trans (rfl))))))
      rw [e16] at o15 ⊢
      refine r_icmp_le (tgt := 143) hC dX6_endMove_132 rfl (fun h17 => ?_) (fun h17 => ?_)
      · refine r_aload_n hC dX6_endMove_143 rfl ?_
        refine r_iload_n hC dX6_endMove_144 rfl ?_
        refine z_inv1 hM dX6_endMove_145 vl_RX6_191 rfl rfl rfl (Nat.le_of_ble_eq_true rfl) (Nat.le_of_ble_eq_true rfl) ?_
        have hbeg : ¬ (V 11 l 1 = 0 ∧ V 11 l 2 > V 11 l 0) := by omega
        have m0 : (mu (mu (mu (mu (mu V 11 l 3 0) 11 l 0 ((V 11 l 0) + (V 11 l 1))) 11 l 1 0) 11 l 4 (c + (if 0 < (V 11 l 3) then (V 11 l 3) - 0 else 0))) 11 l 5 (wr ((V 11 l 5) + (c + (if 0 < (V 11 l 3) then (V 11 l 3) - 0 else 0))))) 11 l 0 = (if (if (V 11 l 1) = 0 ∧ (V 11 l 2) > (V 11 l 0) then (V 11 l 2) + (V 11 l 0) else (V 11 l 3)) - min 3 (if (V 11 l 1) = 0 ∧ (V 11 l 2) > (V 11 l 0) then (V 11 l 2) + (V 11 l 0) else (V 11 l 3)) = 0 then (V 11 l 0) + (if (V 11 l 1) = 0 ∧ (V 11 l 2) > (V 11 l 0) then (V 11 l 2) else (V 11 l 1)) else (V 11 l 0)) := (show (mu (mu (mu (mu (mu V 11 l 3 0) 11 l 0 ((V 11 l 0) + (V 11 l 1))) 11 l 1 0) 11 l 4 (c + (if 0 < (V 11 l 3) then (V 11 l 3) - 0 else 0))) 11 l 5 (wr ((V 11 l 5) + (c + (if 0 < (V 11 l 3) then (V 11 l 3) - 0 else 0))))) 11 l 0 = ((V 11 l 0) + (V 11 l 1)) from ((mu_ne (by omega)).trans ((mu_ne (by omega)).trans ((mu_ne (by omega)).trans (mu_self _ _ _ _ _))))).trans (by (repeat' split) <;> omega)
        have m1 : (mu (mu (mu (mu (mu V 11 l 3 0) 11 l 0 ((V 11 l 0) + (V 11 l 1))) 11 l 1 0) 11 l 4 (c + (if 0 < (V 11 l 3) then (V 11 l 3) - 0 else 0))) 11 l 5 (wr ((V 11 l 5) + (c + (if 0 < (V 11 l 3) then (V 11 l 3) - 0 else 0))))) 11 l 1 = (if (if (V 11 l 1) = 0 ∧ (V 11 l 2) > (V 11 l 0) then (V 11 l 2) + (V 11 l 0) else (V 11 l 3)) - min 3 (if (V 11 l 1) = 0 ∧ (V 11 l 2) > (V 11 l 0) then (V 11 l 2) + (V 11 l 0) else (V 11 l 3)) = 0 then 0 else (if (V 11 l 1) = 0 ∧ (V 11 l 2) > (V 11 l 0) then (V 11 l 2) else (V 11 l 1))) := (show (mu (mu (mu (mu (mu V 11 l 3 0) 11 l 0 ((V 11 l 0) + (V 11 l 1))) 11 l 1 0) 11 l 4 (c + (if 0 < (V 11 l 3) then (V 11 l 3) - 0 else 0))) 11 l 5 (wr ((V 11 l 5) + (c + (if 0 < (V 11 l 3) then (V 11 l 3) - 0 else 0))))) 11 l 1 = 0 from ((mu_ne (by omega)).trans ((mu_ne (by omega)).trans (mu_self _ _ _ _ _)))).trans (by (repeat' split) <;> omega)
        have m2 : (mu (mu (mu (mu (mu V 11 l 3 0) 11 l 0 ((V 11 l 0) + (V 11 l 1))) 11 l 1 0) 11 l 4 (c + (if 0 < (V 11 l 3) then (V 11 l 3) - 0 else 0))) 11 l 5 (wr ((V 11 l 5) + (c + (if 0 < (V 11 l 3) then (V 11 l 3) - 0 else 0))))) 11 l 2 = (if (V 11 l 1) = 0 ∧ (V 11 l 2) > (V 11 l 0) then 0 else (V 11 l 2)) := (show (mu (mu (mu (mu (mu V 11 l 3 0) 11 l 0 ((V 11 l 0) + (V 11 l 1))) 11 l 1 0) 11 l 4 (c + (if 0 < (V 11 l 3) then (V 11 l 3) - 0 else 0))) 11 l 5 (wr ((V 11 l 5) + (c + (if 0 < (V 11 l 3) then (V 11 l 3) - 0 else 0))))) 11 l 2 = (V 11 l 2) from ((mu_ne (by omega)).trans ((mu_ne (by omega)).trans ((mu_ne (by omega)).trans ((mu_ne (by omega)).trans ((mu_ne (by omega)).trans (rfl))))))).trans (by (repeat' split) <;> omega)
        have m3 : (mu (mu (mu (mu (mu V 11 l 3 0) 11 l 0 ((V 11 l 0) + (V 11 l 1))) 11 l 1 0) 11 l 4 (c + (if 0 < (V 11 l 3) then (V 11 l 3) - 0 else 0))) 11 l 5 (wr ((V 11 l 5) + (c + (if 0 < (V 11 l 3) then (V 11 l 3) - 0 else 0))))) 11 l 3 = ((if (V 11 l 1) = 0 ∧ (V 11 l 2) > (V 11 l 0) then (V 11 l 2) + (V 11 l 0) else (V 11 l 3)) - min 3 (if (V 11 l 1) = 0 ∧ (V 11 l 2) > (V 11 l 0) then (V 11 l 2) + (V 11 l 0) else (V 11 l 3))) := (show (mu (mu (mu (mu (mu V 11 l 3 0) 11 l 0 ((V 11 l 0) + (V 11 l 1))) 11 l 1 0) 11 l 4 (c + (if 0 < (V 11 l 3) then (V 11 l 3) - 0 else 0))) 11 l 5 (wr ((V 11 l 5) + (c + (if 0 < (V 11 l 3) then (V 11 l 3) - 0 else 0))))) 11 l 3 = 0 from ((mu_ne (by omega)).trans ((mu_ne (by omega)).trans ((mu_ne (by omega)).trans ((mu_ne (by omega)).trans (mu_self _ _ _ _ _)))))).trans (by (repeat' split) <;> omega)
        have m4 : (mu (mu (mu (mu (mu V 11 l 3 0) 11 l 0 ((V 11 l 0) + (V 11 l 1))) 11 l 1 0) 11 l 4 (c + (if 0 < (V 11 l 3) then (V 11 l 3) - 0 else 0))) 11 l 5 (wr ((V 11 l 5) + (c + (if 0 < (V 11 l 3) then (V 11 l 3) - 0 else 0))))) 11 l 4 = (((if (V 11 l 1) = 0 ∧ (V 11 l 2) > (V 11 l 0) then c - 1 else c) + min 3 (if (V 11 l 1) = 0 ∧ (V 11 l 2) > (V 11 l 0) then (V 11 l 2) + (V 11 l 0) else (V 11 l 3)))) := (show (mu (mu (mu (mu (mu V 11 l 3 0) 11 l 0 ((V 11 l 0) + (V 11 l 1))) 11 l 1 0) 11 l 4 (c + (if 0 < (V 11 l 3) then (V 11 l 3) - 0 else 0))) 11 l 5 (wr ((V 11 l 5) + (c + (if 0 < (V 11 l 3) then (V 11 l 3) - 0 else 0))))) 11 l 4 = (c + (if 0 < (V 11 l 3) then (V 11 l 3) - 0 else 0)) from ((mu_ne (by omega)).trans (mu_self _ _ _ _ _))).trans (by (repeat' split) <;> omega)
        have m5 : (mu (mu (mu (mu (mu V 11 l 3 0) 11 l 0 ((V 11 l 0) + (V 11 l 1))) 11 l 1 0) 11 l 4 (c + (if 0 < (V 11 l 3) then (V 11 l 3) - 0 else 0))) 11 l 5 (wr ((V 11 l 5) + (c + (if 0 < (V 11 l 3) then (V 11 l 3) - 0 else 0))))) 11 l 5 = (wr ((V 11 l 5) + ((if (V 11 l 1) = 0 ∧ (V 11 l 2) > (V 11 l 0) then c - 1 else c) + min 3 (if (V 11 l 1) = 0 ∧ (V 11 l 2) > (V 11 l 0) then (V 11 l 2) + (V 11 l 0) else (V 11 l 3))))) := (show (mu (mu (mu (mu (mu V 11 l 3 0) 11 l 0 ((V 11 l 0) + (V 11 l 1))) 11 l 1 0) 11 l 4 (c + (if 0 < (V 11 l 3) then (V 11 l 3) - 0 else 0))) 11 l 5 (wr ((V 11 l 5) + (c + (if 0 < (V 11 l 3) then (V 11 l 3) - 0 else 0))))) 11 l 5 = wr ((V 11 l 5) + (c + (if 0 < (V 11 l 3) then (V 11 l 3) - 0 else 0))) from (mu_self _ _ _ _ _)).trans (congrArg wr (by simp only [if_neg hbeg]; (repeat' split) <;> omega))
        have m6 : (mu (mu (mu (mu (mu V 11 l 3 0) 11 l 0 ((V 11 l 0) + (V 11 l 1))) 11 l 1 0) 11 l 4 (c + (if 0 < (V 11 l 3) then (V 11 l 3) - 0 else 0))) 11 l 5 (wr ((V 11 l 5) + (c + (if 0 < (V 11 l 3) then (V 11 l 3) - 0 else 0))))) 11 l 6 = (max (V 11 l 6) ((if (V 11 l 1) = 0 ∧ (V 11 l 2) > (V 11 l 0) then c - 1 else c) + min 3 (if (V 11 l 1) = 0 ∧ (V 11 l 2) > (V 11 l 0) then (V 11 l 2) + (V 11 l 0) else (V 11 l 3)))) := (show (mu (mu (mu (mu (mu V 11 l 3 0) 11 l 0 ((V 11 l 0) + (V 11 l 1))) 11 l 1 0) 11 l 4 (c + (if 0 < (V 11 l 3) then (V 11 l 3) - 0 else 0))) 11 l 5 (wr ((V 11 l 5) + (c + (if 0 < (V 11 l 3) then (V 11 l 3) - 0 else 0))))) 11 l 6 = (V 11 l 6) from ((mu_ne (by omega)).trans ((mu_ne (by omega)).trans ((mu_ne (by omega)).trans ((mu_ne (by omega)).trans ((mu_ne (by omega)).trans (rfl))))))).trans (by (repeat' split) <;> omega)
        have hV : (mu (mu (mu (mu (mu V 11 l 3 0) 11 l 0 ((V 11 l 0) + (V 11 l 1))) 11 l 1 0) 11 l 4 (c + (if 0 < (V 11 l 3) then (V 11 l 3) - 0 else 0))) 11 l 5 (wr ((V 11 l 5) + (c + (if 0 < (V 11 l 3) then (V 11 l 3) - 0 else 0))))) = (su V 11 l (emR c (V 11 l))) := mu7 (fun c2 x y h => (mu_ne (by omega)).trans ((mu_ne (by omega)).trans ((mu_ne (by omega)).trans ((mu_ne (by omega)).trans ((mu_ne (by omega)).trans (rfl)))))) m0 m1 m2 m3 m4 m5 m6
        have qS := Sρ14
        have qX := Xρ14
        have qF := Fρ14
        rw [hV] at qS qX qF
        have q16 : 0 = (if (su V 11 l (emR c (V 11 l))) 11 l 3 = 0 then (0 : Int) else 1) := by rw [← hV, m3]; simp only [if_neg hbeg]; (repeat' split) <;> omega
        have qR : RS t σ0 (su V 11 l (emR c (V 11 l))) ρ14 := ⟨qS, qX.kf (r16a_ρ14.trans q16) r17b_ρ14, qF⟩
        have qL : LK (su V 11 l (emR c (V 11 l))) l := hL.to (fun c2 x y h => su_ne (by omega))
        refine y_look (V := (su V 11 l (emR c (V 11 l)))) (by omega) ht qR (by omega) qL (fun ρ18 Rρ18 => ?_)
        refine y_vret hK rfl dX6_endMove_148 ?_
        exact k _ Rρ18
      · refine r_aload_n hC dX6_endMove_135 rfl ?_
        refine r_iload_n hC dX6_endMove_136 rfl ?_
        refine r_bipush hC dX6_endMove_137 rfl ?_
        refine r_iload_n hC dX6_endMove_139 rfl ?_
        refine z_inv3 hM dX6_endMove_140 vl_RX6_173 rfl rfl rfl (Nat.le_of_ble_eq_true rfl) (Nat.le_of_ble_eq_true rfl) ?_
        refine y_set (by omega) (by omega) ⟨fun h => by omega, fun h => by omega⟩ ?_
        obtain ⟨ρ19, e_ρ19⟩ : ∃ zz_, zz_ = mu ρ14 31 0 ((22 * l) + 20) (c + (if 0 < (V 11 l 3) then (V 11 l 3) - 0 else 0)) := ⟨_, rfl⟩
        rw [← e_ρ19]
        have Sρ19 : SB t σ0 (mu (mu (mu (mu (mu (mu V 11 l 3 0) 11 l 0 ((V 11 l 0) + (V 11 l 1))) 11 l 1 0) 11 l 4 (c + (if 0 < (V 11 l 3) then (V 11 l 3) - 0 else 0))) 11 l 5 (wr ((V 11 l 5) + (c + (if 0 < (V 11 l 3) then (V 11 l 3) - 0 else 0))))) 11 l 6 (c + (if 0 < (V 11 l 3) then (V 11 l 3) - 0 else 0))) ρ19 := by rw [e_ρ19, show ((22 * l) + 20) = 22 * l + 20 from by omega]; exact Sρ14.p11 (by omega) (by omega) (by omega)
        have r16a_ρ19 : ρ19 31 0 (22 * l + 16) = 0 := by rw [e_ρ19]; exact (mu_ne (by omega)).trans r16a_ρ14
        have r17b_ρ19 : ρ19 31 0 (22 * l + 17) = 0 := by rw [e_ρ19]; exact (mu_ne (by omega)).trans r17b_ρ14
        have Xρ19 : KX t l (mu (mu (mu (mu (mu (mu V 11 l 3 0) 11 l 0 ((V 11 l 0) + (V 11 l 1))) 11 l 1 0) 11 l 4 (c + (if 0 < (V 11 l 3) then (V 11 l 3) - 0 else 0))) 11 l 5 (wr ((V 11 l 5) + (c + (if 0 < (V 11 l 3) then (V 11 l 3) - 0 else 0))))) 11 l 6 (c + (if 0 < (V 11 l 3) then (V 11 l 3) - 0 else 0))) ρ19 := (Xρ14).e (fun m a b c => by rw [e_ρ19]; exact ⟨mu_ne (by omega), mu_ne (by omega)⟩) (fun m c => mu_ne (by omega))
        have Fρ19 : FB (mu (mu (mu (mu (mu (mu V 11 l 3 0) 11 l 0 ((V 11 l 0) + (V 11 l 1))) 11 l 1 0) 11 l 4 (c + (if 0 < (V 11 l 3) then (V 11 l 3) - 0 else 0))) 11 l 5 (wr ((V 11 l 5) + (c + (if 0 < (V 11 l 3) then (V 11 l 3) - 0 else 0))))) 11 l 6 (c + (if 0 < (V 11 l 3) then (V 11 l 3) - 0 else 0))) ρ19 := by rw [e_ρ19]; exact (Fρ14).e (fun l a b => mu_ne (by omega)) |>.v (fun l y a b c => mu_ne (by omega))
        refine r_aload_n hC dX6_endMove_143 rfl ?_
        refine r_iload_n hC dX6_endMove_144 rfl ?_
        refine z_inv1 hM dX6_endMove_145 vl_RX6_191 rfl rfl rfl (Nat.le_of_ble_eq_true rfl) (Nat.le_of_ble_eq_true rfl) ?_
        have hbeg : ¬ (V 11 l 1 = 0 ∧ V 11 l 2 > V 11 l 0) := by omega
        have m0 : (mu (mu (mu (mu (mu (mu V 11 l 3 0) 11 l 0 ((V 11 l 0) + (V 11 l 1))) 11 l 1 0) 11 l 4 (c + (if 0 < (V 11 l 3) then (V 11 l 3) - 0 else 0))) 11 l 5 (wr ((V 11 l 5) + (c + (if 0 < (V 11 l 3) then (V 11 l 3) - 0 else 0))))) 11 l 6 (c + (if 0 < (V 11 l 3) then (V 11 l 3) - 0 else 0))) 11 l 0 = (if (if (V 11 l 1) = 0 ∧ (V 11 l 2) > (V 11 l 0) then (V 11 l 2) + (V 11 l 0) else (V 11 l 3)) - min 3 (if (V 11 l 1) = 0 ∧ (V 11 l 2) > (V 11 l 0) then (V 11 l 2) + (V 11 l 0) else (V 11 l 3)) = 0 then (V 11 l 0) + (if (V 11 l 1) = 0 ∧ (V 11 l 2) > (V 11 l 0) then (V 11 l 2) else (V 11 l 1)) else (V 11 l 0)) := (show (mu (mu (mu (mu (mu (mu V 11 l 3 0) 11 l 0 ((V 11 l 0) + (V 11 l 1))) 11 l 1 0) 11 l 4 (c + (if 0 < (V 11 l 3) then (V 11 l 3) - 0 else 0))) 11 l 5 (wr ((V 11 l 5) + (c + (if 0 < (V 11 l 3) then (V 11 l 3) - 0 else 0))))) 11 l 6 (c + (if 0 < (V 11 l 3) then (V 11 l 3) - 0 else 0))) 11 l 0 = ((V 11 l 0) + (V 11 l 1)) from ((mu_ne (by omega)).trans ((mu_ne (by omega)).trans ((mu_ne (by omega)).trans ((mu_ne (by omega)).trans (mu_self _ _ _ _ _)))))).trans (by (repeat' split) <;> omega)
        have m1 : (mu (mu (mu (mu (mu (mu V 11 l 3 0) 11 l 0 ((V 11 l 0) + (V 11 l 1))) 11 l 1 0) 11 l 4 (c + (if 0 < (V 11 l 3) then (V 11 l 3) - 0 else 0))) 11 l 5 (wr ((V 11 l 5) + (c + (if 0 < (V 11 l 3) then (V 11 l 3) - 0 else 0))))) 11 l 6 (c + (if 0 < (V 11 l 3) then (V 11 l 3) - 0 else 0))) 11 l 1 = (if (if (V 11 l 1) = 0 ∧ (V 11 l 2) > (V 11 l 0) then (V 11 l 2) + (V 11 l 0) else (V 11 l 3)) - min 3 (if (V 11 l 1) = 0 ∧ (V 11 l 2) > (V 11 l 0) then (V 11 l 2) + (V 11 l 0) else (V 11 l 3)) = 0 then 0 else (if (V 11 l 1) = 0 ∧ (V 11 l 2) > (V 11 l 0) then (V 11 l 2) else (V 11 l 1))) := (show (mu (mu (mu (mu (mu (mu V 11 l 3 0) 11 l 0 ((V 11 l 0) + (V 11 l 1))) 11 l 1 0) 11 l 4 (c + (if 0 < (V 11 l 3) then (V 11 l 3) - 0 else 0))) 11 l 5 (wr ((V 11 l 5) + (c + (if 0 < (V 11 l 3) then (V 11 l 3) - 0 else 0))))) 11 l 6 (c + (if 0 < (V 11 l 3) then (V 11 l 3) - 0 else 0))) 11 l 1 = 0 from ((mu_ne (by omega)).trans ((mu_ne (by omega)).trans ((mu_ne (by omega)).trans (mu_self _ _ _ _ _))))).trans (by (repeat' split) <;> omega)
        have m2 : (mu (mu (mu (mu (mu (mu V 11 l 3 0) 11 l 0 ((V 11 l 0) + (V 11 l 1))) 11 l 1 0) 11 l 4 (c + (if 0 < (V 11 l 3) then (V 11 l 3) - 0 else 0))) 11 l 5 (wr ((V 11 l 5) + (c + (if 0 < (V 11 l 3) then (V 11 l 3) - 0 else 0))))) 11 l 6 (c + (if 0 < (V 11 l 3) then (V 11 l 3) - 0 else 0))) 11 l 2 = (if (V 11 l 1) = 0 ∧ (V 11 l 2) > (V 11 l 0) then 0 else (V 11 l 2)) := (show (mu (mu (mu (mu (mu (mu V 11 l 3 0) 11 l 0 ((V 11 l 0) + (V 11 l 1))) 11 l 1 0) 11 l 4 (c + (if 0 < (V 11 l 3) then (V 11 l 3) - 0 else 0))) 11 l 5 (wr ((V 11 l 5) + (c + (if 0 < (V 11 l 3) then (V 11 l 3) - 0 else 0))))) 11 l 6 (c + (if 0 < (V 11 l 3) then (V 11 l 3) - 0 else 0))) 11 l 2 = (V 11 l 2) from ((mu_ne (by omega)).trans ((mu_ne (by omega)).trans ((mu_ne (by omega)).trans ((mu_ne (by omega)).trans ((mu_ne (by omega)).trans ((mu_ne (by omega)).trans (rfl)))))))).trans (by (repeat' split) <;> omega)
        have m3 : (mu (mu (mu (mu (mu (mu V 11 l 3 0) 11 l 0 ((V 11 l 0) + (V 11 l 1))) 11 l 1 0) 11 l 4 (c + (if 0 < (V 11 l 3) then (V 11 l 3) - 0 else 0))) 11 l 5 (wr ((V 11 l 5) + (c + (if 0 < (V 11 l 3) then (V 11 l 3) - 0 else 0))))) 11 l 6 (c + (if 0 < (V 11 l 3) then (V 11 l 3) - 0 else 0))) 11 l 3 = ((if (V 11 l 1) = 0 ∧ (V 11 l 2) > (V 11 l 0) then (V 11 l 2) + (V 11 l 0) else (V 11 l 3)) - min 3 (if (V 11 l 1) = 0 ∧ (V 11 l 2) > (V 11 l 0) then (V 11 l 2) + (V 11 l 0) else (V 11 l 3))) := (show (mu (mu (mu (mu (mu (mu V 11 l 3 0) 11 l 0 ((V 11 l 0) + (V 11 l 1))) 11 l 1 0) 11 l 4 (c + (if 0 < (V 11 l 3) then (V 11 l 3) - 0 else 0))) 11 l 5 (wr ((V 11 l 5) + (c + (if 0 < (V 11 l 3) then (V 11 l 3) - 0 else 0))))) 11 l 6 (c + (if 0 < (V 11 l 3) then (V 11 l 3) - 0 else 0))) 11 l 3 = 0 from ((mu_ne (by omega)).trans ((mu_ne (by omega)).trans ((mu_ne (by omega)).trans ((mu_ne (by omega)).trans ((mu_ne (by omega)).trans (mu_self _ _ _ _ _))))))).trans (by (repeat' split) <;> omega)
        have m4 : (mu (mu (mu (mu (mu (mu V 11 l 3 0) 11 l 0 ((V 11 l 0) + (V 11 l 1))) 11 l 1 0) 11 l 4 (c + (if 0 < (V 11 l 3) then (V 11 l 3) - 0 else 0))) 11 l 5 (wr ((V 11 l 5) + (c + (if 0 < (V 11 l 3) then (V 11 l 3) - 0 else 0))))) 11 l 6 (c + (if 0 < (V 11 l 3) then (V 11 l 3) - 0 else 0))) 11 l 4 = (((if (V 11 l 1) = 0 ∧ (V 11 l 2) > (V 11 l 0) then c - 1 else c) + min 3 (if (V 11 l 1) = 0 ∧ (V 11 l 2) > (V 11 l 0) then (V 11 l 2) + (V 11 l 0) else (V 11 l 3)))) := (show (mu (mu (mu (mu (mu (mu V 11 l 3 0) 11 l 0 ((V 11 l 0) + (V 11 l 1))) 11 l 1 0) 11 l 4 (c + (if 0 < (V 11 l 3) then (V 11 l 3) - 0 else 0))) 11 l 5 (wr ((V 11 l 5) + (c + (if 0 < (V 11 l 3) then (V 11 l 3) - 0 else 0))))) 11 l 6 (c + (if 0 < (V 11 l 3) then (V 11 l 3) - 0 else 0))) 11 l 4 = (c + (if 0 < (V 11 l 3) then (V 11 l 3) - 0 else 0)) from ((mu_ne (by omega)).trans ((mu_ne (by omega)).trans (mu_self _ _ _ _ _)))).trans (by (repeat' split) <;> omega)
        have m5 : (mu (mu (mu (mu (mu (mu V 11 l 3 0) 11 l 0 ((V 11 l 0) + (V 11 l 1))) 11 l 1 0) 11 l 4 (c + (if 0 < (V 11 l 3) then (V 11 l 3) - 0 else 0))) 11 l 5 (wr ((V 11 l 5) + (c + (if 0 < (V 11 l 3) then (V 11 l 3) - 0 else 0))))) 11 l 6 (c + (if 0 < (V 11 l 3) then (V 11 l 3) - 0 else 0))) 11 l 5 = (wr ((V 11 l 5) + ((if (V 11 l 1) = 0 ∧ (V 11 l 2) > (V 11 l 0) then c - 1 else c) + min 3 (if (V 11 l 1) = 0 ∧ (V 11 l 2) > (V 11 l 0) then (V 11 l 2) + (V 11 l 0) else (V 11 l 3))))) := (show (mu (mu (mu (mu (mu (mu V 11 l 3 0) 11 l 0 ((V 11 l 0) + (V 11 l 1))) 11 l 1 0) 11 l 4 (c + (if 0 < (V 11 l 3) then (V 11 l 3) - 0 else 0))) 11 l 5 (wr ((V 11 l 5) + (c + (if 0 < (V 11 l 3) then (V 11 l 3) - 0 else 0))))) 11 l 6 (c + (if 0 < (V 11 l 3) then (V 11 l 3) - 0 else 0))) 11 l 5 = wr ((V 11 l 5) + (c + (if 0 < (V 11 l 3) then (V 11 l 3) - 0 else 0))) from ((mu_ne (by omega)).trans (mu_self _ _ _ _ _))).trans (congrArg wr (by simp only [if_neg hbeg]; (repeat' split) <;> omega))
        have m6 : (mu (mu (mu (mu (mu (mu V 11 l 3 0) 11 l 0 ((V 11 l 0) + (V 11 l 1))) 11 l 1 0) 11 l 4 (c + (if 0 < (V 11 l 3) then (V 11 l 3) - 0 else 0))) 11 l 5 (wr ((V 11 l 5) + (c + (if 0 < (V 11 l 3) then (V 11 l 3) - 0 else 0))))) 11 l 6 (c + (if 0 < (V 11 l 3) then (V 11 l 3) - 0 else 0))) 11 l 6 = (max (V 11 l 6) ((if (V 11 l 1) = 0 ∧ (V 11 l 2) > (V 11 l 0) then c - 1 else c) + min 3 (if (V 11 l 1) = 0 ∧ (V 11 l 2) > (V 11 l 0) then (V 11 l 2) + (V 11 l 0) else (V 11 l 3)))) := (show (mu (mu (mu (mu (mu (mu V 11 l 3 0) 11 l 0 ((V 11 l 0) + (V 11 l 1))) 11 l 1 0) 11 l 4 (c + (if 0 < (V 11 l 3) then (V 11 l 3) - 0 else 0))) 11 l 5 (wr ((V 11 l 5) + (c + (if 0 < (V 11 l 3) then (V 11 l 3) - 0 else 0))))) 11 l 6 (c + (if 0 < (V 11 l 3) then (V 11 l 3) - 0 else 0))) 11 l 6 = (c + (if 0 < (V 11 l 3) then (V 11 l 3) - 0 else 0)) from (mu_self _ _ _ _ _)).trans (by (repeat' split) <;> omega)
        have hV : (mu (mu (mu (mu (mu (mu V 11 l 3 0) 11 l 0 ((V 11 l 0) + (V 11 l 1))) 11 l 1 0) 11 l 4 (c + (if 0 < (V 11 l 3) then (V 11 l 3) - 0 else 0))) 11 l 5 (wr ((V 11 l 5) + (c + (if 0 < (V 11 l 3) then (V 11 l 3) - 0 else 0))))) 11 l 6 (c + (if 0 < (V 11 l 3) then (V 11 l 3) - 0 else 0))) = (su V 11 l (emR c (V 11 l))) := mu7 (fun c2 x y h => (mu_ne (by omega)).trans ((mu_ne (by omega)).trans ((mu_ne (by omega)).trans ((mu_ne (by omega)).trans ((mu_ne (by omega)).trans ((mu_ne (by omega)).trans (rfl))))))) m0 m1 m2 m3 m4 m5 m6
        have qS := Sρ19
        have qX := Xρ19
        have qF := Fρ19
        rw [hV] at qS qX qF
        have q16 : 0 = (if (su V 11 l (emR c (V 11 l))) 11 l 3 = 0 then (0 : Int) else 1) := by rw [← hV, m3]; simp only [if_neg hbeg]; (repeat' split) <;> omega
        have qR : RS t σ0 (su V 11 l (emR c (V 11 l))) ρ19 := ⟨qS, qX.kf (r16a_ρ19.trans q16) r17b_ρ19, qF⟩
        have qL : LK (su V 11 l (emR c (V 11 l))) l := hL.to (fun c2 x y h => su_ne (by omega))
        refine y_look (V := (su V 11 l (emR c (V 11 l)))) (by omega) ht qR (by omega) qL (fun ρ20 Rρ20 => ?_)
        refine y_vret hK rfl dX6_endMove_148 ?_
        exact k _ Rρ20
  · refine r_aload_n hC dX6_endMove_12 rfl ?_
    refine r_iload_n hC dX6_endMove_13 rfl ?_
    refine r_bipush hC dX6_endMove_14 rfl ?_
    refine z_inv2 hM dX6_endMove_16 vl_RX6_80 rfl rfl rfl (Nat.le_of_ble_eq_true rfl) (Nat.le_of_ble_eq_true rfl) ?_
    refine y_of (by omega) (by omega) (by omega) (fun o21 => ?_)
    have e22 : σ 31 0 (22 * l + 14) = (V 11 l 2) := (hS.a11 (s := 2) (f := 14) (by omega) (by omega) (by omega)).trans (rfl)
    rw [e22] at o21 ⊢
    refine r_aload_n hC dX6_endMove_19 rfl ?_
    refine r_iload_n hC dX6_endMove_20 rfl ?_
    refine r_bipush hC dX6_endMove_21 rfl ?_
    refine z_inv2 hM dX6_endMove_23 vl_RX6_80 rfl rfl rfl (Nat.le_of_ble_eq_true rfl) (Nat.le_of_ble_eq_true rfl) ?_
    refine y_of (by omega) (by omega) (by omega) (fun o23 => ?_)
    have e24 : σ 31 0 (22 * l + 12) = (V 11 l 0) := (hS.a11 (s := 0) (f := 12) (by omega) (by omega) (by omega)).trans (rfl)
    rw [e24] at o23 ⊢
    refine r_icmp_le (tgt := 89) hC dX6_endMove_26 rfl (fun h25 => ?_) (fun h25 => ?_)
    · refine r_aload_n hC dX6_endMove_89 rfl ?_
      refine r_iload_n hC dX6_endMove_90 rfl ?_
      refine r_bipush hC dX6_endMove_91 rfl ?_
      refine z_inv2 hM dX6_endMove_93 vl_RX6_80 rfl rfl rfl (Nat.le_of_ble_eq_true rfl) (Nat.le_of_ble_eq_true rfl) ?_
      refine y_of (by omega) (by omega) (by omega) (fun o26 => ?_)
      rw [h16]
      refine r_iconst hC dX6_endMove_96 rfl ?_
      refine r_icmp_ne (tgt := 108) hC dX6_endMove_97 rfl (fun h27 => ?_) (fun h27 => by omega)
      refine r_aload_n hC dX6_endMove_108 rfl ?_
      refine r_iload_n hC dX6_endMove_109 rfl ?_
      refine r_bipush hC dX6_endMove_110 rfl ?_
      refine r_iload_n hC dX6_endMove_112 rfl ?_
      refine z_inv3 hM dX6_endMove_113 vl_RX6_173 rfl rfl rfl (Nat.le_of_ble_eq_true rfl) (Nat.le_of_ble_eq_true rfl) ?_
      refine y_set (by omega) (by omega) ⟨fun h => by omega, fun h => by omega⟩ ?_
      obtain ⟨ρ28, e_ρ28⟩ : ∃ zz_, zz_ = mu σ 31 0 ((22 * l) + 18) c := ⟨_, rfl⟩
      rw [← e_ρ28]
      have Sρ28 : SB t σ0 (mu V 11 l 4 c) ρ28 := by rw [e_ρ28, show ((22 * l) + 18) = 22 * l + 18 from by omega]; exact hS.p11 (by omega) (by omega) (by omega)
      have r16a_ρ28 : ρ28 31 0 (22 * l + 16) = fl := by rw [e_ρ28]; exact (mu_ne (by omega)).trans h16
      have r17b_ρ28 : ρ28 31 0 (22 * l + 17) = 0 := by rw [e_ρ28]; exact (mu_ne (by omega)).trans h17
      have Xρ28 : KX t l (mu V 11 l 4 c) ρ28 := (hX).e (fun m a b c => by rw [e_ρ28]; exact ⟨mu_ne (by omega), mu_ne (by omega)⟩) (fun m c => mu_ne (by omega))
      have Fρ28 : FB (mu V 11 l 4 c) ρ28 := by rw [e_ρ28]; exact (hFB).e (fun l a b => mu_ne (by omega)) |>.v (fun l y a b c => mu_ne (by omega))
      refine r_aload_n hC dX6_endMove_116 rfl ?_
      refine r_iload_n hC dX6_endMove_117 rfl ?_
      refine r_bipush hC dX6_endMove_118 rfl ?_
      refine r_iload_n hC dX6_endMove_120 rfl ?_
      refine z_inv3 hM dX6_endMove_121 vl_RX6_188 rfl rfl rfl (Nat.le_of_ble_eq_true rfl) (Nat.le_of_ble_eq_true rfl) ?_
      refine y_moreW (a := (V 11 l 5)) (by omega) (by omega) ⟨fun h => by omega, by omega⟩ ((Sρ28.a11 (s := 5) (f := 19) (by omega) (by omega) (by omega)).trans ((mu_ne (by omega)).trans (rfl))) (by omega) ?_
      obtain ⟨ρ29, e_ρ29⟩ : ∃ zz_, zz_ = mu ρ28 31 0 ((22 * l) + 19) (wr ((V 11 l 5) + c)) := ⟨_, rfl⟩
      rw [← e_ρ29]
      have Sρ29 : SB t σ0 (mu (mu V 11 l 4 c) 11 l 5 (wr ((V 11 l 5) + c))) ρ29 := by rw [e_ρ29, show ((22 * l) + 19) = 22 * l + 19 from by omega]; exact Sρ28.p11 (by omega) (by omega) (by omega)
      have r16a_ρ29 : ρ29 31 0 (22 * l + 16) = fl := by rw [e_ρ29]; exact (mu_ne (by omega)).trans r16a_ρ28
      have r17b_ρ29 : ρ29 31 0 (22 * l + 17) = 0 := by rw [e_ρ29]; exact (mu_ne (by omega)).trans r17b_ρ28
      have Xρ29 : KX t l (mu (mu V 11 l 4 c) 11 l 5 (wr ((V 11 l 5) + c))) ρ29 := (Xρ28).e (fun m a b c => by rw [e_ρ29]; exact ⟨mu_ne (by omega), mu_ne (by omega)⟩) (fun m c => mu_ne (by omega))
      have Fρ29 : FB (mu (mu V 11 l 4 c) 11 l 5 (wr ((V 11 l 5) + c))) ρ29 := by rw [e_ρ29]; exact (Fρ28).e (fun l a b => mu_ne (by omega)) |>.v (fun l y a b c => mu_ne (by omega))
      refine r_iload_n hC dX6_endMove_124 rfl ?_
      refine r_aload_n hC dX6_endMove_125 rfl ?_
      refine r_iload_n hC dX6_endMove_126 rfl ?_
      refine r_bipush hC dX6_endMove_127 rfl ?_
      refine z_inv2 hM dX6_endMove_129 vl_RX6_80 rfl rfl rfl (Nat.le_of_ble_eq_true rfl) (Nat.le_of_ble_eq_true rfl) ?_
      refine y_of (by omega) (by omega) (by omega) (fun o30 => ?_)
      have e31 : ρ29 31 0 (22 * l + 20) = (V 11 l 6) := (Sρ29.a11 (s := 6) (f := 20) (by omega) (by omega) (by omega)).trans ((mu_ne (by omega)).trans ((mu_ne (by omega)).trans (rfl)))
      rw [e31] at o30 ⊢
      refine r_icmp_le (tgt := 143) hC dX6_endMove_132 rfl (fun h32 => ?_) (fun h32 => ?_)
      · refine r_aload_n hC dX6_endMove_143 rfl ?_
        refine r_iload_n hC dX6_endMove_144 rfl ?_
        refine z_inv1 hM dX6_endMove_145 vl_RX6_191 rfl rfl rfl (Nat.le_of_ble_eq_true rfl) (Nat.le_of_ble_eq_true rfl) ?_
        have hbeg : ¬ (V 11 l 1 = 0 ∧ V 11 l 2 > V 11 l 0) := by omega
        have m0 : (mu (mu V 11 l 4 c) 11 l 5 (wr ((V 11 l 5) + c))) 11 l 0 = (if (if (V 11 l 1) = 0 ∧ (V 11 l 2) > (V 11 l 0) then (V 11 l 2) + (V 11 l 0) else (V 11 l 3)) - min 3 (if (V 11 l 1) = 0 ∧ (V 11 l 2) > (V 11 l 0) then (V 11 l 2) + (V 11 l 0) else (V 11 l 3)) = 0 then (V 11 l 0) + (if (V 11 l 1) = 0 ∧ (V 11 l 2) > (V 11 l 0) then (V 11 l 2) else (V 11 l 1)) else (V 11 l 0)) := (show (mu (mu V 11 l 4 c) 11 l 5 (wr ((V 11 l 5) + c))) 11 l 0 = (V 11 l 0) from ((mu_ne (by omega)).trans ((mu_ne (by omega)).trans (rfl)))).trans (by (repeat' split) <;> omega)
        have m1 : (mu (mu V 11 l 4 c) 11 l 5 (wr ((V 11 l 5) + c))) 11 l 1 = (if (if (V 11 l 1) = 0 ∧ (V 11 l 2) > (V 11 l 0) then (V 11 l 2) + (V 11 l 0) else (V 11 l 3)) - min 3 (if (V 11 l 1) = 0 ∧ (V 11 l 2) > (V 11 l 0) then (V 11 l 2) + (V 11 l 0) else (V 11 l 3)) = 0 then 0 else (if (V 11 l 1) = 0 ∧ (V 11 l 2) > (V 11 l 0) then (V 11 l 2) else (V 11 l 1))) := (show (mu (mu V 11 l 4 c) 11 l 5 (wr ((V 11 l 5) + c))) 11 l 1 = (V 11 l 1) from ((mu_ne (by omega)).trans ((mu_ne (by omega)).trans (rfl)))).trans (by (repeat' split) <;> omega)
        have m2 : (mu (mu V 11 l 4 c) 11 l 5 (wr ((V 11 l 5) + c))) 11 l 2 = (if (V 11 l 1) = 0 ∧ (V 11 l 2) > (V 11 l 0) then 0 else (V 11 l 2)) := (show (mu (mu V 11 l 4 c) 11 l 5 (wr ((V 11 l 5) + c))) 11 l 2 = (V 11 l 2) from ((mu_ne (by omega)).trans ((mu_ne (by omega)).trans (rfl)))).trans (by (repeat' split) <;> omega)
        have m3 : (mu (mu V 11 l 4 c) 11 l 5 (wr ((V 11 l 5) + c))) 11 l 3 = ((if (V 11 l 1) = 0 ∧ (V 11 l 2) > (V 11 l 0) then (V 11 l 2) + (V 11 l 0) else (V 11 l 3)) - min 3 (if (V 11 l 1) = 0 ∧ (V 11 l 2) > (V 11 l 0) then (V 11 l 2) + (V 11 l 0) else (V 11 l 3))) := (show (mu (mu V 11 l 4 c) 11 l 5 (wr ((V 11 l 5) + c))) 11 l 3 = (V 11 l 3) from ((mu_ne (by omega)).trans ((mu_ne (by omega)).trans (rfl)))).trans (by (repeat' split) <;> omega)
        have m4 : (mu (mu V 11 l 4 c) 11 l 5 (wr ((V 11 l 5) + c))) 11 l 4 = (((if (V 11 l 1) = 0 ∧ (V 11 l 2) > (V 11 l 0) then c - 1 else c) + min 3 (if (V 11 l 1) = 0 ∧ (V 11 l 2) > (V 11 l 0) then (V 11 l 2) + (V 11 l 0) else (V 11 l 3)))) := (show (mu (mu V 11 l 4 c) 11 l 5 (wr ((V 11 l 5) + c))) 11 l 4 = c from ((mu_ne (by omega)).trans (mu_self _ _ _ _ _))).trans (by (repeat' split) <;> omega)
        have m5 : (mu (mu V 11 l 4 c) 11 l 5 (wr ((V 11 l 5) + c))) 11 l 5 = (wr ((V 11 l 5) + ((if (V 11 l 1) = 0 ∧ (V 11 l 2) > (V 11 l 0) then c - 1 else c) + min 3 (if (V 11 l 1) = 0 ∧ (V 11 l 2) > (V 11 l 0) then (V 11 l 2) + (V 11 l 0) else (V 11 l 3))))) := (show (mu (mu V 11 l 4 c) 11 l 5 (wr ((V 11 l 5) + c))) 11 l 5 = wr ((V 11 l 5) + c) from (mu_self _ _ _ _ _)).trans (congrArg wr (by simp only [if_neg hbeg]; (repeat' split) <;> omega))
        have m6 : (mu (mu V 11 l 4 c) 11 l 5 (wr ((V 11 l 5) + c))) 11 l 6 = (max (V 11 l 6) ((if (V 11 l 1) = 0 ∧ (V 11 l 2) > (V 11 l 0) then c - 1 else c) + min 3 (if (V 11 l 1) = 0 ∧ (V 11 l 2) > (V 11 l 0) then (V 11 l 2) + (V 11 l 0) else (V 11 l 3)))) := (show (mu (mu V 11 l 4 c) 11 l 5 (wr ((V 11 l 5) + c))) 11 l 6 = (V 11 l 6) from ((mu_ne (by omega)).trans ((mu_ne (by omega)).trans (rfl)))).trans (by (repeat' split) <;> omega)
        have hV : (mu (mu V 11 l 4 c) 11 l 5 (wr ((V 11 l 5) + c))) = (su V 11 l (emR c (V 11 l))) := mu7 (fun c2 x y h => (mu_ne (by omega)).trans ((mu_ne (by omega)).trans (rfl))) m0 m1 m2 m3 m4 m5 m6
        have qS := Sρ29
        have qX := Xρ29
        have qF := Fρ29
        rw [hV] at qS qX qF
        have q16 : fl = (if (su V 11 l (emR c (V 11 l))) 11 l 3 = 0 then (0 : Int) else 1) := by rw [← hV, m3]; simp only [if_neg hbeg]; (repeat' split) <;> omega
        have qR : RS t σ0 (su V 11 l (emR c (V 11 l))) ρ29 := ⟨qS, qX.kf (r16a_ρ29.trans q16) r17b_ρ29, qF⟩
        have qL : LK (su V 11 l (emR c (V 11 l))) l := hL.to (fun c2 x y h => su_ne (by omega))
        refine y_look (V := (su V 11 l (emR c (V 11 l)))) (by omega) ht qR (by omega) qL (fun ρ33 Rρ33 => ?_)
        refine y_vret hK rfl dX6_endMove_148 ?_
        exact k _ Rρ33
      · refine r_aload_n hC dX6_endMove_135 rfl ?_
        refine r_iload_n hC dX6_endMove_136 rfl ?_
        refine r_bipush hC dX6_endMove_137 rfl ?_
        refine r_iload_n hC dX6_endMove_139 rfl ?_
        refine z_inv3 hM dX6_endMove_140 vl_RX6_173 rfl rfl rfl (Nat.le_of_ble_eq_true rfl) (Nat.le_of_ble_eq_true rfl) ?_
        refine y_set (by omega) (by omega) ⟨fun h => by omega, fun h => by omega⟩ ?_
        obtain ⟨ρ34, e_ρ34⟩ : ∃ zz_, zz_ = mu ρ29 31 0 ((22 * l) + 20) c := ⟨_, rfl⟩
        rw [← e_ρ34]
        have Sρ34 : SB t σ0 (mu (mu (mu V 11 l 4 c) 11 l 5 (wr ((V 11 l 5) + c))) 11 l 6 c) ρ34 := by rw [e_ρ34, show ((22 * l) + 20) = 22 * l + 20 from by omega]; exact Sρ29.p11 (by omega) (by omega) (by omega)
        have r16a_ρ34 : ρ34 31 0 (22 * l + 16) = fl := by rw [e_ρ34]; exact (mu_ne (by omega)).trans r16a_ρ29
        have r17b_ρ34 : ρ34 31 0 (22 * l + 17) = 0 := by rw [e_ρ34]; exact (mu_ne (by omega)).trans r17b_ρ29
        have Xρ34 : KX t l (mu (mu (mu V 11 l 4 c) 11 l 5 (wr ((V 11 l 5) + c))) 11 l 6 c) ρ34 := (Xρ29).e (fun m a b c => by rw [e_ρ34]; exact ⟨mu_ne (by omega), mu_ne (by omega)⟩) (fun m c => mu_ne (by omega))
        have Fρ34 : FB (mu (mu (mu V 11 l 4 c) 11 l 5 (wr ((V 11 l 5) + c))) 11 l 6 c) ρ34 := by rw [e_ρ34]; exact (Fρ29).e (fun l a b => mu_ne (by omega)) |>.v (fun l y a b c => mu_ne (by omega))
        refine r_aload_n hC dX6_endMove_143 rfl ?_
        refine r_iload_n hC dX6_endMove_144 rfl ?_
        refine z_inv1 hM dX6_endMove_145 vl_RX6_191 rfl rfl rfl (Nat.le_of_ble_eq_true rfl) (Nat.le_of_ble_eq_true rfl) ?_
        have hbeg : ¬ (V 11 l 1 = 0 ∧ V 11 l 2 > V 11 l 0) := by omega
        have m0 : (mu (mu (mu V 11 l 4 c) 11 l 5 (wr ((V 11 l 5) + c))) 11 l 6 c) 11 l 0 = (if (if (V 11 l 1) = 0 ∧ (V 11 l 2) > (V 11 l 0) then (V 11 l 2) + (V 11 l 0) else (V 11 l 3)) - min 3 (if (V 11 l 1) = 0 ∧ (V 11 l 2) > (V 11 l 0) then (V 11 l 2) + (V 11 l 0) else (V 11 l 3)) = 0 then (V 11 l 0) + (if (V 11 l 1) = 0 ∧ (V 11 l 2) > (V 11 l 0) then (V 11 l 2) else (V 11 l 1)) else (V 11 l 0)) := (show (mu (mu (mu V 11 l 4 c) 11 l 5 (wr ((V 11 l 5) + c))) 11 l 6 c) 11 l 0 = (V 11 l 0) from ((mu_ne (by omega)).trans ((mu_ne (by omega)).trans ((mu_ne (by omega)).trans (rfl))))).trans (by (repeat' split) <;> omega)
        have m1 : (mu (mu (mu V 11 l 4 c) 11 l 5 (wr ((V 11 l 5) + c))) 11 l 6 c) 11 l 1 = (if (if (V 11 l 1) = 0 ∧ (V 11 l 2) > (V 11 l 0) then (V 11 l 2) + (V 11 l 0) else (V 11 l 3)) - min 3 (if (V 11 l 1) = 0 ∧ (V 11 l 2) > (V 11 l 0) then (V 11 l 2) + (V 11 l 0) else (V 11 l 3)) = 0 then 0 else (if (V 11 l 1) = 0 ∧ (V 11 l 2) > (V 11 l 0) then (V 11 l 2) else (V 11 l 1))) := (show (mu (mu (mu V 11 l 4 c) 11 l 5 (wr ((V 11 l 5) + c))) 11 l 6 c) 11 l 1 = (V 11 l 1) from ((mu_ne (by omega)).trans ((mu_ne (by omega)).trans ((mu_ne (by omega)).trans (rfl))))).trans (by (repeat' split) <;> omega)
        have m2 : (mu (mu (mu V 11 l 4 c) 11 l 5 (wr ((V 11 l 5) + c))) 11 l 6 c) 11 l 2 = (if (V 11 l 1) = 0 ∧ (V 11 l 2) > (V 11 l 0) then 0 else (V 11 l 2)) := (show (mu (mu (mu V 11 l 4 c) 11 l 5 (wr ((V 11 l 5) + c))) 11 l 6 c) 11 l 2 = (V 11 l 2) from ((mu_ne (by omega)).trans ((mu_ne (by omega)).trans ((mu_ne (by omega)).trans (rfl))))).trans (by (repeat' split) <;> omega)
        have m3 : (mu (mu (mu V 11 l 4 c) 11 l 5 (wr ((V 11 l 5) + c))) 11 l 6 c) 11 l 3 = ((if (V 11 l 1) = 0 ∧ (V 11 l 2) > (V 11 l 0) then (V 11 l 2) + (V 11 l 0) else (V 11 l 3)) - min 3 (if (V 11 l 1) = 0 ∧ (V 11 l 2) > (V 11 l 0) then (V 11 l 2) + (V 11 l 0) else (V 11 l 3))) := (show (mu (mu (mu V 11 l 4 c) 11 l 5 (wr ((V 11 l 5) + c))) 11 l 6 c) 11 l 3 = (V 11 l 3) from ((mu_ne (by omega)).trans ((mu_ne (by omega)).trans ((mu_ne (by omega)).trans (rfl))))).trans (by (repeat' split) <;> omega)
        have m4 : (mu (mu (mu V 11 l 4 c) 11 l 5 (wr ((V 11 l 5) + c))) 11 l 6 c) 11 l 4 = (((if (V 11 l 1) = 0 ∧ (V 11 l 2) > (V 11 l 0) then c - 1 else c) + min 3 (if (V 11 l 1) = 0 ∧ (V 11 l 2) > (V 11 l 0) then (V 11 l 2) + (V 11 l 0) else (V 11 l 3)))) := (show (mu (mu (mu V 11 l 4 c) 11 l 5 (wr ((V 11 l 5) + c))) 11 l 6 c) 11 l 4 = c from ((mu_ne (by omega)).trans ((mu_ne (by omega)).trans (mu_self _ _ _ _ _)))).trans (by (repeat' split) <;> omega)
        have m5 : (mu (mu (mu V 11 l 4 c) 11 l 5 (wr ((V 11 l 5) + c))) 11 l 6 c) 11 l 5 = (wr ((V 11 l 5) + ((if (V 11 l 1) = 0 ∧ (V 11 l 2) > (V 11 l 0) then c - 1 else c) + min 3 (if (V 11 l 1) = 0 ∧ (V 11 l 2) > (V 11 l 0) then (V 11 l 2) + (V 11 l 0) else (V 11 l 3))))) := (show (mu (mu (mu V 11 l 4 c) 11 l 5 (wr ((V 11 l 5) + c))) 11 l 6 c) 11 l 5 = wr ((V 11 l 5) + c) from ((mu_ne (by omega)).trans (mu_self _ _ _ _ _))).trans (congrArg wr (by simp only [if_neg hbeg]; (repeat' split) <;> omega))
        have m6 : (mu (mu (mu V 11 l 4 c) 11 l 5 (wr ((V 11 l 5) + c))) 11 l 6 c) 11 l 6 = (max (V 11 l 6) ((if (V 11 l 1) = 0 ∧ (V 11 l 2) > (V 11 l 0) then c - 1 else c) + min 3 (if (V 11 l 1) = 0 ∧ (V 11 l 2) > (V 11 l 0) then (V 11 l 2) + (V 11 l 0) else (V 11 l 3)))) := (show (mu (mu (mu V 11 l 4 c) 11 l 5 (wr ((V 11 l 5) + c))) 11 l 6 c) 11 l 6 = c from (mu_self _ _ _ _ _)).trans (by (repeat' split) <;> omega)
        have hV : (mu (mu (mu V 11 l 4 c) 11 l 5 (wr ((V 11 l 5) + c))) 11 l 6 c) = (su V 11 l (emR c (V 11 l))) := mu7 (fun c2 x y h => (mu_ne (by omega)).trans ((mu_ne (by omega)).trans ((mu_ne (by omega)).trans (rfl)))) m0 m1 m2 m3 m4 m5 m6
        have qS := Sρ34
        have qX := Xρ34
        have qF := Fρ34
        rw [hV] at qS qX qF
        have q16 : fl = (if (su V 11 l (emR c (V 11 l))) 11 l 3 = 0 then (0 : Int) else 1) := by rw [← hV, m3]; simp only [if_neg hbeg]; (repeat' split) <;> omega
        have qR : RS t σ0 (su V 11 l (emR c (V 11 l))) ρ34 := ⟨qS, qX.kf (r16a_ρ34.trans q16) r17b_ρ34, qF⟩
        have qL : LK (su V 11 l (emR c (V 11 l))) l := hL.to (fun c2 x y h => su_ne (by omega))
        refine y_look (V := (su V 11 l (emR c (V 11 l)))) (by omega) ht qR (by omega) qL (fun ρ35 Rρ35 => ?_)
        refine y_vret hK rfl dX6_endMove_148 ?_
        exact k _ Rρ35
    · refine r_aload_n hC dX6_endMove_29 rfl ?_
      refine r_iload_n hC dX6_endMove_30 rfl ?_
      refine r_bipush hC dX6_endMove_31 rfl ?_
      refine r_iconst hC dX6_endMove_33 rfl ?_
      refine z_inv3 hM dX6_endMove_34 vl_RX6_173 rfl rfl rfl (Nat.le_of_ble_eq_true rfl) (Nat.le_of_ble_eq_true rfl) ?_
      refine y_set (by omega) (by omega) ⟨fun h => by omega, fun h => by omega⟩ ?_
      obtain ⟨ρ36, e_ρ36⟩ : ∃ zz_, zz_ = mu σ 31 0 ((22 * l) + 16) 1 := ⟨_, rfl⟩
      rw [← e_ρ36]
      have Sρ36 : SB t σ0 V ρ36 := by rw [e_ρ36, show ((22 * l) + 16) = 22 * l + 16 from by omega]; exact hS.px (by omega)
      have r16a_ρ36 : ρ36 31 0 (22 * l + 16) = 1 := by rw [e_ρ36, show ((22 * l) + 16) = 22 * l + 16 from by omega]; exact mu_self _ _ _ _ _
      have r17b_ρ36 : ρ36 31 0 (22 * l + 17) = 0 := by rw [e_ρ36]; exact (mu_ne (by omega)).trans h17
      have Xρ36 : KX t l V ρ36 := (hX).e (fun m a b c => by rw [e_ρ36]; exact ⟨mu_ne (by omega), mu_ne (by omega)⟩) (fun m c => rfl)
      have Fρ36 : FB V ρ36 := by rw [e_ρ36]; exact (hFB).e (fun l a b => mu_ne (by omega))
      refine r_aload_n hC dX6_endMove_37 rfl ?_
      refine r_iload_n hC dX6_endMove_38 rfl ?_
      refine r_bipush hC dX6_endMove_39 rfl ?_
      refine r_iconst hC dX6_endMove_41 rfl ?_
      refine z_inv3 hM dX6_endMove_42 vl_RX6_173 rfl rfl rfl (Nat.le_of_ble_eq_true rfl) (Nat.le_of_ble_eq_true rfl) ?_
      refine y_set (by omega) (by omega) ⟨fun h => by omega, fun h => by omega⟩ ?_
      obtain ⟨ρ37, e_ρ37⟩ : ∃ zz_, zz_ = mu ρ36 31 0 ((22 * l) + 17) 1 := ⟨_, rfl⟩
      rw [← e_ρ37]
      have Sρ37 : SB t σ0 V ρ37 := by rw [e_ρ37, show ((22 * l) + 17) = 22 * l + 17 from by omega]; exact Sρ36.px (by omega)
      have r16a_ρ37 : ρ37 31 0 (22 * l + 16) = 1 := by rw [e_ρ37]; exact (mu_ne (by omega)).trans r16a_ρ36
      have r17b_ρ37 : ρ37 31 0 (22 * l + 17) = 1 := by rw [e_ρ37, show ((22 * l) + 17) = 22 * l + 17 from by omega]; exact mu_self _ _ _ _ _
      have Xρ37 : KX t l V ρ37 := (Xρ36).e (fun m a b c => by rw [e_ρ37]; exact ⟨mu_ne (by omega), mu_ne (by omega)⟩) (fun m c => rfl)
      have Fρ37 : FB V ρ37 := by rw [e_ρ37]; exact (Fρ36).e (fun l a b => mu_ne (by omega))
      refine r_aload_n hC dX6_endMove_45 rfl ?_
      refine r_iload_n hC dX6_endMove_46 rfl ?_
      refine r_bipush hC dX6_endMove_47 rfl ?_
      refine r_aload_n hC dX6_endMove_49 rfl ?_
      refine r_iload_n hC dX6_endMove_50 rfl ?_
      refine r_bipush hC dX6_endMove_51 rfl ?_
      refine z_inv2 hM dX6_endMove_53 vl_RX6_80 rfl rfl rfl (Nat.le_of_ble_eq_true rfl) (Nat.le_of_ble_eq_true rfl) ?_
      refine y_of (by omega) (by omega) (by omega) (fun o38 => ?_)
      have e39 : ρ37 31 0 (22 * l + 14) = (V 11 l 2) := (Sρ37.a11 (s := 2) (f := 14) (by omega) (by omega) (by omega)).trans (rfl)
      rw [e39] at o38 ⊢
      refine z_inv3 hM dX6_endMove_56 vl_RX6_173 rfl rfl rfl (Nat.le_of_ble_eq_true rfl) (Nat.le_of_ble_eq_true rfl) ?_
      refine y_set (by omega) (by omega) ⟨fun h => by omega, fun h => by omega⟩ ?_
      obtain ⟨ρ40, e_ρ40⟩ : ∃ zz_, zz_ = mu ρ37 31 0 ((22 * l) + 13) (V 11 l 2) := ⟨_, rfl⟩
      rw [← e_ρ40]
      have Sρ40 : SB t σ0 (mu V 11 l 1 (V 11 l 2)) ρ40 := by rw [e_ρ40, show ((22 * l) + 13) = 22 * l + 13 from by omega]; exact Sρ37.p11 (by omega) (by omega) (by omega)
      have r16a_ρ40 : ρ40 31 0 (22 * l + 16) = 1 := by rw [e_ρ40]; exact (mu_ne (by omega)).trans r16a_ρ37
      have r17b_ρ40 : ρ40 31 0 (22 * l + 17) = 1 := by rw [e_ρ40]; exact (mu_ne (by omega)).trans r17b_ρ37
      have Xρ40 : KX t l (mu V 11 l 1 (V 11 l 2)) ρ40 := (Xρ37).e (fun m a b c => by rw [e_ρ40]; exact ⟨mu_ne (by omega), mu_ne (by omega)⟩) (fun m c => mu_ne (by omega))
      have Fρ40 : FB (mu V 11 l 1 (V 11 l 2)) ρ40 := by rw [e_ρ40]; exact (Fρ37).e (fun l a b => mu_ne (by omega)) |>.v (fun l y a b c => mu_ne (by omega))
      refine r_aload_n hC dX6_endMove_59 rfl ?_
      refine r_iload_n hC dX6_endMove_60 rfl ?_
      refine r_bipush hC dX6_endMove_61 rfl ?_
      refine r_iconst hC dX6_endMove_63 rfl ?_
      refine z_inv3 hM dX6_endMove_64 vl_RX6_173 rfl rfl rfl (Nat.le_of_ble_eq_true rfl) (Nat.le_of_ble_eq_true rfl) ?_
      refine y_set (by omega) (by omega) ⟨fun h => by omega, fun h => by omega⟩ ?_
      obtain ⟨ρ41, e_ρ41⟩ : ∃ zz_, zz_ = mu ρ40 31 0 ((22 * l) + 14) 0 := ⟨_, rfl⟩
      rw [← e_ρ41]
      have Sρ41 : SB t σ0 (mu (mu V 11 l 1 (V 11 l 2)) 11 l 2 0) ρ41 := by rw [e_ρ41, show ((22 * l) + 14) = 22 * l + 14 from by omega]; exact Sρ40.p11 (by omega) (by omega) (by omega)
      have r16a_ρ41 : ρ41 31 0 (22 * l + 16) = 1 := by rw [e_ρ41]; exact (mu_ne (by omega)).trans r16a_ρ40
      have r17b_ρ41 : ρ41 31 0 (22 * l + 17) = 1 := by rw [e_ρ41]; exact (mu_ne (by omega)).trans r17b_ρ40
      have Xρ41 : KX t l (mu (mu V 11 l 1 (V 11 l 2)) 11 l 2 0) ρ41 := (Xρ40).e (fun m a b c => by rw [e_ρ41]; exact ⟨mu_ne (by omega), mu_ne (by omega)⟩) (fun m c => mu_ne (by omega))
      have Fρ41 : FB (mu (mu V 11 l 1 (V 11 l 2)) 11 l 2 0) ρ41 := by rw [e_ρ41]; exact (Fρ40).e (fun l a b => mu_ne (by omega)) |>.v (fun l y a b c => mu_ne (by omega))
      refine r_aload_n hC dX6_endMove_67 rfl ?_
      refine r_iload_n hC dX6_endMove_68 rfl ?_
      refine r_bipush hC dX6_endMove_69 rfl ?_
      refine r_aload_n hC dX6_endMove_71 rfl ?_
      refine r_iload_n hC dX6_endMove_72 rfl ?_
      refine r_bipush hC dX6_endMove_73 rfl ?_
      refine z_inv2 hM dX6_endMove_75 vl_RX6_80 rfl rfl rfl (Nat.le_of_ble_eq_true rfl) (Nat.le_of_ble_eq_true rfl) ?_
      refine y_of (by omega) (by omega) (by omega) (fun o42 => ?_)
      have e43 : ρ41 31 0 (22 * l + 13) = (V 11 l 2) := (Sρ41.a11 (s := 1) (f := 13) (by omega) (by omega) (by omega)).trans ((mu_ne (by omega)).trans (mu_self _ _ _ _ _))
      rw [e43] at o42 ⊢
      refine r_aload_n hC dX6_endMove_78 rfl ?_
      refine r_iload_n hC dX6_endMove_79 rfl ?_
      refine r_bipush hC dX6_endMove_80 rfl ?_
      refine z_inv2 hM dX6_endMove_82 vl_RX6_80 rfl rfl rfl (Nat.le_of_ble_eq_true rfl) (Nat.le_of_ble_eq_true rfl) ?_
      refine y_of (by omega) (by omega) (by omega) (fun o44 => ?_)
      have e45 : ρ41 31 0 (22 * l + 12) = (V 11 l 0) := (Sρ41.a11 (s := 0) (f := 12) (by omega) (by omega) (by omega)).trans ((mu_ne (by omega)).trans ((mu_ne (by omega)).trans (rfl)))
      rw [e45] at o44 ⊢
      refine r_iaddE hC (((V 11 l 2) + (V 11 l 0))) dX6_endMove_85 (by omega) (by unfold inR; omega) ?_
      refine z_inv3 hM dX6_endMove_86 vl_RX6_173 rfl rfl rfl (Nat.le_of_ble_eq_true rfl) (Nat.le_of_ble_eq_true rfl) ?_
      refine y_set (by omega) (by omega) ⟨fun h => by omega, fun h => by omega⟩ ?_
      obtain ⟨ρ46, e_ρ46⟩ : ∃ zz_, zz_ = mu ρ41 31 0 ((22 * l) + 15) ((V 11 l 2) + (V 11 l 0)) := ⟨_, rfl⟩
      rw [← e_ρ46]
      have Sρ46 : SB t σ0 (mu (mu (mu V 11 l 1 (V 11 l 2)) 11 l 2 0) 11 l 3 ((V 11 l 2) + (V 11 l 0))) ρ46 := by rw [e_ρ46, show ((22 * l) + 15) = 22 * l + 15 from by omega]; exact Sρ41.p11 (by omega) (by omega) (by omega)
      have r16a_ρ46 : ρ46 31 0 (22 * l + 16) = 1 := by rw [e_ρ46]; exact (mu_ne (by omega)).trans r16a_ρ41
      have r17b_ρ46 : ρ46 31 0 (22 * l + 17) = 1 := by rw [e_ρ46]; exact (mu_ne (by omega)).trans r17b_ρ41
      have Xρ46 : KX t l (mu (mu (mu V 11 l 1 (V 11 l 2)) 11 l 2 0) 11 l 3 ((V 11 l 2) + (V 11 l 0))) ρ46 := (Xρ41).e (fun m a b c => by rw [e_ρ46]; exact ⟨mu_ne (by omega), mu_ne (by omega)⟩) (fun m c => mu_ne (by omega))
      have Fρ46 : FB (mu (mu (mu V 11 l 1 (V 11 l 2)) 11 l 2 0) 11 l 3 ((V 11 l 2) + (V 11 l 0))) ρ46 := by rw [e_ρ46]; exact (Fρ41).e (fun l a b => mu_ne (by omega)) |>.v (fun l y a b c => mu_ne (by omega))
      refine r_aload_n hC dX6_endMove_89 rfl ?_
      refine r_iload_n hC dX6_endMove_90 rfl ?_
      refine r_bipush hC dX6_endMove_91 rfl ?_
      refine z_inv2 hM dX6_endMove_93 vl_RX6_80 rfl rfl rfl (Nat.le_of_ble_eq_true rfl) (Nat.le_of_ble_eq_true rfl) ?_
      refine y_of (by omega) (by omega) (by omega) (fun o47 => ?_)
      rw [r16a_ρ46]
      refine r_iconst hC dX6_endMove_96 rfl ?_
      refine r_icmp_ne (tgt := 108) hC dX6_endMove_97 rfl (fun h48 => by omega) (fun h48 => ?_)
      refine r_iload_n hC dX6_endMove_100 rfl ?_
      refine r_aload_n hC dX6_endMove_101 rfl ?_
      refine r_iload_n hC dX6_endMove_102 rfl ?_
      refine z_inv1 hM dX6_endMove_103 vl_RX6_185 rfl rfl rfl (Nat.le_of_ble_eq_true rfl) (Nat.le_of_ble_eq_true rfl) ?_
      have z0 : (mu (mu (mu V 11 l 1 (V 11 l 2)) 11 l 2 0) 11 l 3 ((V 11 l 2) + (V 11 l 0))) 11 l 0 = (V 11 l 0) := ((mu_ne (by omega)).trans ((mu_ne (by omega)).trans ((mu_ne (by omega)).trans (rfl))))
      have z1 : (mu (mu (mu V 11 l 1 (V 11 l 2)) 11 l 2 0) 11 l 3 ((V 11 l 2) + (V 11 l 0))) 11 l 1 = (V 11 l 2) := ((mu_ne (by omega)).trans ((mu_ne (by omega)).trans (mu_self _ _ _ _ _)))
      have z2 : (mu (mu (mu V 11 l 1 (V 11 l 2)) 11 l 2 0) 11 l 3 ((V 11 l 2) + (V 11 l 0))) 11 l 2 = 0 := ((mu_ne (by omega)).trans (mu_self _ _ _ _ _))
      have z3 : (mu (mu (mu V 11 l 1 (V 11 l 2)) 11 l 2 0) 11 l 3 ((V 11 l 2) + (V 11 l 0))) 11 l 3 = ((V 11 l 2) + (V 11 l 0)) := (mu_self _ _ _ _ _)
      refine y_goFlipW (V := (mu (mu (mu V 11 l 1 (V 11 l 2)) 11 l 2 0) 11 l 3 ((V 11 l 2) + (V 11 l 0)))) (fl := 1) (fr := 1) (by omega) ht Sρ46 Xρ46 Fρ46 (by omega) (by omega) (by omega) r16a_ρ46 r17b_ρ46 (fun hgo ρg Sg Xg Fg r16g r17g => ?_) (fun hgo ρg Sg Xg Fg r16g r17g => ?_)
      · refine r_iaddE hC ((c + (3 - 1))) dX6_endMove_106 (by omega) (by unfold inR; omega) ?_
        refine r_istore_n hC dX6_endMove_107 rfl ?_
        refine r_aload_n hC dX6_endMove_108 rfl ?_
        refine r_iload_n hC dX6_endMove_109 rfl ?_
        refine r_bipush hC dX6_endMove_110 rfl ?_
        refine r_iload_n hC dX6_endMove_112 rfl ?_
        refine z_inv3 hM dX6_endMove_113 vl_RX6_173 rfl rfl rfl (Nat.le_of_ble_eq_true rfl) (Nat.le_of_ble_eq_true rfl) ?_
        refine y_set (by omega) (by omega) ⟨fun h => by omega, fun h => by omega⟩ ?_
        obtain ⟨ρ49, e_ρ49⟩ : ∃ zz_, zz_ = mu ρg 31 0 ((22 * l) + 18) (c + (3 - 1)) := ⟨_, rfl⟩
        rw [← e_ρ49]
        have Sρ49 : SB t σ0 (mu (mu (mu (mu (mu V 11 l 1 (V 11 l 2)) 11 l 2 0) 11 l 3 ((V 11 l 2) + (V 11 l 0))) 11 l 3 (((mu (mu (mu V 11 l 1 (V 11 l 2)) 11 l 2 0) 11 l 3 ((V 11 l 2) + (V 11 l 0))) 11 l 3) - 3)) 11 l 4 (c + (3 - 1))) ρ49 := by rw [e_ρ49, show ((22 * l) + 18) = 22 * l + 18 from by omega]; exact Sg.p11 (by omega) (by omega) (by omega)
        have r16a_ρ49 : ρ49 31 0 (22 * l + 16) = 1 := by rw [e_ρ49]; exact (mu_ne (by omega)).trans r16g
        have r17b_ρ49 : ρ49 31 0 (22 * l + 17) = 0 := by rw [e_ρ49]; exact (mu_ne (by omega)).trans r17g
        have Xρ49 : KX t l (mu (mu (mu (mu (mu V 11 l 1 (V 11 l 2)) 11 l 2 0) 11 l 3 ((V 11 l 2) + (V 11 l 0))) 11 l 3 (((mu (mu (mu V 11 l 1 (V 11 l 2)) 11 l 2 0) 11 l 3 ((V 11 l 2) + (V 11 l 0))) 11 l 3) - 3)) 11 l 4 (c + (3 - 1))) ρ49 := (Xg).e (fun m a b c => by rw [e_ρ49]; exact ⟨mu_ne (by omega), mu_ne (by omega)⟩) (fun m c => mu_ne (by omega))
        have Fρ49 : FB (mu (mu (mu (mu (mu V 11 l 1 (V 11 l 2)) 11 l 2 0) 11 l 3 ((V 11 l 2) + (V 11 l 0))) 11 l 3 (((mu (mu (mu V 11 l 1 (V 11 l 2)) 11 l 2 0) 11 l 3 ((V 11 l 2) + (V 11 l 0))) 11 l 3) - 3)) 11 l 4 (c + (3 - 1))) ρ49 := by rw [e_ρ49]; exact (Fg).e (fun l a b => mu_ne (by omega)) |>.v (fun l y a b c => mu_ne (by omega))
        refine r_aload_n hC dX6_endMove_116 rfl ?_
        refine r_iload_n hC dX6_endMove_117 rfl ?_
        refine r_bipush hC dX6_endMove_118 rfl ?_
        refine r_iload_n hC dX6_endMove_120 rfl ?_
        refine z_inv3 hM dX6_endMove_121 vl_RX6_188 rfl rfl rfl (Nat.le_of_ble_eq_true rfl) (Nat.le_of_ble_eq_true rfl) ?_
        refine y_moreW (a := (V 11 l 5)) (by omega) (by omega) ⟨fun h => by omega, by omega⟩ ((Sρ49.a11 (s := 5) (f := 19) (by omega) (by omega) (by omega)).trans ((mu_ne (by omega)).trans ((mu_ne (by omega)).trans ((mu_ne (by omega)).trans ((mu_ne (by omega)).trans ((mu_ne (by omega)).trans (rfl))))))) (by omega) ?_
        obtain ⟨ρ50, e_ρ50⟩ : ∃ zz_, zz_ = mu ρ49 31 0 ((22 * l) + 19) (wr ((V 11 l 5) + (c + (3 - 1)))) := ⟨_, rfl⟩
        rw [← e_ρ50]
        have Sρ50 : SB t σ0 (mu (mu (mu (mu (mu (mu V 11 l 1 (V 11 l 2)) 11 l 2 0) 11 l 3 ((V 11 l 2) + (V 11 l 0))) 11 l 3 (((mu (mu (mu V 11 l 1 (V 11 l 2)) 11 l 2 0) 11 l 3 ((V 11 l 2) + (V 11 l 0))) 11 l 3) - 3)) 11 l 4 (c + (3 - 1))) 11 l 5 (wr ((V 11 l 5) + (c + (3 - 1))))) ρ50 := by rw [e_ρ50, show ((22 * l) + 19) = 22 * l + 19 from by omega]; exact Sρ49.p11 (by omega) (by omega) (by omega)
        have r16a_ρ50 : ρ50 31 0 (22 * l + 16) = 1 := by rw [e_ρ50]; exact (mu_ne (by omega)).trans r16a_ρ49
        have r17b_ρ50 : ρ50 31 0 (22 * l + 17) = 0 := by rw [e_ρ50]; exact (mu_ne (by omega)).trans r17b_ρ49
        have Xρ50 : KX t l (mu (mu (mu (mu (mu (mu V 11 l 1 (V 11 l 2)) 11 l 2 0) 11 l 3 ((V 11 l 2) + (V 11 l 0))) 11 l 3 (((mu (mu (mu V 11 l 1 (V 11 l 2)) 11 l 2 0) 11 l 3 ((V 11 l 2) + (V 11 l 0))) 11 l 3) - 3)) 11 l 4 (c + (3 - 1))) 11 l 5 (wr ((V 11 l 5) + (c + (3 - 1))))) ρ50 := (Xρ49).e (fun m a b c => by rw [e_ρ50]; exact ⟨mu_ne (by omega), mu_ne (by omega)⟩) (fun m c => mu_ne (by omega))
        have Fρ50 : FB (mu (mu (mu (mu (mu (mu V 11 l 1 (V 11 l 2)) 11 l 2 0) 11 l 3 ((V 11 l 2) + (V 11 l 0))) 11 l 3 (((mu (mu (mu V 11 l 1 (V 11 l 2)) 11 l 2 0) 11 l 3 ((V 11 l 2) + (V 11 l 0))) 11 l 3) - 3)) 11 l 4 (c + (3 - 1))) 11 l 5 (wr ((V 11 l 5) + (c + (3 - 1))))) ρ50 := by rw [e_ρ50]; exact (Fρ49).e (fun l a b => mu_ne (by omega)) |>.v (fun l y a b c => mu_ne (by omega))
        refine r_iload_n hC dX6_endMove_124 rfl ?_
        refine r_aload_n hC dX6_endMove_125 rfl ?_
        refine r_iload_n hC dX6_endMove_126 rfl ?_
        refine r_bipush hC dX6_endMove_127 rfl ?_
        refine z_inv2 hM dX6_endMove_129 vl_RX6_80 rfl rfl rfl (Nat.le_of_ble_eq_true rfl) (Nat.le_of_ble_eq_true rfl) ?_
        refine y_of (by omega) (by omega) (by omega) (fun o51 => ?_)
        have e52 : ρ50 31 0 (22 * l + 20) = (V 11 l 6) := (Sρ50.a11 (s := 6) (f := 20) (by omega) (by omega) (by omega)).trans ((mu_ne (by omega)).trans ((mu_ne (by omega)).trans ((mu_ne (by omega)).trans ((mu_ne (by omega)).trans ((mu_ne (by omega)).trans ((mu_ne (by omega)).trans (rfl)))))))
        rw [e52] at o51 ⊢
        refine r_icmp_le (tgt := 143) hC dX6_endMove_132 rfl (fun h53 => ?_) (fun h53 => ?_)
        · refine r_aload_n hC dX6_endMove_143 rfl ?_
          refine r_iload_n hC dX6_endMove_144 rfl ?_
          refine z_inv1 hM dX6_endMove_145 vl_RX6_191 rfl rfl rfl (Nat.le_of_ble_eq_true rfl) (Nat.le_of_ble_eq_true rfl) ?_
          have hbeg : (V 11 l 1 = 0 ∧ V 11 l 2 > V 11 l 0) := by omega
          have m0 : (mu (mu (mu (mu (mu (mu V 11 l 1 (V 11 l 2)) 11 l 2 0) 11 l 3 ((V 11 l 2) + (V 11 l 0))) 11 l 3 (((mu (mu (mu V 11 l 1 (V 11 l 2)) 11 l 2 0) 11 l 3 ((V 11 l 2) + (V 11 l 0))) 11 l 3) - 3)) 11 l 4 (c + (3 - 1))) 11 l 5 (wr ((V 11 l 5) + (c + (3 - 1))))) 11 l 0 = (if (if (V 11 l 1) = 0 ∧ (V 11 l 2) > (V 11 l 0) then (V 11 l 2) + (V 11 l 0) else (V 11 l 3)) - min 3 (if (V 11 l 1) = 0 ∧ (V 11 l 2) > (V 11 l 0) then (V 11 l 2) + (V 11 l 0) else (V 11 l 3)) = 0 then (V 11 l 0) + (if (V 11 l 1) = 0 ∧ (V 11 l 2) > (V 11 l 0) then (V 11 l 2) else (V 11 l 1)) else (V 11 l 0)) := (show (mu (mu (mu (mu (mu (mu V 11 l 1 (V 11 l 2)) 11 l 2 0) 11 l 3 ((V 11 l 2) + (V 11 l 0))) 11 l 3 (((mu (mu (mu V 11 l 1 (V 11 l 2)) 11 l 2 0) 11 l 3 ((V 11 l 2) + (V 11 l 0))) 11 l 3) - 3)) 11 l 4 (c + (3 - 1))) 11 l 5 (wr ((V 11 l 5) + (c + (3 - 1))))) 11 l 0 = (V 11 l 0) from ((mu_ne (by omega)).trans ((mu_ne (by omega)).trans ((mu_ne (by omega)).trans ((mu_ne (by omega)).trans ((mu_ne (by omega)).trans ((mu_ne (by omega)).trans (rfl)))))))).trans (by (repeat' split) <;> omega)
          have m1 : (mu (mu (mu (mu (mu (mu V 11 l 1 (V 11 l 2)) 11 l 2 0) 11 l 3 ((V 11 l 2) + (V 11 l 0))) 11 l 3 (((mu (mu (mu V 11 l 1 (V 11 l 2)) 11 l 2 0) 11 l 3 ((V 11 l 2) + (V 11 l 0))) 11 l 3) - 3)) 11 l 4 (c + (3 - 1))) 11 l 5 (wr ((V 11 l 5) + (c + (3 - 1))))) 11 l 1 = (if (if (V 11 l 1) = 0 ∧ (V 11 l 2) > (V 11 l 0) then (V 11 l 2) + (V 11 l 0) else (V 11 l 3)) - min 3 (if (V 11 l 1) = 0 ∧ (V 11 l 2) > (V 11 l 0) then (V 11 l 2) + (V 11 l 0) else (V 11 l 3)) = 0 then 0 else (if (V 11 l 1) = 0 ∧ (V 11 l 2) > (V 11 l 0) then (V 11 l 2) else (V 11 l 1))) := (show (mu (mu (mu (mu (mu (mu V 11 l 1 (V 11 l 2)) 11 l 2 0) 11 l 3 ((V 11 l 2) + (V 11 l 0))) 11 l 3 (((mu (mu (mu V 11 l 1 (V 11 l 2)) 11 l 2 0) 11 l 3 ((V 11 l 2) + (V 11 l 0))) 11 l 3) - 3)) 11 l 4 (c + (3 - 1))) 11 l 5 (wr ((V 11 l 5) + (c + (3 - 1))))) 11 l 1 = (V 11 l 2) from ((mu_ne (by omega)).trans ((mu_ne (by omega)).trans ((mu_ne (by omega)).trans ((mu_ne (by omega)).trans ((mu_ne (by omega)).trans (mu_self _ _ _ _ _))))))).trans (by (repeat' split) <;> omega)
          have m2 : (mu (mu (mu (mu (mu (mu V 11 l 1 (V 11 l 2)) 11 l 2 0) 11 l 3 ((V 11 l 2) + (V 11 l 0))) 11 l 3 (((mu (mu (mu V 11 l 1 (V 11 l 2)) 11 l 2 0) 11 l 3 ((V 11 l 2) + (V 11 l 0))) 11 l 3) - 3)) 11 l 4 (c + (3 - 1))) 11 l 5 (wr ((V 11 l 5) + (c + (3 - 1))))) 11 l 2 = (if (V 11 l 1) = 0 ∧ (V 11 l 2) > (V 11 l 0) then 0 else (V 11 l 2)) := (show (mu (mu (mu (mu (mu (mu V 11 l 1 (V 11 l 2)) 11 l 2 0) 11 l 3 ((V 11 l 2) + (V 11 l 0))) 11 l 3 (((mu (mu (mu V 11 l 1 (V 11 l 2)) 11 l 2 0) 11 l 3 ((V 11 l 2) + (V 11 l 0))) 11 l 3) - 3)) 11 l 4 (c + (3 - 1))) 11 l 5 (wr ((V 11 l 5) + (c + (3 - 1))))) 11 l 2 = 0 from ((mu_ne (by omega)).trans ((mu_ne (by omega)).trans ((mu_ne (by omega)).trans ((mu_ne (by omega)).trans (mu_self _ _ _ _ _)))))).trans (by (repeat' split) <;> omega)
          have m3 : (mu (mu (mu (mu (mu (mu V 11 l 1 (V 11 l 2)) 11 l 2 0) 11 l 3 ((V 11 l 2) + (V 11 l 0))) 11 l 3 (((mu (mu (mu V 11 l 1 (V 11 l 2)) 11 l 2 0) 11 l 3 ((V 11 l 2) + (V 11 l 0))) 11 l 3) - 3)) 11 l 4 (c + (3 - 1))) 11 l 5 (wr ((V 11 l 5) + (c + (3 - 1))))) 11 l 3 = ((if (V 11 l 1) = 0 ∧ (V 11 l 2) > (V 11 l 0) then (V 11 l 2) + (V 11 l 0) else (V 11 l 3)) - min 3 (if (V 11 l 1) = 0 ∧ (V 11 l 2) > (V 11 l 0) then (V 11 l 2) + (V 11 l 0) else (V 11 l 3))) := (show (mu (mu (mu (mu (mu (mu V 11 l 1 (V 11 l 2)) 11 l 2 0) 11 l 3 ((V 11 l 2) + (V 11 l 0))) 11 l 3 (((mu (mu (mu V 11 l 1 (V 11 l 2)) 11 l 2 0) 11 l 3 ((V 11 l 2) + (V 11 l 0))) 11 l 3) - 3)) 11 l 4 (c + (3 - 1))) 11 l 5 (wr ((V 11 l 5) + (c + (3 - 1))))) 11 l 3 = (((mu (mu (mu V 11 l 1 (V 11 l 2)) 11 l 2 0) 11 l 3 ((V 11 l 2) + (V 11 l 0))) 11 l 3) - 3) from ((mu_ne (by omega)).trans ((mu_ne (by omega)).trans (mu_self _ _ _ _ _)))).trans (by (repeat' split) <;> omega)
          have m4 : (mu (mu (mu (mu (mu (mu V 11 l 1 (V 11 l 2)) 11 l 2 0) 11 l 3 ((V 11 l 2) + (V 11 l 0))) 11 l 3 (((mu (mu (mu V 11 l 1 (V 11 l 2)) 11 l 2 0) 11 l 3 ((V 11 l 2) + (V 11 l 0))) 11 l 3) - 3)) 11 l 4 (c + (3 - 1))) 11 l 5 (wr ((V 11 l 5) + (c + (3 - 1))))) 11 l 4 = (((if (V 11 l 1) = 0 ∧ (V 11 l 2) > (V 11 l 0) then c - 1 else c) + min 3 (if (V 11 l 1) = 0 ∧ (V 11 l 2) > (V 11 l 0) then (V 11 l 2) + (V 11 l 0) else (V 11 l 3)))) := (show (mu (mu (mu (mu (mu (mu V 11 l 1 (V 11 l 2)) 11 l 2 0) 11 l 3 ((V 11 l 2) + (V 11 l 0))) 11 l 3 (((mu (mu (mu V 11 l 1 (V 11 l 2)) 11 l 2 0) 11 l 3 ((V 11 l 2) + (V 11 l 0))) 11 l 3) - 3)) 11 l 4 (c + (3 - 1))) 11 l 5 (wr ((V 11 l 5) + (c + (3 - 1))))) 11 l 4 = (c + (3 - 1)) from ((mu_ne (by omega)).trans (mu_self _ _ _ _ _))).trans (by (repeat' split) <;> omega)
          have m5 : (mu (mu (mu (mu (mu (mu V 11 l 1 (V 11 l 2)) 11 l 2 0) 11 l 3 ((V 11 l 2) + (V 11 l 0))) 11 l 3 (((mu (mu (mu V 11 l 1 (V 11 l 2)) 11 l 2 0) 11 l 3 ((V 11 l 2) + (V 11 l 0))) 11 l 3) - 3)) 11 l 4 (c + (3 - 1))) 11 l 5 (wr ((V 11 l 5) + (c + (3 - 1))))) 11 l 5 = (wr ((V 11 l 5) + ((if (V 11 l 1) = 0 ∧ (V 11 l 2) > (V 11 l 0) then c - 1 else c) + min 3 (if (V 11 l 1) = 0 ∧ (V 11 l 2) > (V 11 l 0) then (V 11 l 2) + (V 11 l 0) else (V 11 l 3))))) := (show (mu (mu (mu (mu (mu (mu V 11 l 1 (V 11 l 2)) 11 l 2 0) 11 l 3 ((V 11 l 2) + (V 11 l 0))) 11 l 3 (((mu (mu (mu V 11 l 1 (V 11 l 2)) 11 l 2 0) 11 l 3 ((V 11 l 2) + (V 11 l 0))) 11 l 3) - 3)) 11 l 4 (c + (3 - 1))) 11 l 5 (wr ((V 11 l 5) + (c + (3 - 1))))) 11 l 5 = wr ((V 11 l 5) + (c + (3 - 1))) from (mu_self _ _ _ _ _)).trans (congrArg wr (by simp only [if_pos hbeg]; (repeat' split) <;> omega))
          have m6 : (mu (mu (mu (mu (mu (mu V 11 l 1 (V 11 l 2)) 11 l 2 0) 11 l 3 ((V 11 l 2) + (V 11 l 0))) 11 l 3 (((mu (mu (mu V 11 l 1 (V 11 l 2)) 11 l 2 0) 11 l 3 ((V 11 l 2) + (V 11 l 0))) 11 l 3) - 3)) 11 l 4 (c + (3 - 1))) 11 l 5 (wr ((V 11 l 5) + (c + (3 - 1))))) 11 l 6 = (max (V 11 l 6) ((if (V 11 l 1) = 0 ∧ (V 11 l 2) > (V 11 l 0) then c - 1 else c) + min 3 (if (V 11 l 1) = 0 ∧ (V 11 l 2) > (V 11 l 0) then (V 11 l 2) + (V 11 l 0) else (V 11 l 3)))) := (show (mu (mu (mu (mu (mu (mu V 11 l 1 (V 11 l 2)) 11 l 2 0) 11 l 3 ((V 11 l 2) + (V 11 l 0))) 11 l 3 (((mu (mu (mu V 11 l 1 (V 11 l 2)) 11 l 2 0) 11 l 3 ((V 11 l 2) + (V 11 l 0))) 11 l 3) - 3)) 11 l 4 (c + (3 - 1))) 11 l 5 (wr ((V 11 l 5) + (c + (3 - 1))))) 11 l 6 = (V 11 l 6) from ((mu_ne (by omega)).trans ((mu_ne (by omega)).trans ((mu_ne (by omega)).trans ((mu_ne (by omega)).trans ((mu_ne (by omega)).trans ((mu_ne (by omega)).trans (rfl)))))))).trans (by (repeat' split) <;> omega)
          have hV : (mu (mu (mu (mu (mu (mu V 11 l 1 (V 11 l 2)) 11 l 2 0) 11 l 3 ((V 11 l 2) + (V 11 l 0))) 11 l 3 (((mu (mu (mu V 11 l 1 (V 11 l 2)) 11 l 2 0) 11 l 3 ((V 11 l 2) + (V 11 l 0))) 11 l 3) - 3)) 11 l 4 (c + (3 - 1))) 11 l 5 (wr ((V 11 l 5) + (c + (3 - 1))))) = (su V 11 l (emR c (V 11 l))) := mu7 (fun c2 x y h => (mu_ne (by omega)).trans ((mu_ne (by omega)).trans ((mu_ne (by omega)).trans ((mu_ne (by omega)).trans ((mu_ne (by omega)).trans ((mu_ne (by omega)).trans (rfl))))))) m0 m1 m2 m3 m4 m5 m6
          have qS := Sρ50
          have qX := Xρ50
          have qF := Fρ50
          rw [hV] at qS qX qF
          have q16 : 1 = (if (su V 11 l (emR c (V 11 l))) 11 l 3 = 0 then (0 : Int) else 1) := by rw [← hV, m3]; simp only [if_pos hbeg]; (repeat' split) <;> omega
          have qR : RS t σ0 (su V 11 l (emR c (V 11 l))) ρ50 := ⟨qS, qX.kf (r16a_ρ50.trans q16) r17b_ρ50, qF⟩
          have qL : LK (su V 11 l (emR c (V 11 l))) l := hL.to (fun c2 x y h => su_ne (by omega))
          refine y_look (V := (su V 11 l (emR c (V 11 l)))) (by omega) ht qR (by omega) qL (fun ρ54 Rρ54 => ?_)
          refine y_vret hK rfl dX6_endMove_148 ?_
          exact k _ Rρ54
        · refine r_aload_n hC dX6_endMove_135 rfl ?_
          refine r_iload_n hC dX6_endMove_136 rfl ?_
          refine r_bipush hC dX6_endMove_137 rfl ?_
          refine r_iload_n hC dX6_endMove_139 rfl ?_
          refine z_inv3 hM dX6_endMove_140 vl_RX6_173 rfl rfl rfl (Nat.le_of_ble_eq_true rfl) (Nat.le_of_ble_eq_true rfl) ?_
          refine y_set (by omega) (by omega) ⟨fun h => by omega, fun h => by omega⟩ ?_
          obtain ⟨ρ55, e_ρ55⟩ : ∃ zz_, zz_ = mu ρ50 31 0 ((22 * l) + 20) (c + (3 - 1)) := ⟨_, rfl⟩
          rw [← e_ρ55]
          have Sρ55 : SB t σ0 (mu (mu (mu (mu (mu (mu (mu V 11 l 1 (V 11 l 2)) 11 l 2 0) 11 l 3 ((V 11 l 2) + (V 11 l 0))) 11 l 3 (((mu (mu (mu V 11 l 1 (V 11 l 2)) 11 l 2 0) 11 l 3 ((V 11 l 2) + (V 11 l 0))) 11 l 3) - 3)) 11 l 4 (c + (3 - 1))) 11 l 5 (wr ((V 11 l 5) + (c + (3 - 1))))) 11 l 6 (c + (3 - 1))) ρ55 := by rw [e_ρ55, show ((22 * l) + 20) = 22 * l + 20 from by omega]; exact Sρ50.p11 (by omega) (by omega) (by omega)
          have r16a_ρ55 : ρ55 31 0 (22 * l + 16) = 1 := by rw [e_ρ55]; exact (mu_ne (by omega)).trans r16a_ρ50
          have r17b_ρ55 : ρ55 31 0 (22 * l + 17) = 0 := by rw [e_ρ55]; exact (mu_ne (by omega)).trans r17b_ρ50
          have Xρ55 : KX t l (mu (mu (mu (mu (mu (mu (mu V 11 l 1 (V 11 l 2)) 11 l 2 0) 11 l 3 ((V 11 l 2) + (V 11 l 0))) 11 l 3 (((mu (mu (mu V 11 l 1 (V 11 l 2)) 11 l 2 0) 11 l 3 ((V 11 l 2) + (V 11 l 0))) 11 l 3) - 3)) 11 l 4 (c + (3 - 1))) 11 l 5 (wr ((V 11 l 5) + (c + (3 - 1))))) 11 l 6 (c + (3 - 1))) ρ55 := (Xρ50).e (fun m a b c => by rw [e_ρ55]; exact ⟨mu_ne (by omega), mu_ne (by omega)⟩) (fun m c => mu_ne (by omega))
          have Fρ55 : FB (mu (mu (mu (mu (mu (mu (mu V 11 l 1 (V 11 l 2)) 11 l 2 0) 11 l 3 ((V 11 l 2) + (V 11 l 0))) 11 l 3 (((mu (mu (mu V 11 l 1 (V 11 l 2)) 11 l 2 0) 11 l 3 ((V 11 l 2) + (V 11 l 0))) 11 l 3) - 3)) 11 l 4 (c + (3 - 1))) 11 l 5 (wr ((V 11 l 5) + (c + (3 - 1))))) 11 l 6 (c + (3 - 1))) ρ55 := by rw [e_ρ55]; exact (Fρ50).e (fun l a b => mu_ne (by omega)) |>.v (fun l y a b c => mu_ne (by omega))
          refine r_aload_n hC dX6_endMove_143 rfl ?_
          refine r_iload_n hC dX6_endMove_144 rfl ?_
          refine z_inv1 hM dX6_endMove_145 vl_RX6_191 rfl rfl rfl (Nat.le_of_ble_eq_true rfl) (Nat.le_of_ble_eq_true rfl) ?_
          have hbeg : (V 11 l 1 = 0 ∧ V 11 l 2 > V 11 l 0) := by omega
          have m0 : (mu (mu (mu (mu (mu (mu (mu V 11 l 1 (V 11 l 2)) 11 l 2 0) 11 l 3 ((V 11 l 2) + (V 11 l 0))) 11 l 3 (((mu (mu (mu V 11 l 1 (V 11 l 2)) 11 l 2 0) 11 l 3 ((V 11 l 2) + (V 11 l 0))) 11 l 3) - 3)) 11 l 4 (c + (3 - 1))) 11 l 5 (wr ((V 11 l 5) + (c + (3 - 1))))) 11 l 6 (c + (3 - 1))) 11 l 0 = (if (if (V 11 l 1) = 0 ∧ (V 11 l 2) > (V 11 l 0) then (V 11 l 2) + (V 11 l 0) else (V 11 l 3)) - min 3 (if (V 11 l 1) = 0 ∧ (V 11 l 2) > (V 11 l 0) then (V 11 l 2) + (V 11 l 0) else (V 11 l 3)) = 0 then (V 11 l 0) + (if (V 11 l 1) = 0 ∧ (V 11 l 2) > (V 11 l 0) then (V 11 l 2) else (V 11 l 1)) else (V 11 l 0)) := (show (mu (mu (mu (mu (mu (mu (mu V 11 l 1 (V 11 l 2)) 11 l 2 0) 11 l 3 ((V 11 l 2) + (V 11 l 0))) 11 l 3 (((mu (mu (mu V 11 l 1 (V 11 l 2)) 11 l 2 0) 11 l 3 ((V 11 l 2) + (V 11 l 0))) 11 l 3) - 3)) 11 l 4 (c + (3 - 1))) 11 l 5 (wr ((V 11 l 5) + (c + (3 - 1))))) 11 l 6 (c + (3 - 1))) 11 l 0 = (V 11 l 0) from ((mu_ne (by omega)).trans ((mu_ne (by omega)).trans ((mu_ne (by omega)).trans ((mu_ne (by omega)).trans ((mu_ne (by omega)).trans ((mu_ne (by omega)).trans ((mu_ne (by omega)).trans (rfl))))))))).trans (by (repeat' split) <;> omega)
          have m1 : (mu (mu (mu (mu (mu (mu (mu V 11 l 1 (V 11 l 2)) 11 l 2 0) 11 l 3 ((V 11 l 2) + (V 11 l 0))) 11 l 3 (((mu (mu (mu V 11 l 1 (V 11 l 2)) 11 l 2 0) 11 l 3 ((V 11 l 2) + (V 11 l 0))) 11 l 3) - 3)) 11 l 4 (c + (3 - 1))) 11 l 5 (wr ((V 11 l 5) + (c + (3 - 1))))) 11 l 6 (c + (3 - 1))) 11 l 1 = (if (if (V 11 l 1) = 0 ∧ (V 11 l 2) > (V 11 l 0) then (V 11 l 2) + (V 11 l 0) else (V 11 l 3)) - min 3 (if (V 11 l 1) = 0 ∧ (V 11 l 2) > (V 11 l 0) then (V 11 l 2) + (V 11 l 0) else (V 11 l 3)) = 0 then 0 else (if (V 11 l 1) = 0 ∧ (V 11 l 2) > (V 11 l 0) then (V 11 l 2) else (V 11 l 1))) := (show (mu (mu (mu (mu (mu (mu (mu V 11 l 1 (V 11 l 2)) 11 l 2 0) 11 l 3 ((V 11 l 2) + (V 11 l 0))) 11 l 3 (((mu (mu (mu V 11 l 1 (V 11 l 2)) 11 l 2 0) 11 l 3 ((V 11 l 2) + (V 11 l 0))) 11 l 3) - 3)) 11 l 4 (c + (3 - 1))) 11 l 5 (wr ((V 11 l 5) + (c + (3 - 1))))) 11 l 6 (c + (3 - 1))) 11 l 1 = (V 11 l 2) from ((mu_ne (by omega)).trans ((mu_ne (by omega)).trans ((mu_ne (by omega)).trans ((mu_ne (by omega)).trans ((mu_ne (by omega)).trans ((mu_ne (by omega)).trans (mu_self _ _ _ _ _)))))))).trans (by (repeat' split) <;> omega)
          have m2 : (mu (mu (mu (mu (mu (mu (mu V 11 l 1 (V 11 l 2)) 11 l 2 0) 11 l 3 ((V 11 l 2) + (V 11 l 0))) 11 l 3 (((mu (mu (mu V 11 l 1 (V 11 l 2)) 11 l 2 0) 11 l 3 ((V 11 l 2) + (V 11 l 0))) 11 l 3) - 3)) 11 l 4 (c + (3 - 1))) 11 l 5 (wr ((V 11 l 5) + (c + (3 - 1))))) 11 l 6 (c + (3 - 1))) 11 l 2 = (if (V 11 l 1) = 0 ∧ (V 11 l 2) > (V 11 l 0) then 0 else (V 11 l 2)) := (show (mu (mu (mu (mu (mu (mu (mu V 11 l 1 (V 11 l 2)) 11 l 2 0) 11 l 3 ((V 11 l 2) + (V 11 l 0))) 11 l 3 (((mu (mu (mu V 11 l 1 (V 11 l 2)) 11 l 2 0) 11 l 3 ((V 11 l 2) + (V 11 l 0))) 11 l 3) - 3)) 11 l 4 (c + (3 - 1))) 11 l 5 (wr ((V 11 l 5) + (c + (3 - 1))))) 11 l 6 (c + (3 - 1))) 11 l 2 = 0 from ((mu_ne (by omega)).trans ((mu_ne (by omega)).trans ((mu_ne (by omega)).trans ((mu_ne (by omega)).trans ((mu_ne (by omega)).trans (mu_self _ _ _ _ _))))))).trans (by (repeat' split) <;> omega)
          have m3 : (mu (mu (mu (mu (mu (mu (mu V 11 l 1 (V 11 l 2)) 11 l 2 0) 11 l 3 ((V 11 l 2) + (V 11 l 0))) 11 l 3 (((mu (mu (mu V 11 l 1 (V 11 l 2)) 11 l 2 0) 11 l 3 ((V 11 l 2) + (V 11 l 0))) 11 l 3) - 3)) 11 l 4 (c + (3 - 1))) 11 l 5 (wr ((V 11 l 5) + (c + (3 - 1))))) 11 l 6 (c + (3 - 1))) 11 l 3 = ((if (V 11 l 1) = 0 ∧ (V 11 l 2) > (V 11 l 0) then (V 11 l 2) + (V 11 l 0) else (V 11 l 3)) - min 3 (if (V 11 l 1) = 0 ∧ (V 11 l 2) > (V 11 l 0) then (V 11 l 2) + (V 11 l 0) else (V 11 l 3))) := (show (mu (mu (mu (mu (mu (mu (mu V 11 l 1 (V 11 l 2)) 11 l 2 0) 11 l 3 ((V 11 l 2) + (V 11 l 0))) 11 l 3 (((mu (mu (mu V 11 l 1 (V 11 l 2)) 11 l 2 0) 11 l 3 ((V 11 l 2) + (V 11 l 0))) 11 l 3) - 3)) 11 l 4 (c + (3 - 1))) 11 l 5 (wr ((V 11 l 5) + (c + (3 - 1))))) 11 l 6 (c + (3 - 1))) 11 l 3 = (((mu (mu (mu V 11 l 1 (V 11 l 2)) 11 l 2 0) 11 l 3 ((V 11 l 2) + (V 11 l 0))) 11 l 3) - 3) from ((mu_ne (by omega)).trans ((mu_ne (by omega)).trans ((mu_ne (by omega)).trans (mu_self _ _ _ _ _))))).trans (by (repeat' split) <;> omega)
          have m4 : (mu (mu (mu (mu (mu (mu (mu V 11 l 1 (V 11 l 2)) 11 l 2 0) 11 l 3 ((V 11 l 2) + (V 11 l 0))) 11 l 3 (((mu (mu (mu V 11 l 1 (V 11 l 2)) 11 l 2 0) 11 l 3 ((V 11 l 2) + (V 11 l 0))) 11 l 3) - 3)) 11 l 4 (c + (3 - 1))) 11 l 5 (wr ((V 11 l 5) + (c + (3 - 1))))) 11 l 6 (c + (3 - 1))) 11 l 4 = (((if (V 11 l 1) = 0 ∧ (V 11 l 2) > (V 11 l 0) then c - 1 else c) + min 3 (if (V 11 l 1) = 0 ∧ (V 11 l 2) > (V 11 l 0) then (V 11 l 2) + (V 11 l 0) else (V 11 l 3)))) := (show (mu (mu (mu (mu (mu (mu (mu V 11 l 1 (V 11 l 2)) 11 l 2 0) 11 l 3 ((V 11 l 2) + (V 11 l 0))) 11 l 3 (((mu (mu (mu V 11 l 1 (V 11 l 2)) 11 l 2 0) 11 l 3 ((V 11 l 2) + (V 11 l 0))) 11 l 3) - 3)) 11 l 4 (c + (3 - 1))) 11 l 5 (wr ((V 11 l 5) + (c + (3 - 1))))) 11 l 6 (c + (3 - 1))) 11 l 4 = (c + (3 - 1)) from ((mu_ne (by omega)).trans ((mu_ne (by omega)).trans (mu_self _ _ _ _ _)))).trans (by (repeat' split) <;> omega)
          have m5 : (mu (mu (mu (mu (mu (mu (mu V 11 l 1 (V 11 l 2)) 11 l 2 0) 11 l 3 ((V 11 l 2) + (V 11 l 0))) 11 l 3 (((mu (mu (mu V 11 l 1 (V 11 l 2)) 11 l 2 0) 11 l 3 ((V 11 l 2) + (V 11 l 0))) 11 l 3) - 3)) 11 l 4 (c + (3 - 1))) 11 l 5 (wr ((V 11 l 5) + (c + (3 - 1))))) 11 l 6 (c + (3 - 1))) 11 l 5 = (wr ((V 11 l 5) + ((if (V 11 l 1) = 0 ∧ (V 11 l 2) > (V 11 l 0) then c - 1 else c) + min 3 (if (V 11 l 1) = 0 ∧ (V 11 l 2) > (V 11 l 0) then (V 11 l 2) + (V 11 l 0) else (V 11 l 3))))) := (show (mu (mu (mu (mu (mu (mu (mu V 11 l 1 (V 11 l 2)) 11 l 2 0) 11 l 3 ((V 11 l 2) + (V 11 l 0))) 11 l 3 (((mu (mu (mu V 11 l 1 (V 11 l 2)) 11 l 2 0) 11 l 3 ((V 11 l 2) + (V 11 l 0))) 11 l 3) - 3)) 11 l 4 (c + (3 - 1))) 11 l 5 (wr ((V 11 l 5) + (c + (3 - 1))))) 11 l 6 (c + (3 - 1))) 11 l 5 = wr ((V 11 l 5) + (c + (3 - 1))) from ((mu_ne (by omega)).trans (mu_self _ _ _ _ _))).trans (congrArg wr (by simp only [if_pos hbeg]; (repeat' split) <;> omega))
          have m6 : (mu (mu (mu (mu (mu (mu (mu V 11 l 1 (V 11 l 2)) 11 l 2 0) 11 l 3 ((V 11 l 2) + (V 11 l 0))) 11 l 3 (((mu (mu (mu V 11 l 1 (V 11 l 2)) 11 l 2 0) 11 l 3 ((V 11 l 2) + (V 11 l 0))) 11 l 3) - 3)) 11 l 4 (c + (3 - 1))) 11 l 5 (wr ((V 11 l 5) + (c + (3 - 1))))) 11 l 6 (c + (3 - 1))) 11 l 6 = (max (V 11 l 6) ((if (V 11 l 1) = 0 ∧ (V 11 l 2) > (V 11 l 0) then c - 1 else c) + min 3 (if (V 11 l 1) = 0 ∧ (V 11 l 2) > (V 11 l 0) then (V 11 l 2) + (V 11 l 0) else (V 11 l 3)))) := (show (mu (mu (mu (mu (mu (mu (mu V 11 l 1 (V 11 l 2)) 11 l 2 0) 11 l 3 ((V 11 l 2) + (V 11 l 0))) 11 l 3 (((mu (mu (mu V 11 l 1 (V 11 l 2)) 11 l 2 0) 11 l 3 ((V 11 l 2) + (V 11 l 0))) 11 l 3) - 3)) 11 l 4 (c + (3 - 1))) 11 l 5 (wr ((V 11 l 5) + (c + (3 - 1))))) 11 l 6 (c + (3 - 1))) 11 l 6 = (c + (3 - 1)) from (mu_self _ _ _ _ _)).trans (by (repeat' split) <;> omega)
          have hV : (mu (mu (mu (mu (mu (mu (mu V 11 l 1 (V 11 l 2)) 11 l 2 0) 11 l 3 ((V 11 l 2) + (V 11 l 0))) 11 l 3 (((mu (mu (mu V 11 l 1 (V 11 l 2)) 11 l 2 0) 11 l 3 ((V 11 l 2) + (V 11 l 0))) 11 l 3) - 3)) 11 l 4 (c + (3 - 1))) 11 l 5 (wr ((V 11 l 5) + (c + (3 - 1))))) 11 l 6 (c + (3 - 1))) = (su V 11 l (emR c (V 11 l))) := mu7 (fun c2 x y h => (mu_ne (by omega)).trans ((mu_ne (by omega)).trans ((mu_ne (by omega)).trans ((mu_ne (by omega)).trans ((mu_ne (by omega)).trans ((mu_ne (by omega)).trans ((mu_ne (by omega)).trans (rfl)))))))) m0 m1 m2 m3 m4 m5 m6
          have qS := Sρ55
          have qX := Xρ55
          have qF := Fρ55
          rw [hV] at qS qX qF
          have q16 : 1 = (if (su V 11 l (emR c (V 11 l))) 11 l 3 = 0 then (0 : Int) else 1) := by rw [← hV, m3]; simp only [if_pos hbeg]; (repeat' split) <;> omega
          have qR : RS t σ0 (su V 11 l (emR c (V 11 l))) ρ55 := ⟨qS, qX.kf (r16a_ρ55.trans q16) r17b_ρ55, qF⟩
          have qL : LK (su V 11 l (emR c (V 11 l))) l := hL.to (fun c2 x y h => su_ne (by omega))
          refine y_look (V := (su V 11 l (emR c (V 11 l)))) (by omega) ht qR (by omega) qL (fun ρ56 Rρ56 => ?_)
          refine y_vret hK rfl dX6_endMove_148 ?_
          exact k _ Rρ56
      · have hval : 0 ≤ (if 0 < ((mu (mu (mu V 11 l 1 (V 11 l 2)) 11 l 2 0) 11 l 3 ((V 11 l 2) + (V 11 l 0))) 11 l 3) then ((mu (mu (mu V 11 l 1 (V 11 l 2)) 11 l 2 0) 11 l 3 ((V 11 l 2) + (V 11 l 0))) 11 l 3) - 1 else 0) ∧ (if 0 < ((mu (mu (mu V 11 l 1 (V 11 l 2)) 11 l 2 0) 11 l 3 ((V 11 l 2) + (V 11 l 0))) 11 l 3) then ((mu (mu (mu V 11 l 1 (V 11 l 2)) 11 l 2 0) 11 l 3 ((V 11 l 2) + (V 11 l 0))) 11 l 3) - 1 else 0) ≤ 3 := by split <;> omega
        have r17z := r17g.trans (show (if 0 < ((mu (mu (mu V 11 l 1 (V 11 l 2)) 11 l 2 0) 11 l 3 ((V 11 l 2) + (V 11 l 0))) 11 l 3) then (0 : Int) else 1) = 0 from by split <;> omega)
        refine r_iaddE hC ((c + (if 0 < ((mu (mu (mu V 11 l 1 (V 11 l 2)) 11 l 2 0) 11 l 3 ((V 11 l 2) + (V 11 l 0))) 11 l 3) then ((mu (mu (mu V 11 l 1 (V 11 l 2)) 11 l 2 0) 11 l 3 ((V 11 l 2) + (V 11 l 0))) 11 l 3) - 1 else 0))) dX6_endMove_106 (by omega) (by unfold inR; omega) ?_
        refine r_istore_n hC dX6_endMove_107 rfl ?_
        refine r_aload_n hC dX6_endMove_108 rfl ?_
        refine r_iload_n hC dX6_endMove_109 rfl ?_
        refine r_bipush hC dX6_endMove_110 rfl ?_
        refine r_iload_n hC dX6_endMove_112 rfl ?_
        refine z_inv3 hM dX6_endMove_113 vl_RX6_173 rfl rfl rfl (Nat.le_of_ble_eq_true rfl) (Nat.le_of_ble_eq_true rfl) ?_
        refine y_set (by omega) (by omega) ⟨fun h => by omega, fun h => by omega⟩ ?_
        obtain ⟨ρ57, e_ρ57⟩ : ∃ zz_, zz_ = mu ρg 31 0 ((22 * l) + 18) (c + (if 0 < ((mu (mu (mu V 11 l 1 (V 11 l 2)) 11 l 2 0) 11 l 3 ((V 11 l 2) + (V 11 l 0))) 11 l 3) then ((mu (mu (mu V 11 l 1 (V 11 l 2)) 11 l 2 0) 11 l 3 ((V 11 l 2) + (V 11 l 0))) 11 l 3) - 1 else 0)) := ⟨_, rfl⟩
        rw [← e_ρ57]
        have Sρ57 : SB t σ0 (mu (mu (mu (mu (mu (mu (mu V 11 l 1 (V 11 l 2)) 11 l 2 0) 11 l 3 ((V 11 l 2) + (V 11 l 0))) 11 l 3 0) 11 l 0 (((mu (mu (mu V 11 l 1 (V 11 l 2)) 11 l 2 0) 11 l 3 ((V 11 l 2) + (V 11 l 0))) 11 l 0) + ((mu (mu (mu V 11 l 1 (V 11 l 2)) 11 l 2 0) 11 l 3 ((V 11 l 2) + (V 11 l 0))) 11 l 1))) 11 l 1 0) 11 l 4 (c + (if 0 < ((mu (mu (mu V 11 l 1 (V 11 l 2)) 11 l 2 0) 11 l 3 ((V 11 l 2) + (V 11 l 0))) 11 l 3) then ((mu (mu (mu V 11 l 1 (V 11 l 2)) 11 l 2 0) 11 l 3 ((V 11 l 2) + (V 11 l 0))) 11 l 3) - 1 else 0))) ρ57 := by rw [e_ρ57, show ((22 * l) + 18) = 22 * l + 18 from by omega]; exact Sg.p11 (by omega) (by omega) (by omega)
        have r16a_ρ57 : ρ57 31 0 (22 * l + 16) = 0 := by rw [e_ρ57]; exact (mu_ne (by omega)).trans r16g
        have r17b_ρ57 : ρ57 31 0 (22 * l + 17) = 0 := by rw [e_ρ57]; exact (mu_ne (by omega)).trans r17z
        have Xρ57 : KX t l (mu (mu (mu (mu (mu (mu (mu V 11 l 1 (V 11 l 2)) 11 l 2 0) 11 l 3 ((V 11 l 2) + (V 11 l 0))) 11 l 3 0) 11 l 0 (((mu (mu (mu V 11 l 1 (V 11 l 2)) 11 l 2 0) 11 l 3 ((V 11 l 2) + (V 11 l 0))) 11 l 0) + ((mu (mu (mu V 11 l 1 (V 11 l 2)) 11 l 2 0) 11 l 3 ((V 11 l 2) + (V 11 l 0))) 11 l 1))) 11 l 1 0) 11 l 4 (c + (if 0 < ((mu (mu (mu V 11 l 1 (V 11 l 2)) 11 l 2 0) 11 l 3 ((V 11 l 2) + (V 11 l 0))) 11 l 3) then ((mu (mu (mu V 11 l 1 (V 11 l 2)) 11 l 2 0) 11 l 3 ((V 11 l 2) + (V 11 l 0))) 11 l 3) - 1 else 0))) ρ57 := (Xg).e (fun m a b c => by rw [e_ρ57]; exact ⟨mu_ne (by omega), mu_ne (by omega)⟩) (fun m c => mu_ne (by omega))
        have Fρ57 : FB (mu (mu (mu (mu (mu (mu (mu V 11 l 1 (V 11 l 2)) 11 l 2 0) 11 l 3 ((V 11 l 2) + (V 11 l 0))) 11 l 3 0) 11 l 0 (((mu (mu (mu V 11 l 1 (V 11 l 2)) 11 l 2 0) 11 l 3 ((V 11 l 2) + (V 11 l 0))) 11 l 0) + ((mu (mu (mu V 11 l 1 (V 11 l 2)) 11 l 2 0) 11 l 3 ((V 11 l 2) + (V 11 l 0))) 11 l 1))) 11 l 1 0) 11 l 4 (c + (if 0 < ((mu (mu (mu V 11 l 1 (V 11 l 2)) 11 l 2 0) 11 l 3 ((V 11 l 2) + (V 11 l 0))) 11 l 3) then ((mu (mu (mu V 11 l 1 (V 11 l 2)) 11 l 2 0) 11 l 3 ((V 11 l 2) + (V 11 l 0))) 11 l 3) - 1 else 0))) ρ57 := by rw [e_ρ57]; exact (Fg).e (fun l a b => mu_ne (by omega)) |>.v (fun l y a b c => mu_ne (by omega))
        refine r_aload_n hC dX6_endMove_116 rfl ?_
        refine r_iload_n hC dX6_endMove_117 rfl ?_
        refine r_bipush hC dX6_endMove_118 rfl ?_
        refine r_iload_n hC dX6_endMove_120 rfl ?_
        refine z_inv3 hM dX6_endMove_121 vl_RX6_188 rfl rfl rfl (Nat.le_of_ble_eq_true rfl) (Nat.le_of_ble_eq_true rfl) ?_
        refine y_moreW (a := (V 11 l 5)) (by omega) (by omega) ⟨fun h => by omega, by omega⟩ ((Sρ57.a11 (s := 5) (f := 19) (by omega) (by omega) (by omega)).trans ((mu_ne (by omega)).trans ((mu_ne (by omega)).trans ((mu_ne (by omega)).trans ((mu_ne (by omega)).trans ((mu_ne (by omega)).trans ((mu_ne (by omega)).trans ((mu_ne (by omega)).trans (rfl))))))))) (by omega) ?_
        obtain ⟨ρ58, e_ρ58⟩ : ∃ zz_, zz_ = mu ρ57 31 0 ((22 * l) + 19) (wr ((V 11 l 5) + (c + (if 0 < ((mu (mu (mu V 11 l 1 (V 11 l 2)) 11 l 2 0) 11 l 3 ((V 11 l 2) + (V 11 l 0))) 11 l 3) then ((mu (mu (mu V 11 l 1 (V 11 l 2)) 11 l 2 0) 11 l 3 ((V 11 l 2) + (V 11 l 0))) 11 l 3) - 1 else 0)))) := ⟨_, rfl⟩
        rw [← e_ρ58]
        have Sρ58 : SB t σ0 (mu (mu (mu (mu (mu (mu (mu (mu V 11 l 1 (V 11 l 2)) 11 l 2 0) 11 l 3 ((V 11 l 2) + (V 11 l 0))) 11 l 3 0) 11 l 0 (((mu (mu (mu V 11 l 1 (V 11 l 2)) 11 l 2 0) 11 l 3 ((V 11 l 2) + (V 11 l 0))) 11 l 0) + ((mu (mu (mu V 11 l 1 (V 11 l 2)) 11 l 2 0) 11 l 3 ((V 11 l 2) + (V 11 l 0))) 11 l 1))) 11 l 1 0) 11 l 4 (c + (if 0 < ((mu (mu (mu V 11 l 1 (V 11 l 2)) 11 l 2 0) 11 l 3 ((V 11 l 2) + (V 11 l 0))) 11 l 3) then ((mu (mu (mu V 11 l 1 (V 11 l 2)) 11 l 2 0) 11 l 3 ((V 11 l 2) + (V 11 l 0))) 11 l 3) - 1 else 0))) 11 l 5 (wr ((V 11 l 5) + (c + (if 0 < ((mu (mu (mu V 11 l 1 (V 11 l 2)) 11 l 2 0) 11 l 3 ((V 11 l 2) + (V 11 l 0))) 11 l 3) then ((mu (mu (mu V 11 l 1 (V 11 l 2)) 11 l 2 0) 11 l 3 ((V 11 l 2) + (V 11 l 0))) 11 l 3) - 1 else 0))))) ρ58 := by rw [e_ρ58, show ((22 * l) + 19) = 22 * l + 19 from by omega]; exact Sρ57.p11 (by omega) (by omega) (by omega)
        have r16a_ρ58 : ρ58 31 0 (22 * l + 16) = 0 := by rw [e_ρ58]; exact (mu_ne (by omega)).trans r16a_ρ57
        have r17b_ρ58 : ρ58 31 0 (22 * l + 17) = 0 := by rw [e_ρ58]; exact (mu_ne (by omega)).trans r17b_ρ57
        have Xρ58 : KX t l (mu (mu (mu (mu (mu (mu (mu (mu V 11 l 1 (V 11 l 2)) 11 l 2 0) 11 l 3 ((V 11 l 2) + (V 11 l 0))) 11 l 3 0) 11 l 0 (((mu (mu (mu V 11 l 1 (V 11 l 2)) 11 l 2 0) 11 l 3 ((V 11 l 2) + (V 11 l 0))) 11 l 0) + ((mu (mu (mu V 11 l 1 (V 11 l 2)) 11 l 2 0) 11 l 3 ((V 11 l 2) + (V 11 l 0))) 11 l 1))) 11 l 1 0) 11 l 4 (c + (if 0 < ((mu (mu (mu V 11 l 1 (V 11 l 2)) 11 l 2 0) 11 l 3 ((V 11 l 2) + (V 11 l 0))) 11 l 3) then ((mu (mu (mu V 11 l 1 (V 11 l 2)) 11 l 2 0) 11 l 3 ((V 11 l 2) + (V 11 l 0))) 11 l 3) - 1 else 0))) 11 l 5 (wr ((V 11 l 5) + (c + (if 0 < ((mu (mu (mu V 11 l 1 (V 11 l 2)) 11 l 2 0) 11 l 3 ((V 11 l 2) + (V 11 l 0))) 11 l 3) then ((mu (mu (mu V 11 l 1 (V 11 l 2)) 11 l 2 0) 11 l 3 ((V 11 l 2) + (V 11 l 0))) 11 l 3) - 1 else 0))))) ρ58 := (Xρ57).e (fun m a b c => by rw [e_ρ58]; exact ⟨mu_ne (by omega), mu_ne (by omega)⟩) (fun m c => mu_ne (by omega))
        have Fρ58 : FB (mu (mu (mu (mu (mu (mu (mu (mu V 11 l 1 (V 11 l 2)) 11 l 2 0) 11 l 3 ((V 11 l 2) + (V 11 l 0))) 11 l 3 0) 11 l 0 (((mu (mu (mu V 11 l 1 (V 11 l 2)) 11 l 2 0) 11 l 3 ((V 11 l 2) + (V 11 l 0))) 11 l 0) + ((mu (mu (mu V 11 l 1 (V 11 l 2)) 11 l 2 0) 11 l 3 ((V 11 l 2) + (V 11 l 0))) 11 l 1))) 11 l 1 0) 11 l 4 (c + (if 0 < ((mu (mu (mu V 11 l 1 (V 11 l 2)) 11 l 2 0) 11 l 3 ((V 11 l 2) + (V 11 l 0))) 11 l 3) then ((mu (mu (mu V 11 l 1 (V 11 l 2)) 11 l 2 0) 11 l 3 ((V 11 l 2) + (V 11 l 0))) 11 l 3) - 1 else 0))) 11 l 5 (wr ((V 11 l 5) + (c + (if 0 < ((mu (mu (mu V 11 l 1 (V 11 l 2)) 11 l 2 0) 11 l 3 ((V 11 l 2) + (V 11 l 0))) 11 l 3) then ((mu (mu (mu V 11 l 1 (V 11 l 2)) 11 l 2 0) 11 l 3 ((V 11 l 2) + (V 11 l 0))) 11 l 3) - 1 else 0))))) ρ58 := by rw [e_ρ58]; exact (Fρ57).e (fun l a b => mu_ne (by omega)) |>.v (fun l y a b c => mu_ne (by omega))
        refine r_iload_n hC dX6_endMove_124 rfl ?_
        refine r_aload_n hC dX6_endMove_125 rfl ?_
        refine r_iload_n hC dX6_endMove_126 rfl ?_
        refine r_bipush hC dX6_endMove_127 rfl ?_
        refine z_inv2 hM dX6_endMove_129 vl_RX6_80 rfl rfl rfl (Nat.le_of_ble_eq_true rfl) (Nat.le_of_ble_eq_true rfl) ?_
        refine y_of (by omega) (by omega) (by omega) (fun o59 => ?_)
        have e60 : ρ58 31 0 (22 * l + 20) = (V 11 l 6) := (Sρ58.a11 (s := 6) (f := 20) (by omega) (by omega) (by omega)).trans ((mu_ne (by omega)).trans ((mu_ne (by omega)).trans ((mu_ne (by omega)).trans ((mu_ne (by omega)).trans ((mu_ne (by omega)).trans ((mu_ne (by omega)).trans ((mu_ne (by omega)).trans ((mu_ne (by omega)).trans (rfl)))))))))
        rw [e60] at o59 ⊢
        refine r_icmp_le (tgt := 143) hC dX6_endMove_132 rfl (fun h61 => ?_) (fun h61 => ?_)
        · refine r_aload_n hC dX6_endMove_143 rfl ?_
          refine r_iload_n hC dX6_endMove_144 rfl ?_
          refine z_inv1 hM dX6_endMove_145 vl_RX6_191 rfl rfl rfl (Nat.le_of_ble_eq_true rfl) (Nat.le_of_ble_eq_true rfl) ?_
          have hbeg : (V 11 l 1 = 0 ∧ V 11 l 2 > V 11 l 0) := by omega
          have m0 : (mu (mu (mu (mu (mu (mu (mu (mu V 11 l 1 (V 11 l 2)) 11 l 2 0) 11 l 3 ((V 11 l 2) + (V 11 l 0))) 11 l 3 0) 11 l 0 (((mu (mu (mu V 11 l 1 (V 11 l 2)) 11 l 2 0) 11 l 3 ((V 11 l 2) + (V 11 l 0))) 11 l 0) + ((mu (mu (mu V 11 l 1 (V 11 l 2)) 11 l 2 0) 11 l 3 ((V 11 l 2) + (V 11 l 0))) 11 l 1))) 11 l 1 0) 11 l 4 (c + (if 0 < ((mu (mu (mu V 11 l 1 (V 11 l 2)) 11 l 2 0) 11 l 3 ((V 11 l 2) + (V 11 l 0))) 11 l 3) then ((mu (mu (mu V 11 l 1 (V 11 l 2)) 11 l 2 0) 11 l 3 ((V 11 l 2) + (V 11 l 0))) 11 l 3) - 1 else 0))) 11 l 5 (wr ((V 11 l 5) + (c + (if 0 < ((mu (mu (mu V 11 l 1 (V 11 l 2)) 11 l 2 0) 11 l 3 ((V 11 l 2) + (V 11 l 0))) 11 l 3) then ((mu (mu (mu V 11 l 1 (V 11 l 2)) 11 l 2 0) 11 l 3 ((V 11 l 2) + (V 11 l 0))) 11 l 3) - 1 else 0))))) 11 l 0 = (if (if (V 11 l 1) = 0 ∧ (V 11 l 2) > (V 11 l 0) then (V 11 l 2) + (V 11 l 0) else (V 11 l 3)) - min 3 (if (V 11 l 1) = 0 ∧ (V 11 l 2) > (V 11 l 0) then (V 11 l 2) + (V 11 l 0) else (V 11 l 3)) = 0 then (V 11 l 0) + (if (V 11 l 1) = 0 ∧ (V 11 l 2) > (V 11 l 0) then (V 11 l 2) else (V 11 l 1)) else (V 11 l 0)) := (show (mu (mu (mu (mu (mu (mu (mu (mu V 11 l 1 (V 11 l 2)) 11 l 2 0) 11 l 3 ((V 11 l 2) + (V 11 l 0))) 11 l 3 0) 11 l 0 (((mu (mu (mu V 11 l 1 (V 11 l 2)) 11 l 2 0) 11 l 3 ((V 11 l 2) + (V 11 l 0))) 11 l 0) + ((mu (mu (mu V 11 l 1 (V 11 l 2)) 11 l 2 0) 11 l 3 ((V 11 l 2) + (V 11 l 0))) 11 l 1))) 11 l 1 0) 11 l 4 (c + (if 0 < ((mu (mu (mu V 11 l 1 (V 11 l 2)) 11 l 2 0) 11 l 3 ((V 11 l 2) + (V 11 l 0))) 11 l 3) then ((mu (mu (mu V 11 l 1 (V 11 l 2)) 11 l 2 0) 11 l 3 ((V 11 l 2) + (V 11 l 0))) 11 l 3) - 1 else 0))) 11 l 5 (wr ((V 11 l 5) + (c + (if 0 < ((mu (mu (mu V 11 l 1 (V 11 l 2)) 11 l 2 0) 11 l 3 ((V 11 l 2) + (V 11 l 0))) 11 l 3) then ((mu (mu (mu V 11 l 1 (V 11 l 2)) 11 l 2 0) 11 l 3 ((V 11 l 2) + (V 11 l 0))) 11 l 3) - 1 else 0))))) 11 l 0 = (((mu (mu (mu V 11 l 1 (V 11 l 2)) 11 l 2 0) 11 l 3 ((V 11 l 2) + (V 11 l 0))) 11 l 0) + ((mu (mu (mu V 11 l 1 (V 11 l 2)) 11 l 2 0) 11 l 3 ((V 11 l 2) + (V 11 l 0))) 11 l 1)) from ((mu_ne (by omega)).trans ((mu_ne (by omega)).trans ((mu_ne (by omega)).trans (mu_self _ _ _ _ _))))).trans (by (repeat' split) <;> omega)
          have m1 : (mu (mu (mu (mu (mu (mu (mu (mu V 11 l 1 (V 11 l 2)) 11 l 2 0) 11 l 3 ((V 11 l 2) + (V 11 l 0))) 11 l 3 0) 11 l 0 (((mu (mu (mu V 11 l 1 (V 11 l 2)) 11 l 2 0) 11 l 3 ((V 11 l 2) + (V 11 l 0))) 11 l 0) + ((mu (mu (mu V 11 l 1 (V 11 l 2)) 11 l 2 0) 11 l 3 ((V 11 l 2) + (V 11 l 0))) 11 l 1))) 11 l 1 0) 11 l 4 (c + (if 0 < ((mu (mu (mu V 11 l 1 (V 11 l 2)) 11 l 2 0) 11 l 3 ((V 11 l 2) + (V 11 l 0))) 11 l 3) then ((mu (mu (mu V 11 l 1 (V 11 l 2)) 11 l 2 0) 11 l 3 ((V 11 l 2) + (V 11 l 0))) 11 l 3) - 1 else 0))) 11 l 5 (wr ((V 11 l 5) + (c + (if 0 < ((mu (mu (mu V 11 l 1 (V 11 l 2)) 11 l 2 0) 11 l 3 ((V 11 l 2) + (V 11 l 0))) 11 l 3) then ((mu (mu (mu V 11 l 1 (V 11 l 2)) 11 l 2 0) 11 l 3 ((V 11 l 2) + (V 11 l 0))) 11 l 3) - 1 else 0))))) 11 l 1 = (if (if (V 11 l 1) = 0 ∧ (V 11 l 2) > (V 11 l 0) then (V 11 l 2) + (V 11 l 0) else (V 11 l 3)) - min 3 (if (V 11 l 1) = 0 ∧ (V 11 l 2) > (V 11 l 0) then (V 11 l 2) + (V 11 l 0) else (V 11 l 3)) = 0 then 0 else (if (V 11 l 1) = 0 ∧ (V 11 l 2) > (V 11 l 0) then (V 11 l 2) else (V 11 l 1))) := (show (mu (mu (mu (mu (mu (mu (mu (mu V 11 l 1 (V 11 l 2)) 11 l 2 0) 11 l 3 ((V 11 l 2) + (V 11 l 0))) 11 l 3 0) 11 l 0 (((mu (mu (mu V 11 l 1 (V 11 l 2)) 11 l 2 0) 11 l 3 ((V 11 l 2) + (V 11 l 0))) 11 l 0) + ((mu (mu (mu V 11 l 1 (V 11 l 2)) 11 l 2 0) 11 l 3 ((V 11 l 2) + (V 11 l 0))) 11 l 1))) 11 l 1 0) 11 l 4 (c + (if 0 < ((mu (mu (mu V 11 l 1 (V 11 l 2)) 11 l 2 0) 11 l 3 ((V 11 l 2) + (V 11 l 0))) 11 l 3) then ((mu (mu (mu V 11 l 1 (V 11 l 2)) 11 l 2 0) 11 l 3 ((V 11 l 2) + (V 11 l 0))) 11 l 3) - 1 else 0))) 11 l 5 (wr ((V 11 l 5) + (c + (if 0 < ((mu (mu (mu V 11 l 1 (V 11 l 2)) 11 l 2 0) 11 l 3 ((V 11 l 2) + (V 11 l 0))) 11 l 3) then ((mu (mu (mu V 11 l 1 (V 11 l 2)) 11 l 2 0) 11 l 3 ((V 11 l 2) + (V 11 l 0))) 11 l 3) - 1 else 0))))) 11 l 1 = 0 from ((mu_ne (by omega)).trans ((mu_ne (by omega)).trans (mu_self _ _ _ _ _)))).trans (by (repeat' split) <;> omega)
          have m2 : (mu (mu (mu (mu (mu (mu (mu (mu V 11 l 1 (V 11 l 2)) 11 l 2 0) 11 l 3 ((V 11 l 2) + (V 11 l 0))) 11 l 3 0) 11 l 0 (((mu (mu (mu V 11 l 1 (V 11 l 2)) 11 l 2 0) 11 l 3 ((V 11 l 2) + (V 11 l 0))) 11 l 0) + ((mu (mu (mu V 11 l 1 (V 11 l 2)) 11 l 2 0) 11 l 3 ((V 11 l 2) + (V 11 l 0))) 11 l 1))) 11 l 1 0) 11 l 4 (c + (if 0 < ((mu (mu (mu V 11 l 1 (V 11 l 2)) 11 l 2 0) 11 l 3 ((V 11 l 2) + (V 11 l 0))) 11 l 3) then ((mu (mu (mu V 11 l 1 (V 11 l 2)) 11 l 2 0) 11 l 3 ((V 11 l 2) + (V 11 l 0))) 11 l 3) - 1 else 0))) 11 l 5 (wr ((V 11 l 5) + (c + (if 0 < ((mu (mu (mu V 11 l 1 (V 11 l 2)) 11 l 2 0) 11 l 3 ((V 11 l 2) + (V 11 l 0))) 11 l 3) then ((mu (mu (mu V 11 l 1 (V 11 l 2)) 11 l 2 0) 11 l 3 ((V 11 l 2) + (V 11 l 0))) 11 l 3) - 1 else 0))))) 11 l 2 = (if (V 11 l 1) = 0 ∧ (V 11 l 2) > (V 11 l 0) then 0 else (V 11 l 2)) := (show (mu (mu (mu (mu (mu (mu (mu (mu V 11 l 1 (V 11 l 2)) 11 l 2 0) 11 l 3 ((V 11 l 2) + (V 11 l 0))) 11 l 3 0) 11 l 0 (((mu (mu (mu V 11 l 1 (V 11 l 2)) 11 l 2 0) 11 l 3 ((V 11 l 2) + (V 11 l 0))) 11 l 0) + ((mu (mu (mu V 11 l 1 (V 11 l 2)) 11 l 2 0) 11 l 3 ((V 11 l 2) + (V 11 l 0))) 11 l 1))) 11 l 1 0) 11 l 4 (c + (if 0 < ((mu (mu (mu V 11 l 1 (V 11 l 2)) 11 l 2 0) 11 l 3 ((V 11 l 2) + (V 11 l 0))) 11 l 3) then ((mu (mu (mu V 11 l 1 (V 11 l 2)) 11 l 2 0) 11 l 3 ((V 11 l 2) + (V 11 l 0))) 11 l 3) - 1 else 0))) 11 l 5 (wr ((V 11 l 5) + (c + (if 0 < ((mu (mu (mu V 11 l 1 (V 11 l 2)) 11 l 2 0) 11 l 3 ((V 11 l 2) + (V 11 l 0))) 11 l 3) then ((mu (mu (mu V 11 l 1 (V 11 l 2)) 11 l 2 0) 11 l 3 ((V 11 l 2) + (V 11 l 0))) 11 l 3) - 1 else 0))))) 11 l 2 = 0 from ((mu_ne (by omega)).trans ((mu_ne (by omega)).trans ((mu_ne (by omega)).trans ((mu_ne (by omega)).trans ((mu_ne (by omega)).trans ((mu_ne (by omega)).trans (mu_self _ _ _ _ _)))))))).trans (by (repeat' split) <;> omega)
          have m3 : (mu (mu (mu (mu (mu (mu (mu (mu V 11 l 1 (V 11 l 2)) 11 l 2 0) 11 l 3 ((V 11 l 2) + (V 11 l 0))) 11 l 3 0) 11 l 0 (((mu (mu (mu V 11 l 1 (V 11 l 2)) 11 l 2 0) 11 l 3 ((V 11 l 2) + (V 11 l 0))) 11 l 0) + ((mu (mu (mu V 11 l 1 (V 11 l 2)) 11 l 2 0) 11 l 3 ((V 11 l 2) + (V 11 l 0))) 11 l 1))) 11 l 1 0) 11 l 4 (c + (if 0 < ((mu (mu (mu V 11 l 1 (V 11 l 2)) 11 l 2 0) 11 l 3 ((V 11 l 2) + (V 11 l 0))) 11 l 3) then ((mu (mu (mu V 11 l 1 (V 11 l 2)) 11 l 2 0) 11 l 3 ((V 11 l 2) + (V 11 l 0))) 11 l 3) - 1 else 0))) 11 l 5 (wr ((V 11 l 5) + (c + (if 0 < ((mu (mu (mu V 11 l 1 (V 11 l 2)) 11 l 2 0) 11 l 3 ((V 11 l 2) + (V 11 l 0))) 11 l 3) then ((mu (mu (mu V 11 l 1 (V 11 l 2)) 11 l 2 0) 11 l 3 ((V 11 l 2) + (V 11 l 0))) 11 l 3) - 1 else 0))))) 11 l 3 = ((if (V 11 l 1) = 0 ∧ (V 11 l 2) > (V 11 l 0) then (V 11 l 2) + (V 11 l 0) else (V 11 l 3)) - min 3 (if (V 11 l 1) = 0 ∧ (V 11 l 2) > (V 11 l 0) then (V 11 l 2) + (V 11 l 0) else (V 11 l 3))) := (show (mu (mu (mu (mu (mu (mu (mu (mu V 11 l 1 (V 11 l 2)) 11 l 2 0) 11 l 3 ((V 11 l 2) + (V 11 l 0))) 11 l 3 0) 11 l 0 (((mu (mu (mu V 11 l 1 (V 11 l 2)) 11 l 2 0) 11 l 3 ((V 11 l 2) + (V 11 l 0))) 11 l 0) + ((mu (mu (mu V 11 l 1 (V 11 l 2)) 11 l 2 0) 11 l 3 ((V 11 l 2) + (V 11 l 0))) 11 l 1))) 11 l 1 0) 11 l 4 (c + (if 0 < ((mu (mu (mu V 11 l 1 (V 11 l 2)) 11 l 2 0) 11 l 3 ((V 11 l 2) + (V 11 l 0))) 11 l 3) then ((mu (mu (mu V 11 l 1 (V 11 l 2)) 11 l 2 0) 11 l 3 ((V 11 l 2) + (V 11 l 0))) 11 l 3) - 1 else 0))) 11 l 5 (wr ((V 11 l 5) + (c + (if 0 < ((mu (mu (mu V 11 l 1 (V 11 l 2)) 11 l 2 0) 11 l 3 ((V 11 l 2) + (V 11 l 0))) 11 l 3) then ((mu (mu (mu V 11 l 1 (V 11 l 2)) 11 l 2 0) 11 l 3 ((V 11 l 2) + (V 11 l 0))) 11 l 3) - 1 else 0))))) 11 l 3 = 0 from ((mu_ne (by omega)).trans ((mu_ne (by omega)).trans ((mu_ne (by omega)).trans ((mu_ne (by omega)).trans (mu_self _ _ _ _ _)))))).trans (by (repeat' split) <;> omega)
          have m4 : (mu (mu (mu (mu (mu (mu (mu (mu V 11 l 1 (V 11 l 2)) 11 l 2 0) 11 l 3 ((V 11 l 2) + (V 11 l 0))) 11 l 3 0) 11 l 0 (((mu (mu (mu V 11 l 1 (V 11 l 2)) 11 l 2 0) 11 l 3 ((V 11 l 2) + (V 11 l 0))) 11 l 0) + ((mu (mu (mu V 11 l 1 (V 11 l 2)) 11 l 2 0) 11 l 3 ((V 11 l 2) + (V 11 l 0))) 11 l 1))) 11 l 1 0) 11 l 4 (c + (if 0 < ((mu (mu (mu V 11 l 1 (V 11 l 2)) 11 l 2 0) 11 l 3 ((V 11 l 2) + (V 11 l 0))) 11 l 3) then ((mu (mu (mu V 11 l 1 (V 11 l 2)) 11 l 2 0) 11 l 3 ((V 11 l 2) + (V 11 l 0))) 11 l 3) - 1 else 0))) 11 l 5 (wr ((V 11 l 5) + (c + (if 0 < ((mu (mu (mu V 11 l 1 (V 11 l 2)) 11 l 2 0) 11 l 3 ((V 11 l 2) + (V 11 l 0))) 11 l 3) then ((mu (mu (mu V 11 l 1 (V 11 l 2)) 11 l 2 0) 11 l 3 ((V 11 l 2) + (V 11 l 0))) 11 l 3) - 1 else 0))))) 11 l 4 = (((if (V 11 l 1) = 0 ∧ (V 11 l 2) > (V 11 l 0) then c - 1 else c) + min 3 (if (V 11 l 1) = 0 ∧ (V 11 l 2) > (V 11 l 0) then (V 11 l 2) + (V 11 l 0) else (V 11 l 3)))) := (show (mu (mu (mu (mu (mu (mu (mu (mu V 11 l 1 (V 11 l 2)) 11 l 2 0) 11 l 3 ((V 11 l 2) + (V 11 l 0))) 11 l 3 0) 11 l 0 (((mu (mu (mu V 11 l 1 (V 11 l 2)) 11 l 2 0) 11 l 3 ((V 11 l 2) + (V 11 l 0))) 11 l 0) + ((mu (mu (mu V 11 l 1 (V 11 l 2)) 11 l 2 0) 11 l 3 ((V 11 l 2) + (V 11 l 0))) 11 l 1))) 11 l 1 0) 11 l 4 (c + (if 0 < ((mu (mu (mu V 11 l 1 (V 11 l 2)) 11 l 2 0) 11 l 3 ((V 11 l 2) + (V 11 l 0))) 11 l 3) then ((mu (mu (mu V 11 l 1 (V 11 l 2)) 11 l 2 0) 11 l 3 ((V 11 l 2) + (V 11 l 0))) 11 l 3) - 1 else 0))) 11 l 5 (wr ((V 11 l 5) + (c + (if 0 < ((mu (mu (mu V 11 l 1 (V 11 l 2)) 11 l 2 0) 11 l 3 ((V 11 l 2) + (V 11 l 0))) 11 l 3) then ((mu (mu (mu V 11 l 1 (V 11 l 2)) 11 l 2 0) 11 l 3 ((V 11 l 2) + (V 11 l 0))) 11 l 3) - 1 else 0))))) 11 l 4 = (c + (if 0 < ((mu (mu (mu V 11 l 1 (V 11 l 2)) 11 l 2 0) 11 l 3 ((V 11 l 2) + (V 11 l 0))) 11 l 3) then ((mu (mu (mu V 11 l 1 (V 11 l 2)) 11 l 2 0) 11 l 3 ((V 11 l 2) + (V 11 l 0))) 11 l 3) - 1 else 0)) from ((mu_ne (by omega)).trans (mu_self _ _ _ _ _))).trans (by (repeat' split) <;> omega)
          have m5 : (mu (mu (mu (mu (mu (mu (mu (mu V 11 l 1 (V 11 l 2)) 11 l 2 0) 11 l 3 ((V 11 l 2) + (V 11 l 0))) 11 l 3 0) 11 l 0 (((mu (mu (mu V 11 l 1 (V 11 l 2)) 11 l 2 0) 11 l 3 ((V 11 l 2) + (V 11 l 0))) 11 l 0) + ((mu (mu (mu V 11 l 1 (V 11 l 2)) 11 l 2 0) 11 l 3 ((V 11 l 2) + (V 11 l 0))) 11 l 1))) 11 l 1 0) 11 l 4 (c + (if 0 < ((mu (mu (mu V 11 l 1 (V 11 l 2)) 11 l 2 0) 11 l 3 ((V 11 l 2) + (V 11 l 0))) 11 l 3) then ((mu (mu (mu V 11 l 1 (V 11 l 2)) 11 l 2 0) 11 l 3 ((V 11 l 2) + (V 11 l 0))) 11 l 3) - 1 else 0))) 11 l 5 (wr ((V 11 l 5) + (c + (if 0 < ((mu (mu (mu V 11 l 1 (V 11 l 2)) 11 l 2 0) 11 l 3 ((V 11 l 2) + (V 11 l 0))) 11 l 3) then ((mu (mu (mu V 11 l 1 (V 11 l 2)) 11 l 2 0) 11 l 3 ((V 11 l 2) + (V 11 l 0))) 11 l 3) - 1 else 0))))) 11 l 5 = (wr ((V 11 l 5) + ((if (V 11 l 1) = 0 ∧ (V 11 l 2) > (V 11 l 0) then c - 1 else c) + min 3 (if (V 11 l 1) = 0 ∧ (V 11 l 2) > (V 11 l 0) then (V 11 l 2) + (V 11 l 0) else (V 11 l 3))))) := (show (mu (mu (mu (mu (mu (mu (mu (mu V 11 l 1 (V 11 l 2)) 11 l 2 0) 11 l 3 ((V 11 l 2) + (V 11 l 0))) 11 l 3 0) 11 l 0 (((mu (mu (mu V 11 l 1 (V 11 l 2)) 11 l 2 0) 11 l 3 ((V 11 l 2) + (V 11 l 0))) 11 l 0) + ((mu (mu (mu V 11 l 1 (V 11 l 2)) 11 l 2 0) 11 l 3 ((V 11 l 2) + (V 11 l 0))) 11 l 1))) 11 l 1 0) 11 l 4 (c + (if 0 < ((mu (mu (mu V 11 l 1 (V 11 l 2)) 11 l 2 0) 11 l 3 ((V 11 l 2) + (V 11 l 0))) 11 l 3) then ((mu (mu (mu V 11 l 1 (V 11 l 2)) 11 l 2 0) 11 l 3 ((V 11 l 2) + (V 11 l 0))) 11 l 3) - 1 else 0))) 11 l 5 (wr ((V 11 l 5) + (c + (if 0 < ((mu (mu (mu V 11 l 1 (V 11 l 2)) 11 l 2 0) 11 l 3 ((V 11 l 2) + (V 11 l 0))) 11 l 3) then ((mu (mu (mu V 11 l 1 (V 11 l 2)) 11 l 2 0) 11 l 3 ((V 11 l 2) + (V 11 l 0))) 11 l 3) - 1 else 0))))) 11 l 5 = wr ((V 11 l 5) + (c + (if 0 < ((mu (mu (mu V 11 l 1 (V 11 l 2)) 11 l 2 0) 11 l 3 ((V 11 l 2) + (V 11 l 0))) 11 l 3) then ((mu (mu (mu V 11 l 1 (V 11 l 2)) 11 l 2 0) 11 l 3 ((V 11 l 2) + (V 11 l 0))) 11 l 3) - 1 else 0))) from (mu_self _ _ _ _ _)).trans (congrArg wr (by simp only [if_pos hbeg]; (repeat' split) <;> omega))
          have m6 : (mu (mu (mu (mu (mu (mu (mu (mu V 11 l 1 (V 11 l 2)) 11 l 2 0) 11 l 3 ((V 11 l 2) + (V 11 l 0))) 11 l 3 0) 11 l 0 (((mu (mu (mu V 11 l 1 (V 11 l 2)) 11 l 2 0) 11 l 3 ((V 11 l 2) + (V 11 l 0))) 11 l 0) + ((mu (mu (mu V 11 l 1 (V 11 l 2)) 11 l 2 0) 11 l 3 ((V 11 l 2) + (V 11 l 0))) 11 l 1))) 11 l 1 0) 11 l 4 (c + (if 0 < ((mu (mu (mu V 11 l 1 (V 11 l 2)) 11 l 2 0) 11 l 3 ((V 11 l 2) + (V 11 l 0))) 11 l 3) then ((mu (mu (mu V 11 l 1 (V 11 l 2)) 11 l 2 0) 11 l 3 ((V 11 l 2) + (V 11 l 0))) 11 l 3) - 1 else 0))) 11 l 5 (wr ((V 11 l 5) + (c + (if 0 < ((mu (mu (mu V 11 l 1 (V 11 l 2)) 11 l 2 0) 11 l 3 ((V 11 l 2) + (V 11 l 0))) 11 l 3) then ((mu (mu (mu V 11 l 1 (V 11 l 2)) 11 l 2 0) 11 l 3 ((V 11 l 2) + (V 11 l 0))) 11 l 3) - 1 else 0))))) 11 l 6 = (max (V 11 l 6) ((if (V 11 l 1) = 0 ∧ (V 11 l 2) > (V 11 l 0) then c - 1 else c) + min 3 (if (V 11 l 1) = 0 ∧ (V 11 l 2) > (V 11 l 0) then (V 11 l 2) + (V 11 l 0) else (V 11 l 3)))) := (show (mu (mu (mu (mu (mu (mu (mu (mu V 11 l 1 (V 11 l 2)) 11 l 2 0) 11 l 3 ((V 11 l 2) + (V 11 l 0))) 11 l 3 0) 11 l 0 (((mu (mu (mu V 11 l 1 (V 11 l 2)) 11 l 2 0) 11 l 3 ((V 11 l 2) + (V 11 l 0))) 11 l 0) + ((mu (mu (mu V 11 l 1 (V 11 l 2)) 11 l 2 0) 11 l 3 ((V 11 l 2) + (V 11 l 0))) 11 l 1))) 11 l 1 0) 11 l 4 (c + (if 0 < ((mu (mu (mu V 11 l 1 (V 11 l 2)) 11 l 2 0) 11 l 3 ((V 11 l 2) + (V 11 l 0))) 11 l 3) then ((mu (mu (mu V 11 l 1 (V 11 l 2)) 11 l 2 0) 11 l 3 ((V 11 l 2) + (V 11 l 0))) 11 l 3) - 1 else 0))) 11 l 5 (wr ((V 11 l 5) + (c + (if 0 < ((mu (mu (mu V 11 l 1 (V 11 l 2)) 11 l 2 0) 11 l 3 ((V 11 l 2) + (V 11 l 0))) 11 l 3) then ((mu (mu (mu V 11 l 1 (V 11 l 2)) 11 l 2 0) 11 l 3 ((V 11 l 2) + (V 11 l 0))) 11 l 3) - 1 else 0))))) 11 l 6 = (V 11 l 6) from ((mu_ne (by omega)).trans ((mu_ne (by omega)).trans ((mu_ne (by omega)).trans ((mu_ne (by omega)).trans ((mu_ne (by omega)).trans ((mu_ne (by omega)).trans ((mu_ne (by omega)).trans ((mu_ne (by omega)).trans (rfl)))))))))).trans (by (repeat' split) <;> omega)
          have hV : (mu (mu (mu (mu (mu (mu (mu (mu V 11 l 1 (V 11 l 2)) 11 l 2 0) 11 l 3 ((V 11 l 2) + (V 11 l 0))) 11 l 3 0) 11 l 0 (((mu (mu (mu V 11 l 1 (V 11 l 2)) 11 l 2 0) 11 l 3 ((V 11 l 2) + (V 11 l 0))) 11 l 0) + ((mu (mu (mu V 11 l 1 (V 11 l 2)) 11 l 2 0) 11 l 3 ((V 11 l 2) + (V 11 l 0))) 11 l 1))) 11 l 1 0) 11 l 4 (c + (if 0 < ((mu (mu (mu V 11 l 1 (V 11 l 2)) 11 l 2 0) 11 l 3 ((V 11 l 2) + (V 11 l 0))) 11 l 3) then ((mu (mu (mu V 11 l 1 (V 11 l 2)) 11 l 2 0) 11 l 3 ((V 11 l 2) + (V 11 l 0))) 11 l 3) - 1 else 0))) 11 l 5 (wr ((V 11 l 5) + (c + (if 0 < ((mu (mu (mu V 11 l 1 (V 11 l 2)) 11 l 2 0) 11 l 3 ((V 11 l 2) + (V 11 l 0))) 11 l 3) then ((mu (mu (mu V 11 l 1 (V 11 l 2)) 11 l 2 0) 11 l 3 ((V 11 l 2) + (V 11 l 0))) 11 l 3) - 1 else 0))))) = (su V 11 l (emR c (V 11 l))) := mu7 (fun c2 x y h => (mu_ne (by omega)).trans ((mu_ne (by omega)).trans ((mu_ne (by omega)).trans ((mu_ne (by omega)).trans ((mu_ne (by omega)).trans ((mu_ne (by omega)).trans ((mu_ne (by omega)).trans ((mu_ne (by omega)).trans (rfl))))))))) m0 m1 m2 m3 m4 m5 m6
          have qS := Sρ58
          have qX := Xρ58
          have qF := Fρ58
          rw [hV] at qS qX qF
          have q16 : 0 = (if (su V 11 l (emR c (V 11 l))) 11 l 3 = 0 then (0 : Int) else 1) := by rw [← hV, m3]; simp only [if_pos hbeg]; (repeat' split) <;> omega
          have qR : RS t σ0 (su V 11 l (emR c (V 11 l))) ρ58 := ⟨qS, qX.kf (r16a_ρ58.trans q16) r17b_ρ58, qF⟩
          have qL : LK (su V 11 l (emR c (V 11 l))) l := hL.to (fun c2 x y h => su_ne (by omega))
          refine y_look (V := (su V 11 l (emR c (V 11 l)))) (by omega) ht qR (by omega) qL (fun ρ62 Rρ62 => ?_)
          refine y_vret hK rfl dX6_endMove_148 ?_
          exact k _ Rρ62
        · refine r_aload_n hC dX6_endMove_135 rfl ?_
          refine r_iload_n hC dX6_endMove_136 rfl ?_
          refine r_bipush hC dX6_endMove_137 rfl ?_
          refine r_iload_n hC dX6_endMove_139 rfl ?_
          refine z_inv3 hM dX6_endMove_140 vl_RX6_173 rfl rfl rfl (Nat.le_of_ble_eq_true rfl) (Nat.le_of_ble_eq_true rfl) ?_
          refine y_set (by omega) (by omega) ⟨fun h => by omega, fun h => by omega⟩ ?_
          obtain ⟨ρ63, e_ρ63⟩ : ∃ zz_, zz_ = mu ρ58 31 0 ((22 * l) + 20) (c + (if 0 < ((mu (mu (mu V 11 l 1 (V 11 l 2)) 11 l 2 0) 11 l 3 ((V 11 l 2) + (V 11 l 0))) 11 l 3) then ((mu (mu (mu V 11 l 1 (V 11 l 2)) 11 l 2 0) 11 l 3 ((V 11 l 2) + (V 11 l 0))) 11 l 3) - 1 else 0)) := ⟨_, rfl⟩
          rw [← e_ρ63]
          have Sρ63 : SB t σ0 (mu (mu (mu (mu (mu (mu (mu (mu (mu V 11 l 1 (V 11 l 2)) 11 l 2 0) 11 l 3 ((V 11 l 2) + (V 11 l 0))) 11 l 3 0) 11 l 0 (((mu (mu (mu V 11 l 1 (V 11 l 2)) 11 l 2 0) 11 l 3 ((V 11 l 2) + (V 11 l 0))) 11 l 0) + ((mu (mu (mu V 11 l 1 (V 11 l 2)) 11 l 2 0) 11 l 3 ((V 11 l 2) + (V 11 l 0))) 11 l 1))) 11 l 1 0) 11 l 4 (c + (if 0 < ((mu (mu (mu V 11 l 1 (V 11 l 2)) 11 l 2 0) 11 l 3 ((V 11 l 2) + (V 11 l 0))) 11 l 3) then ((mu (mu (mu V 11 l 1 (V 11 l 2)) 11 l 2 0) 11 l 3 ((V 11 l 2) + (V 11 l 0))) 11 l 3) - 1 else 0))) 11 l 5 (wr ((V 11 l 5) + (c + (if 0 < ((mu (mu (mu V 11 l 1 (V 11 l 2)) 11 l 2 0) 11 l 3 ((V 11 l 2) + (V 11 l 0))) 11 l 3) then ((mu (mu (mu V 11 l 1 (V 11 l 2)) 11 l 2 0) 11 l 3 ((V 11 l 2) + (V 11 l 0))) 11 l 3) - 1 else 0))))) 11 l 6 (c + (if 0 < ((mu (mu (mu V 11 l 1 (V 11 l 2)) 11 l 2 0) 11 l 3 ((V 11 l 2) + (V 11 l 0))) 11 l 3) then ((mu (mu (mu V 11 l 1 (V 11 l 2)) 11 l 2 0) 11 l 3 ((V 11 l 2) + (V 11 l 0))) 11 l 3) - 1 else 0))) ρ63 := by rw [e_ρ63, show ((22 * l) + 20) = 22 * l + 20 from by omega]; exact Sρ58.p11 (by omega) (by omega) (by omega)
          have r16a_ρ63 : ρ63 31 0 (22 * l + 16) = 0 := by rw [e_ρ63]; exact (mu_ne (by omega)).trans r16a_ρ58
          have r17b_ρ63 : ρ63 31 0 (22 * l + 17) = 0 := by rw [e_ρ63]; exact (mu_ne (by omega)).trans r17b_ρ58
          have Xρ63 : KX t l (mu (mu (mu (mu (mu (mu (mu (mu (mu V 11 l 1 (V 11 l 2)) 11 l 2 0) 11 l 3 ((V 11 l 2) + (V 11 l 0))) 11 l 3 0) 11 l 0 (((mu (mu (mu V 11 l 1 (V 11 l 2)) 11 l 2 0) 11 l 3 ((V 11 l 2) + (V 11 l 0))) 11 l 0) + ((mu (mu (mu V 11 l 1 (V 11 l 2)) 11 l 2 0) 11 l 3 ((V 11 l 2) + (V 11 l 0))) 11 l 1))) 11 l 1 0) 11 l 4 (c + (if 0 < ((mu (mu (mu V 11 l 1 (V 11 l 2)) 11 l 2 0) 11 l 3 ((V 11 l 2) + (V 11 l 0))) 11 l 3) then ((mu (mu (mu V 11 l 1 (V 11 l 2)) 11 l 2 0) 11 l 3 ((V 11 l 2) + (V 11 l 0))) 11 l 3) - 1 else 0))) 11 l 5 (wr ((V 11 l 5) + (c + (if 0 < ((mu (mu (mu V 11 l 1 (V 11 l 2)) 11 l 2 0) 11 l 3 ((V 11 l 2) + (V 11 l 0))) 11 l 3) then ((mu (mu (mu V 11 l 1 (V 11 l 2)) 11 l 2 0) 11 l 3 ((V 11 l 2) + (V 11 l 0))) 11 l 3) - 1 else 0))))) 11 l 6 (c + (if 0 < ((mu (mu (mu V 11 l 1 (V 11 l 2)) 11 l 2 0) 11 l 3 ((V 11 l 2) + (V 11 l 0))) 11 l 3) then ((mu (mu (mu V 11 l 1 (V 11 l 2)) 11 l 2 0) 11 l 3 ((V 11 l 2) + (V 11 l 0))) 11 l 3) - 1 else 0))) ρ63 := (Xρ58).e (fun m a b c => by rw [e_ρ63]; exact ⟨mu_ne (by omega), mu_ne (by omega)⟩) (fun m c => mu_ne (by omega))
          have Fρ63 : FB (mu (mu (mu (mu (mu (mu (mu (mu (mu V 11 l 1 (V 11 l 2)) 11 l 2 0) 11 l 3 ((V 11 l 2) + (V 11 l 0))) 11 l 3 0) 11 l 0 (((mu (mu (mu V 11 l 1 (V 11 l 2)) 11 l 2 0) 11 l 3 ((V 11 l 2) + (V 11 l 0))) 11 l 0) + ((mu (mu (mu V 11 l 1 (V 11 l 2)) 11 l 2 0) 11 l 3 ((V 11 l 2) + (V 11 l 0))) 11 l 1))) 11 l 1 0) 11 l 4 (c + (if 0 < ((mu (mu (mu V 11 l 1 (V 11 l 2)) 11 l 2 0) 11 l 3 ((V 11 l 2) + (V 11 l 0))) 11 l 3) then ((mu (mu (mu V 11 l 1 (V 11 l 2)) 11 l 2 0) 11 l 3 ((V 11 l 2) + (V 11 l 0))) 11 l 3) - 1 else 0))) 11 l 5 (wr ((V 11 l 5) + (c + (if 0 < ((mu (mu (mu V 11 l 1 (V 11 l 2)) 11 l 2 0) 11 l 3 ((V 11 l 2) + (V 11 l 0))) 11 l 3) then ((mu (mu (mu V 11 l 1 (V 11 l 2)) 11 l 2 0) 11 l 3 ((V 11 l 2) + (V 11 l 0))) 11 l 3) - 1 else 0))))) 11 l 6 (c + (if 0 < ((mu (mu (mu V 11 l 1 (V 11 l 2)) 11 l 2 0) 11 l 3 ((V 11 l 2) + (V 11 l 0))) 11 l 3) then ((mu (mu (mu V 11 l 1 (V 11 l 2)) 11 l 2 0) 11 l 3 ((V 11 l 2) + (V 11 l 0))) 11 l 3) - 1 else 0))) ρ63 := by rw [e_ρ63]; exact (Fρ58).e (fun l a b => mu_ne (by omega)) |>.v (fun l y a b c => mu_ne (by omega))
          refine r_aload_n hC dX6_endMove_143 rfl ?_
          refine r_iload_n hC dX6_endMove_144 rfl ?_
          refine z_inv1 hM dX6_endMove_145 vl_RX6_191 rfl rfl rfl (Nat.le_of_ble_eq_true rfl) (Nat.le_of_ble_eq_true rfl) ?_
          have hbeg : (V 11 l 1 = 0 ∧ V 11 l 2 > V 11 l 0) := by omega
          have m0 : (mu (mu (mu (mu (mu (mu (mu (mu (mu V 11 l 1 (V 11 l 2)) 11 l 2 0) 11 l 3 ((V 11 l 2) + (V 11 l 0))) 11 l 3 0) 11 l 0 (((mu (mu (mu V 11 l 1 (V 11 l 2)) 11 l 2 0) 11 l 3 ((V 11 l 2) + (V 11 l 0))) 11 l 0) + ((mu (mu (mu V 11 l 1 (V 11 l 2)) 11 l 2 0) 11 l 3 ((V 11 l 2) + (V 11 l 0))) 11 l 1))) 11 l 1 0) 11 l 4 (c + (if 0 < ((mu (mu (mu V 11 l 1 (V 11 l 2)) 11 l 2 0) 11 l 3 ((V 11 l 2) + (V 11 l 0))) 11 l 3) then ((mu (mu (mu V 11 l 1 (V 11 l 2)) 11 l 2 0) 11 l 3 ((V 11 l 2) + (V 11 l 0))) 11 l 3) - 1 else 0))) 11 l 5 (wr ((V 11 l 5) + (c + (if 0 < ((mu (mu (mu V 11 l 1 (V 11 l 2)) 11 l 2 0) 11 l 3 ((V 11 l 2) + (V 11 l 0))) 11 l 3) then ((mu (mu (mu V 11 l 1 (V 11 l 2)) 11 l 2 0) 11 l 3 ((V 11 l 2) + (V 11 l 0))) 11 l 3) - 1 else 0))))) 11 l 6 (c + (if 0 < ((mu (mu (mu V 11 l 1 (V 11 l 2)) 11 l 2 0) 11 l 3 ((V 11 l 2) + (V 11 l 0))) 11 l 3) then ((mu (mu (mu V 11 l 1 (V 11 l 2)) 11 l 2 0) 11 l 3 ((V 11 l 2) + (V 11 l 0))) 11 l 3) - 1 else 0))) 11 l 0 = (if (if (V 11 l 1) = 0 ∧ (V 11 l 2) > (V 11 l 0) then (V 11 l 2) + (V 11 l 0) else (V 11 l 3)) - min 3 (if (V 11 l 1) = 0 ∧ (V 11 l 2) > (V 11 l 0) then (V 11 l 2) + (V 11 l 0) else (V 11 l 3)) = 0 then (V 11 l 0) + (if (V 11 l 1) = 0 ∧ (V 11 l 2) > (V 11 l 0) then (V 11 l 2) else (V 11 l 1)) else (V 11 l 0)) := (show (mu (mu (mu (mu (mu (mu (mu (mu (mu V 11 l 1 (V 11 l 2)) 11 l 2 0) 11 l 3 ((V 11 l 2) + (V 11 l 0))) 11 l 3 0) 11 l 0 (((mu (mu (mu V 11 l 1 (V 11 l 2)) 11 l 2 0) 11 l 3 ((V 11 l 2) + (V 11 l 0))) 11 l 0) + ((mu (mu (mu V 11 l 1 (V 11 l 2)) 11 l 2 0) 11 l 3 ((V 11 l 2) + (V 11 l 0))) 11 l 1))) 11 l 1 0) 11 l 4 (c + (if 0 < ((mu (mu (mu V 11 l 1 (V 11 l 2)) 11 l 2 0) 11 l 3 ((V 11 l 2) + (V 11 l 0))) 11 l 3) then ((mu (mu (mu V 11 l 1 (V 11 l 2)) 11 l 2 0) 11 l 3 ((V 11 l 2) + (V 11 l 0))) 11 l 3) - 1 else 0))) 11 l 5 (wr ((V 11 l 5) + (c + (if 0 < ((mu (mu (mu V 11 l 1 (V 11 l 2)) 11 l 2 0) 11 l 3 ((V 11 l 2) + (V 11 l 0))) 11 l 3) then ((mu (mu (mu V 11 l 1 (V 11 l 2)) 11 l 2 0) 11 l 3 ((V 11 l 2) + (V 11 l 0))) 11 l 3) - 1 else 0))))) 11 l 6 (c + (if 0 < ((mu (mu (mu V 11 l 1 (V 11 l 2)) 11 l 2 0) 11 l 3 ((V 11 l 2) + (V 11 l 0))) 11 l 3) then ((mu (mu (mu V 11 l 1 (V 11 l 2)) 11 l 2 0) 11 l 3 ((V 11 l 2) + (V 11 l 0))) 11 l 3) - 1 else 0))) 11 l 0 = (((mu (mu (mu V 11 l 1 (V 11 l 2)) 11 l 2 0) 11 l 3 ((V 11 l 2) + (V 11 l 0))) 11 l 0) + ((mu (mu (mu V 11 l 1 (V 11 l 2)) 11 l 2 0) 11 l 3 ((V 11 l 2) + (V 11 l 0))) 11 l 1)) from ((mu_ne (by omega)).trans ((mu_ne (by omega)).trans ((mu_ne (by omega)).trans ((mu_ne (by omega)).trans (mu_self _ _ _ _ _)))))).trans (by (repeat' split) <;> omega)
          have m1 : (mu (mu (mu (mu (mu (mu (mu (mu (mu V 11 l 1 (V 11 l 2)) 11 l 2 0) 11 l 3 ((V 11 l 2) + (V 11 l 0))) 11 l 3 0) 11 l 0 (((mu (mu (mu V 11 l 1 (V 11 l 2)) 11 l 2 0) 11 l 3 ((V 11 l 2) + (V 11 l 0))) 11 l 0) + ((mu (mu (mu V 11 l 1 (V 11 l 2)) 11 l 2 0) 11 l 3 ((V 11 l 2) + (V 11 l 0))) 11 l 1))) 11 l 1 0) 11 l 4 (c + (if 0 < ((mu (mu (mu V 11 l 1 (V 11 l 2)) 11 l 2 0) 11 l 3 ((V 11 l 2) + (V 11 l 0))) 11 l 3) then ((mu (mu (mu V 11 l 1 (V 11 l 2)) 11 l 2 0) 11 l 3 ((V 11 l 2) + (V 11 l 0))) 11 l 3) - 1 else 0))) 11 l 5 (wr ((V 11 l 5) + (c + (if 0 < ((mu (mu (mu V 11 l 1 (V 11 l 2)) 11 l 2 0) 11 l 3 ((V 11 l 2) + (V 11 l 0))) 11 l 3) then ((mu (mu (mu V 11 l 1 (V 11 l 2)) 11 l 2 0) 11 l 3 ((V 11 l 2) + (V 11 l 0))) 11 l 3) - 1 else 0))))) 11 l 6 (c + (if 0 < ((mu (mu (mu V 11 l 1 (V 11 l 2)) 11 l 2 0) 11 l 3 ((V 11 l 2) + (V 11 l 0))) 11 l 3) then ((mu (mu (mu V 11 l 1 (V 11 l 2)) 11 l 2 0) 11 l 3 ((V 11 l 2) + (V 11 l 0))) 11 l 3) - 1 else 0))) 11 l 1 = (if (if (V 11 l 1) = 0 ∧ (V 11 l 2) > (V 11 l 0) then (V 11 l 2) + (V 11 l 0) else (V 11 l 3)) - min 3 (if (V 11 l 1) = 0 ∧ (V 11 l 2) > (V 11 l 0) then (V 11 l 2) + (V 11 l 0) else (V 11 l 3)) = 0 then 0 else (if (V 11 l 1) = 0 ∧ (V 11 l 2) > (V 11 l 0) then (V 11 l 2) else (V 11 l 1))) := (show (mu (mu (mu (mu (mu (mu (mu (mu (mu V 11 l 1 (V 11 l 2)) 11 l 2 0) 11 l 3 ((V 11 l 2) + (V 11 l 0))) 11 l 3 0) 11 l 0 (((mu (mu (mu V 11 l 1 (V 11 l 2)) 11 l 2 0) 11 l 3 ((V 11 l 2) + (V 11 l 0))) 11 l 0) + ((mu (mu (mu V 11 l 1 (V 11 l 2)) 11 l 2 0) 11 l 3 ((V 11 l 2) + (V 11 l 0))) 11 l 1))) 11 l 1 0) 11 l 4 (c + (if 0 < ((mu (mu (mu V 11 l 1 (V 11 l 2)) 11 l 2 0) 11 l 3 ((V 11 l 2) + (V 11 l 0))) 11 l 3) then ((mu (mu (mu V 11 l 1 (V 11 l 2)) 11 l 2 0) 11 l 3 ((V 11 l 2) + (V 11 l 0))) 11 l 3) - 1 else 0))) 11 l 5 (wr ((V 11 l 5) + (c + (if 0 < ((mu (mu (mu V 11 l 1 (V 11 l 2)) 11 l 2 0) 11 l 3 ((V 11 l 2) + (V 11 l 0))) 11 l 3) then ((mu (mu (mu V 11 l 1 (V 11 l 2)) 11 l 2 0) 11 l 3 ((V 11 l 2) + (V 11 l 0))) 11 l 3) - 1 else 0))))) 11 l 6 (c + (if 0 < ((mu (mu (mu V 11 l 1 (V 11 l 2)) 11 l 2 0) 11 l 3 ((V 11 l 2) + (V 11 l 0))) 11 l 3) then ((mu (mu (mu V 11 l 1 (V 11 l 2)) 11 l 2 0) 11 l 3 ((V 11 l 2) + (V 11 l 0))) 11 l 3) - 1 else 0))) 11 l 1 = 0 from ((mu_ne (by omega)).trans ((mu_ne (by omega)).trans ((mu_ne (by omega)).trans (mu_self _ _ _ _ _))))).trans (by (repeat' split) <;> omega)
          have m2 : (mu (mu (mu (mu (mu (mu (mu (mu (mu V 11 l 1 (V 11 l 2)) 11 l 2 0) 11 l 3 ((V 11 l 2) + (V 11 l 0))) 11 l 3 0) 11 l 0 (((mu (mu (mu V 11 l 1 (V 11 l 2)) 11 l 2 0) 11 l 3 ((V 11 l 2) + (V 11 l 0))) 11 l 0) + ((mu (mu (mu V 11 l 1 (V 11 l 2)) 11 l 2 0) 11 l 3 ((V 11 l 2) + (V 11 l 0))) 11 l 1))) 11 l 1 0) 11 l 4 (c + (if 0 < ((mu (mu (mu V 11 l 1 (V 11 l 2)) 11 l 2 0) 11 l 3 ((V 11 l 2) + (V 11 l 0))) 11 l 3) then ((mu (mu (mu V 11 l 1 (V 11 l 2)) 11 l 2 0) 11 l 3 ((V 11 l 2) + (V 11 l 0))) 11 l 3) - 1 else 0))) 11 l 5 (wr ((V 11 l 5) + (c + (if 0 < ((mu (mu (mu V 11 l 1 (V 11 l 2)) 11 l 2 0) 11 l 3 ((V 11 l 2) + (V 11 l 0))) 11 l 3) then ((mu (mu (mu V 11 l 1 (V 11 l 2)) 11 l 2 0) 11 l 3 ((V 11 l 2) + (V 11 l 0))) 11 l 3) - 1 else 0))))) 11 l 6 (c + (if 0 < ((mu (mu (mu V 11 l 1 (V 11 l 2)) 11 l 2 0) 11 l 3 ((V 11 l 2) + (V 11 l 0))) 11 l 3) then ((mu (mu (mu V 11 l 1 (V 11 l 2)) 11 l 2 0) 11 l 3 ((V 11 l 2) + (V 11 l 0))) 11 l 3) - 1 else 0))) 11 l 2 = (if (V 11 l 1) = 0 ∧ (V 11 l 2) > (V 11 l 0) then 0 else (V 11 l 2)) := (show (mu (mu (mu (mu (mu (mu (mu (mu (mu V 11 l 1 (V 11 l 2)) 11 l 2 0) 11 l 3 ((V 11 l 2) + (V 11 l 0))) 11 l 3 0) 11 l 0 (((mu (mu (mu V 11 l 1 (V 11 l 2)) 11 l 2 0) 11 l 3 ((V 11 l 2) + (V 11 l 0))) 11 l 0) + ((mu (mu (mu V 11 l 1 (V 11 l 2)) 11 l 2 0) 11 l 3 ((V 11 l 2) + (V 11 l 0))) 11 l 1))) 11 l 1 0) 11 l 4 (c + (if 0 < ((mu (mu (mu V 11 l 1 (V 11 l 2)) 11 l 2 0) 11 l 3 ((V 11 l 2) + (V 11 l 0))) 11 l 3) then ((mu (mu (mu V 11 l 1 (V 11 l 2)) 11 l 2 0) 11 l 3 ((V 11 l 2) + (V 11 l 0))) 11 l 3) - 1 else 0))) 11 l 5 (wr ((V 11 l 5) + (c + (if 0 < ((mu (mu (mu V 11 l 1 (V 11 l 2)) 11 l 2 0) 11 l 3 ((V 11 l 2) + (V 11 l 0))) 11 l 3) then ((mu (mu (mu V 11 l 1 (V 11 l 2)) 11 l 2 0) 11 l 3 ((V 11 l 2) + (V 11 l 0))) 11 l 3) - 1 else 0))))) 11 l 6 (c + (if 0 < ((mu (mu (mu V 11 l 1 (V 11 l 2)) 11 l 2 0) 11 l 3 ((V 11 l 2) + (V 11 l 0))) 11 l 3) then ((mu (mu (mu V 11 l 1 (V 11 l 2)) 11 l 2 0) 11 l 3 ((V 11 l 2) + (V 11 l 0))) 11 l 3) - 1 else 0))) 11 l 2 = 0 from ((mu_ne (by omega)).trans ((mu_ne (by omega)).trans ((mu_ne (by omega)).trans ((mu_ne (by omega)).trans ((mu_ne (by omega)).trans ((mu_ne (by omega)).trans ((mu_ne (by omega)).trans (mu_self _ _ _ _ _))))))))).trans (by (repeat' split) <;> omega)
          have m3 : (mu (mu (mu (mu (mu (mu (mu (mu (mu V 11 l 1 (V 11 l 2)) 11 l 2 0) 11 l 3 ((V 11 l 2) + (V 11 l 0))) 11 l 3 0) 11 l 0 (((mu (mu (mu V 11 l 1 (V 11 l 2)) 11 l 2 0) 11 l 3 ((V 11 l 2) + (V 11 l 0))) 11 l 0) + ((mu (mu (mu V 11 l 1 (V 11 l 2)) 11 l 2 0) 11 l 3 ((V 11 l 2) + (V 11 l 0))) 11 l 1))) 11 l 1 0) 11 l 4 (c + (if 0 < ((mu (mu (mu V 11 l 1 (V 11 l 2)) 11 l 2 0) 11 l 3 ((V 11 l 2) + (V 11 l 0))) 11 l 3) then ((mu (mu (mu V 11 l 1 (V 11 l 2)) 11 l 2 0) 11 l 3 ((V 11 l 2) + (V 11 l 0))) 11 l 3) - 1 else 0))) 11 l 5 (wr ((V 11 l 5) + (c + (if 0 < ((mu (mu (mu V 11 l 1 (V 11 l 2)) 11 l 2 0) 11 l 3 ((V 11 l 2) + (V 11 l 0))) 11 l 3) then ((mu (mu (mu V 11 l 1 (V 11 l 2)) 11 l 2 0) 11 l 3 ((V 11 l 2) + (V 11 l 0))) 11 l 3) - 1 else 0))))) 11 l 6 (c + (if 0 < ((mu (mu (mu V 11 l 1 (V 11 l 2)) 11 l 2 0) 11 l 3 ((V 11 l 2) + (V 11 l 0))) 11 l 3) then ((mu (mu (mu V 11 l 1 (V 11 l 2)) 11 l 2 0) 11 l 3 ((V 11 l 2) + (V 11 l 0))) 11 l 3) - 1 else 0))) 11 l 3 = ((if (V 11 l 1) = 0 ∧ (V 11 l 2) > (V 11 l 0) then (V 11 l 2) + (V 11 l 0) else (V 11 l 3)) - min 3 (if (V 11 l 1) = 0 ∧ (V 11 l 2) > (V 11 l 0) then (V 11 l 2) + (V 11 l 0) else (V 11 l 3))) := (show (mu (mu (mu (mu (mu (mu (mu (mu (mu V 11 l 1 (V 11 l 2)) 11 l 2 0) 11 l 3 ((V 11 l 2) + (V 11 l 0))) 11 l 3 0) 11 l 0 (((mu (mu (mu V 11 l 1 (V 11 l 2)) 11 l 2 0) 11 l 3 ((V 11 l 2) + (V 11 l 0))) 11 l 0) + ((mu (mu (mu V 11 l 1 (V 11 l 2)) 11 l 2 0) 11 l 3 ((V 11 l 2) + (V 11 l 0))) 11 l 1))) 11 l 1 0) 11 l 4 (c + (if 0 < ((mu (mu (mu V 11 l 1 (V 11 l 2)) 11 l 2 0) 11 l 3 ((V 11 l 2) + (V 11 l 0))) 11 l 3) then ((mu (mu (mu V 11 l 1 (V 11 l 2)) 11 l 2 0) 11 l 3 ((V 11 l 2) + (V 11 l 0))) 11 l 3) - 1 else 0))) 11 l 5 (wr ((V 11 l 5) + (c + (if 0 < ((mu (mu (mu V 11 l 1 (V 11 l 2)) 11 l 2 0) 11 l 3 ((V 11 l 2) + (V 11 l 0))) 11 l 3) then ((mu (mu (mu V 11 l 1 (V 11 l 2)) 11 l 2 0) 11 l 3 ((V 11 l 2) + (V 11 l 0))) 11 l 3) - 1 else 0))))) 11 l 6 (c + (if 0 < ((mu (mu (mu V 11 l 1 (V 11 l 2)) 11 l 2 0) 11 l 3 ((V 11 l 2) + (V 11 l 0))) 11 l 3) then ((mu (mu (mu V 11 l 1 (V 11 l 2)) 11 l 2 0) 11 l 3 ((V 11 l 2) + (V 11 l 0))) 11 l 3) - 1 else 0))) 11 l 3 = 0 from ((mu_ne (by omega)).trans ((mu_ne (by omega)).trans ((mu_ne (by omega)).trans ((mu_ne (by omega)).trans ((mu_ne (by omega)).trans (mu_self _ _ _ _ _))))))).trans (by (repeat' split) <;> omega)
          have m4 : (mu (mu (mu (mu (mu (mu (mu (mu (mu V 11 l 1 (V 11 l 2)) 11 l 2 0) 11 l 3 ((V 11 l 2) + (V 11 l 0))) 11 l 3 0) 11 l 0 (((mu (mu (mu V 11 l 1 (V 11 l 2)) 11 l 2 0) 11 l 3 ((V 11 l 2) + (V 11 l 0))) 11 l 0) + ((mu (mu (mu V 11 l 1 (V 11 l 2)) 11 l 2 0) 11 l 3 ((V 11 l 2) + (V 11 l 0))) 11 l 1))) 11 l 1 0) 11 l 4 (c + (if 0 < ((mu (mu (mu V 11 l 1 (V 11 l 2)) 11 l 2 0) 11 l 3 ((V 11 l 2) + (V 11 l 0))) 11 l 3) then ((mu (mu (mu V 11 l 1 (V 11 l 2)) 11 l 2 0) 11 l 3 ((V 11 l 2) + (V 11 l 0))) 11 l 3) - 1 else 0))) 11 l 5 (wr ((V 11 l 5) + (c + (if 0 < ((mu (mu (mu V 11 l 1 (V 11 l 2)) 11 l 2 0) 11 l 3 ((V 11 l 2) + (V 11 l 0))) 11 l 3) then ((mu (mu (mu V 11 l 1 (V 11 l 2)) 11 l 2 0) 11 l 3 ((V 11 l 2) + (V 11 l 0))) 11 l 3) - 1 else 0))))) 11 l 6 (c + (if 0 < ((mu (mu (mu V 11 l 1 (V 11 l 2)) 11 l 2 0) 11 l 3 ((V 11 l 2) + (V 11 l 0))) 11 l 3) then ((mu (mu (mu V 11 l 1 (V 11 l 2)) 11 l 2 0) 11 l 3 ((V 11 l 2) + (V 11 l 0))) 11 l 3) - 1 else 0))) 11 l 4 = (((if (V 11 l 1) = 0 ∧ (V 11 l 2) > (V 11 l 0) then c - 1 else c) + min 3 (if (V 11 l 1) = 0 ∧ (V 11 l 2) > (V 11 l 0) then (V 11 l 2) + (V 11 l 0) else (V 11 l 3)))) := (show (mu (mu (mu (mu (mu (mu (mu (mu (mu V 11 l 1 (V 11 l 2)) 11 l 2 0) 11 l 3 ((V 11 l 2) + (V 11 l 0))) 11 l 3 0) 11 l 0 (((mu (mu (mu V 11 l 1 (V 11 l 2)) 11 l 2 0) 11 l 3 ((V 11 l 2) + (V 11 l 0))) 11 l 0) + ((mu (mu (mu V 11 l 1 (V 11 l 2)) 11 l 2 0) 11 l 3 ((V 11 l 2) + (V 11 l 0))) 11 l 1))) 11 l 1 0) 11 l 4 (c + (if 0 < ((mu (mu (mu V 11 l 1 (V 11 l 2)) 11 l 2 0) 11 l 3 ((V 11 l 2) + (V 11 l 0))) 11 l 3) then ((mu (mu (mu V 11 l 1 (V 11 l 2)) 11 l 2 0) 11 l 3 ((V 11 l 2) + (V 11 l 0))) 11 l 3) - 1 else 0))) 11 l 5 (wr ((V 11 l 5) + (c + (if 0 < ((mu (mu (mu V 11 l 1 (V 11 l 2)) 11 l 2 0) 11 l 3 ((V 11 l 2) + (V 11 l 0))) 11 l 3) then ((mu (mu (mu V 11 l 1 (V 11 l 2)) 11 l 2 0) 11 l 3 ((V 11 l 2) + (V 11 l 0))) 11 l 3) - 1 else 0))))) 11 l 6 (c + (if 0 < ((mu (mu (mu V 11 l 1 (V 11 l 2)) 11 l 2 0) 11 l 3 ((V 11 l 2) + (V 11 l 0))) 11 l 3) then ((mu (mu (mu V 11 l 1 (V 11 l 2)) 11 l 2 0) 11 l 3 ((V 11 l 2) + (V 11 l 0))) 11 l 3) - 1 else 0))) 11 l 4 = (c + (if 0 < ((mu (mu (mu V 11 l 1 (V 11 l 2)) 11 l 2 0) 11 l 3 ((V 11 l 2) + (V 11 l 0))) 11 l 3) then ((mu (mu (mu V 11 l 1 (V 11 l 2)) 11 l 2 0) 11 l 3 ((V 11 l 2) + (V 11 l 0))) 11 l 3) - 1 else 0)) from ((mu_ne (by omega)).trans ((mu_ne (by omega)).trans (mu_self _ _ _ _ _)))).trans (by (repeat' split) <;> omega)
          have m5 : (mu (mu (mu (mu (mu (mu (mu (mu (mu V 11 l 1 (V 11 l 2)) 11 l 2 0) 11 l 3 ((V 11 l 2) + (V 11 l 0))) 11 l 3 0) 11 l 0 (((mu (mu (mu V 11 l 1 (V 11 l 2)) 11 l 2 0) 11 l 3 ((V 11 l 2) + (V 11 l 0))) 11 l 0) + ((mu (mu (mu V 11 l 1 (V 11 l 2)) 11 l 2 0) 11 l 3 ((V 11 l 2) + (V 11 l 0))) 11 l 1))) 11 l 1 0) 11 l 4 (c + (if 0 < ((mu (mu (mu V 11 l 1 (V 11 l 2)) 11 l 2 0) 11 l 3 ((V 11 l 2) + (V 11 l 0))) 11 l 3) then ((mu (mu (mu V 11 l 1 (V 11 l 2)) 11 l 2 0) 11 l 3 ((V 11 l 2) + (V 11 l 0))) 11 l 3) - 1 else 0))) 11 l 5 (wr ((V 11 l 5) + (c + (if 0 < ((mu (mu (mu V 11 l 1 (V 11 l 2)) 11 l 2 0) 11 l 3 ((V 11 l 2) + (V 11 l 0))) 11 l 3) then ((mu (mu (mu V 11 l 1 (V 11 l 2)) 11 l 2 0) 11 l 3 ((V 11 l 2) + (V 11 l 0))) 11 l 3) - 1 else 0))))) 11 l 6 (c + (if 0 < ((mu (mu (mu V 11 l 1 (V 11 l 2)) 11 l 2 0) 11 l 3 ((V 11 l 2) + (V 11 l 0))) 11 l 3) then ((mu (mu (mu V 11 l 1 (V 11 l 2)) 11 l 2 0) 11 l 3 ((V 11 l 2) + (V 11 l 0))) 11 l 3) - 1 else 0))) 11 l 5 = (wr ((V 11 l 5) + ((if (V 11 l 1) = 0 ∧ (V 11 l 2) > (V 11 l 0) then c - 1 else c) + min 3 (if (V 11 l 1) = 0 ∧ (V 11 l 2) > (V 11 l 0) then (V 11 l 2) + (V 11 l 0) else (V 11 l 3))))) := (show (mu (mu (mu (mu (mu (mu (mu (mu (mu V 11 l 1 (V 11 l 2)) 11 l 2 0) 11 l 3 ((V 11 l 2) + (V 11 l 0))) 11 l 3 0) 11 l 0 (((mu (mu (mu V 11 l 1 (V 11 l 2)) 11 l 2 0) 11 l 3 ((V 11 l 2) + (V 11 l 0))) 11 l 0) + ((mu (mu (mu V 11 l 1 (V 11 l 2)) 11 l 2 0) 11 l 3 ((V 11 l 2) + (V 11 l 0))) 11 l 1))) 11 l 1 0) 11 l 4 (c + (if 0 < ((mu (mu (mu V 11 l 1 (V 11 l 2)) 11 l 2 0) 11 l 3 ((V 11 l 2) + (V 11 l 0))) 11 l 3) then ((mu (mu (mu V 11 l 1 (V 11 l 2)) 11 l 2 0) 11 l 3 ((V 11 l 2) + (V 11 l 0))) 11 l 3) - 1 else 0))) 11 l 5 (wr ((V 11 l 5) + (c + (if 0 < ((mu (mu (mu V 11 l 1 (V 11 l 2)) 11 l 2 0) 11 l 3 ((V 11 l 2) + (V 11 l 0))) 11 l 3) then ((mu (mu (mu V 11 l 1 (V 11 l 2)) 11 l 2 0) 11 l 3 ((V 11 l 2) + (V 11 l 0))) 11 l 3) - 1 else 0))))) 11 l 6 (c + (if 0 < ((mu (mu (mu V 11 l 1 (V 11 l 2)) 11 l 2 0) 11 l 3 ((V 11 l 2) + (V 11 l 0))) 11 l 3) then ((mu (mu (mu V 11 l 1 (V 11 l 2)) 11 l 2 0) 11 l 3 ((V 11 l 2) + (V 11 l 0))) 11 l 3) - 1 else 0))) 11 l 5 = wr ((V 11 l 5) + (c + (if 0 < ((mu (mu (mu V 11 l 1 (V 11 l 2)) 11 l 2 0) 11 l 3 ((V 11 l 2) + (V 11 l 0))) 11 l 3) then ((mu (mu (mu V 11 l 1 (V 11 l 2)) 11 l 2 0) 11 l 3 ((V 11 l 2) + (V 11 l 0))) 11 l 3) - 1 else 0))) from ((mu_ne (by omega)).trans (mu_self _ _ _ _ _))).trans (congrArg wr (by simp only [if_pos hbeg]; (repeat' split) <;> omega))
          have m6 : (mu (mu (mu (mu (mu (mu (mu (mu (mu V 11 l 1 (V 11 l 2)) 11 l 2 0) 11 l 3 ((V 11 l 2) + (V 11 l 0))) 11 l 3 0) 11 l 0 (((mu (mu (mu V 11 l 1 (V 11 l 2)) 11 l 2 0) 11 l 3 ((V 11 l 2) + (V 11 l 0))) 11 l 0) + ((mu (mu (mu V 11 l 1 (V 11 l 2)) 11 l 2 0) 11 l 3 ((V 11 l 2) + (V 11 l 0))) 11 l 1))) 11 l 1 0) 11 l 4 (c + (if 0 < ((mu (mu (mu V 11 l 1 (V 11 l 2)) 11 l 2 0) 11 l 3 ((V 11 l 2) + (V 11 l 0))) 11 l 3) then ((mu (mu (mu V 11 l 1 (V 11 l 2)) 11 l 2 0) 11 l 3 ((V 11 l 2) + (V 11 l 0))) 11 l 3) - 1 else 0))) 11 l 5 (wr ((V 11 l 5) + (c + (if 0 < ((mu (mu (mu V 11 l 1 (V 11 l 2)) 11 l 2 0) 11 l 3 ((V 11 l 2) + (V 11 l 0))) 11 l 3) then ((mu (mu (mu V 11 l 1 (V 11 l 2)) 11 l 2 0) 11 l 3 ((V 11 l 2) + (V 11 l 0))) 11 l 3) - 1 else 0))))) 11 l 6 (c + (if 0 < ((mu (mu (mu V 11 l 1 (V 11 l 2)) 11 l 2 0) 11 l 3 ((V 11 l 2) + (V 11 l 0))) 11 l 3) then ((mu (mu (mu V 11 l 1 (V 11 l 2)) 11 l 2 0) 11 l 3 ((V 11 l 2) + (V 11 l 0))) 11 l 3) - 1 else 0))) 11 l 6 = (max (V 11 l 6) ((if (V 11 l 1) = 0 ∧ (V 11 l 2) > (V 11 l 0) then c - 1 else c) + min 3 (if (V 11 l 1) = 0 ∧ (V 11 l 2) > (V 11 l 0) then (V 11 l 2) + (V 11 l 0) else (V 11 l 3)))) := (show (mu (mu (mu (mu (mu (mu (mu (mu (mu V 11 l 1 (V 11 l 2)) 11 l 2 0) 11 l 3 ((V 11 l 2) + (V 11 l 0))) 11 l 3 0) 11 l 0 (((mu (mu (mu V 11 l 1 (V 11 l 2)) 11 l 2 0) 11 l 3 ((V 11 l 2) + (V 11 l 0))) 11 l 0) + ((mu (mu (mu V 11 l 1 (V 11 l 2)) 11 l 2 0) 11 l 3 ((V 11 l 2) + (V 11 l 0))) 11 l 1))) 11 l 1 0) 11 l 4 (c + (if 0 < ((mu (mu (mu V 11 l 1 (V 11 l 2)) 11 l 2 0) 11 l 3 ((V 11 l 2) + (V 11 l 0))) 11 l 3) then ((mu (mu (mu V 11 l 1 (V 11 l 2)) 11 l 2 0) 11 l 3 ((V 11 l 2) + (V 11 l 0))) 11 l 3) - 1 else 0))) 11 l 5 (wr ((V 11 l 5) + (c + (if 0 < ((mu (mu (mu V 11 l 1 (V 11 l 2)) 11 l 2 0) 11 l 3 ((V 11 l 2) + (V 11 l 0))) 11 l 3) then ((mu (mu (mu V 11 l 1 (V 11 l 2)) 11 l 2 0) 11 l 3 ((V 11 l 2) + (V 11 l 0))) 11 l 3) - 1 else 0))))) 11 l 6 (c + (if 0 < ((mu (mu (mu V 11 l 1 (V 11 l 2)) 11 l 2 0) 11 l 3 ((V 11 l 2) + (V 11 l 0))) 11 l 3) then ((mu (mu (mu V 11 l 1 (V 11 l 2)) 11 l 2 0) 11 l 3 ((V 11 l 2) + (V 11 l 0))) 11 l 3) - 1 else 0))) 11 l 6 = (c + (if 0 < ((mu (mu (mu V 11 l 1 (V 11 l 2)) 11 l 2 0) 11 l 3 ((V 11 l 2) + (V 11 l 0))) 11 l 3) then ((mu (mu (mu V 11 l 1 (V 11 l 2)) 11 l 2 0) 11 l 3 ((V 11 l 2) + (V 11 l 0))) 11 l 3) - 1 else 0)) from (mu_self _ _ _ _ _)).trans (by (repeat' split) <;> omega)
          have hV : (mu (mu (mu (mu (mu (mu (mu (mu (mu V 11 l 1 (V 11 l 2)) 11 l 2 0) 11 l 3 ((V 11 l 2) + (V 11 l 0))) 11 l 3 0) 11 l 0 (((mu (mu (mu V 11 l 1 (V 11 l 2)) 11 l 2 0) 11 l 3 ((V 11 l 2) + (V 11 l 0))) 11 l 0) + ((mu (mu (mu V 11 l 1 (V 11 l 2)) 11 l 2 0) 11 l 3 ((V 11 l 2) + (V 11 l 0))) 11 l 1))) 11 l 1 0) 11 l 4 (c + (if 0 < ((mu (mu (mu V 11 l 1 (V 11 l 2)) 11 l 2 0) 11 l 3 ((V 11 l 2) + (V 11 l 0))) 11 l 3) then ((mu (mu (mu V 11 l 1 (V 11 l 2)) 11 l 2 0) 11 l 3 ((V 11 l 2) + (V 11 l 0))) 11 l 3) - 1 else 0))) 11 l 5 (wr ((V 11 l 5) + (c + (if 0 < ((mu (mu (mu V 11 l 1 (V 11 l 2)) 11 l 2 0) 11 l 3 ((V 11 l 2) + (V 11 l 0))) 11 l 3) then ((mu (mu (mu V 11 l 1 (V 11 l 2)) 11 l 2 0) 11 l 3 ((V 11 l 2) + (V 11 l 0))) 11 l 3) - 1 else 0))))) 11 l 6 (c + (if 0 < ((mu (mu (mu V 11 l 1 (V 11 l 2)) 11 l 2 0) 11 l 3 ((V 11 l 2) + (V 11 l 0))) 11 l 3) then ((mu (mu (mu V 11 l 1 (V 11 l 2)) 11 l 2 0) 11 l 3 ((V 11 l 2) + (V 11 l 0))) 11 l 3) - 1 else 0))) = (su V 11 l (emR c (V 11 l))) := mu7 (fun c2 x y h => (mu_ne (by omega)).trans ((mu_ne (by omega)).trans ((mu_ne (by omega)).trans ((mu_ne (by omega)).trans ((mu_ne (by omega)).trans ((mu_ne (by omega)).trans ((mu_ne (by omega)).trans ((mu_ne (by omega)).trans ((mu_ne (by omega)).trans (rfl)))))))))) m0 m1 m2 m3 m4 m5 m6
          have qS := Sρ63
          have qX := Xρ63
          have qF := Fρ63
          rw [hV] at qS qX qF
          have q16 : 0 = (if (su V 11 l (emR c (V 11 l))) 11 l 3 = 0 then (0 : Int) else 1) := by rw [← hV, m3]; simp only [if_pos hbeg]; (repeat' split) <;> omega
          have qR : RS t σ0 (su V 11 l (emR c (V 11 l))) ρ63 := ⟨qS, qX.kf (r16a_ρ63.trans q16) r17b_ρ63, qF⟩
          have qL : LK (su V 11 l (emR c (V 11 l))) l := hL.to (fun c2 x y h => su_ne (by omega))
          refine y_look (V := (su V 11 l (emR c (V 11 l)))) (by omega) ht qR (by omega) qL (fun ρ64 Rρ64 => ?_)
          refine y_vret hK rfl dX6_endMove_148 ?_
          exact k _ Rρ64
