-- B: ends of MOVES, wide
theorem y_goFlipW {eb : Bool} {t : Int} {V : Mm} {d : Nat} {P : Option Vl → Mm → Prop} {σ : Mm} {l : Int} (b_l : 0 ≤ l ∧ l ≤ 7) {σ0 : Mm} {fl fr : Int} (ht : 6 ≤ t ∧ t ≤ 7) (hS : SB t σ0 V σ) (hX : KX t l V σ) (hFB : FB V σ) (hl : l ≤ t) (hb : (0 ≤ V 11 l 0 ∧ V 11 l 0 ≤ 400) ∧ (0 ≤ V 11 l 1 ∧ V 11 l 1 ≤ 400) ∧ (0 ≤ V 11 l 2 ∧ V 11 l 2 ≤ 400) ∧ 0 ≤ V 11 l 3 ∧ V 11 l 3 ≤ 1000) (hfr : 0 ≤ fr ∧ fr ≤ 1) (h16 : σ 31 0 (22 * l + 16) = 1) (h17 : σ 31 0 (22 * l + 17) = fr)  (k1 : 3 < V 11 l 3 → ∀ ρ : Mm, SB t σ0 (mu V 11 l 3 (V 11 l 3 - 3)) ρ → KX t l (mu V 11 l 3 (V 11 l 3 - 3)) ρ → FB (mu V 11 l 3 (V 11 l 3 - 3)) ρ → ρ 31 0 (22 * l + 16) = 1 → ρ 31 0 (22 * l + 17) = 0 → P (some (vI (3 - fr))) ρ) (k0 : V 11 l 3 ≤ 3 → ∀ ρ : Mm, SB t σ0 (mu (mu (mu V 11 l 3 0) 11 l 0 (V 11 l 0 + V 11 l 1)) 11 l 1 0) ρ → KX t l (mu (mu (mu V 11 l 3 0) 11 l 0 (V 11 l 0 + V 11 l 1)) 11 l 1 0) ρ → FB (mu (mu (mu V 11 l 3 0) 11 l 0 (V 11 l 0 + V 11 l 1)) 11 l 1 0) ρ → ρ 31 0 (22 * l + 16) = 0 → ρ 31 0 (22 * l + 17) = (if 0 < V 11 l 3 then 0 else fr) → P (some (vI (if 0 < V 11 l 3 then V 11 l 3 - fr else 0))) ρ) : WT (true, eb, true) (d + 2) 178 [vR 30 0, vI l] σ P := by
  refine WT_in fun K hK => ?_
  have hK : StpY (true, eb, true) cX6_goFlip RX6 (some .int) (WT (true, eb, true) (d + 1)) P K := hK
  have hM := hK.1
  have hC := hK.1.1
  show K 0 [some (vR 30 0), some (vI l), none, none] [] σ
  refine r_aload_n hC dX6_goFlip_0 rfl ?_
  refine r_iload_n hC dX6_goFlip_1 rfl ?_
  refine r_bipush hC dX6_goFlip_2 rfl ?_
  refine z_inv2 hM dX6_goFlip_4 vl_RX6_80 rfl rfl rfl (Nat.le_of_ble_eq_true rfl) (Nat.le_of_ble_eq_true rfl) ?_
  refine y_of (by first | assumption | decide | exact xs_ (by decide) | exact xc_ (by decide) | exact x31_ (by decide) | omega) (by first | assumption | decide | exact xs_ (by decide) | exact xc_ (by decide) | exact x31_ (by decide) | omega) (by first | assumption | decide | exact xs_ (by decide) | exact xc_ (by decide) | exact x31_ (by decide) | omega) (fun o1 => ?_)
  have e2 : σ 31 0 (22 * l + 15) = (V 11 l 3) := (hS.a11 (s := 3) (f := 15) (by first | assumption | decide | exact xs_ (by decide) | exact xc_ (by decide) | exact x31_ (by decide) | omega) (by first | assumption | decide | exact xs_ (by decide) | exact xc_ (by decide) | exact x31_ (by decide) | omega) (by first | assumption | decide | exact xs_ (by decide) | exact xc_ (by decide) | exact x31_ (by decide) | omega)).trans (rfl)
  rw [e2] at o1 ⊢
  refine r_iconst hC dX6_goFlip_7 rfl ?_
  refine r_icmp_ge (tgt := 21) hC dX6_goFlip_8 rfl (fun h3 => ?_) (fun h3 => ?_)
  · refine r_iconst hC dX6_goFlip_21 rfl ?_
    refine r_istore_n hC dX6_goFlip_22 rfl ?_
    refine r_iload_n hC dX6_goFlip_23 rfl ?_
    refine r_if_le (tgt := 39) hC dX6_goFlip_24 rfl (fun h4 => by omega) (fun h4 => ?_)
    refine r_iload_n hC dX6_goFlip_27 rfl ?_
    refine r_aload_n hC dX6_goFlip_28 rfl ?_
    refine r_iload_n hC dX6_goFlip_29 rfl ?_
    refine r_bipush hC dX6_goFlip_30 rfl ?_
    refine z_inv2 hM dX6_goFlip_32 vl_RX6_80 rfl rfl rfl (Nat.le_of_ble_eq_true rfl) (Nat.le_of_ble_eq_true rfl) ?_
    refine y_of (by first | assumption | decide | exact xs_ (by decide) | exact xc_ (by decide) | exact x31_ (by decide) | omega) (by first | assumption | decide | exact xs_ (by decide) | exact xc_ (by decide) | exact x31_ (by decide) | omega) (by first | assumption | decide | exact xs_ (by decide) | exact xc_ (by decide) | exact x31_ (by decide) | omega) (fun o5 => ?_)
    rw [h17]
    refine r_isubE hC ((3 - fr)) dX6_goFlip_35 (by first | assumption | decide | exact xs_ (by decide) | exact xc_ (by decide) | exact x31_ (by decide) | omega) (by unfold inR; omega) ?_
    refine r_goto (tgt := 40) hC dX6_goFlip_36 rfl ?_
    refine r_istore_n hC dX6_goFlip_40 rfl ?_
    refine r_iload_n hC dX6_goFlip_41 rfl ?_
    refine r_if_le (tgt := 53) hC dX6_goFlip_42 rfl (fun h6 => by omega) (fun h6 => ?_)
    refine r_aload_n hC dX6_goFlip_45 rfl ?_
    refine r_iload_n hC dX6_goFlip_46 rfl ?_
    refine r_bipush hC dX6_goFlip_47 rfl ?_
    refine r_iconst hC dX6_goFlip_49 rfl ?_
    refine z_inv3 hM dX6_goFlip_50 vl_RX6_173 rfl rfl rfl (Nat.le_of_ble_eq_true rfl) (Nat.le_of_ble_eq_true rfl) ?_
    refine y_set (by first | assumption | decide | exact xs_ (by decide) | exact xc_ (by decide) | exact x31_ (by decide) | omega) (by first | assumption | decide | exact xs_ (by decide) | exact xc_ (by decide) | exact x31_ (by decide) | omega) ⟨fun h => by omega, fun h => by omega⟩ ?_
    obtain ⟨ρ7, e_ρ7⟩ : ∃ zz_, zz_ = mu σ 31 0 ((22 * l) + 17) 0 := ⟨_, rfl⟩
    rw [← e_ρ7]
    have Sρ7 : SB t σ0 V ρ7 := by rw [e_ρ7, show ((22 * l) + 17) = 22 * l + 17 from by omega]; exact hS.px (by first | assumption | decide | exact xs_ (by decide) | exact xc_ (by decide) | exact x31_ (by decide) | omega)
    have r16a_ρ7 : ρ7 31 0 (22 * l + 16) = 1 := by rw [e_ρ7]; exact (mu_ne (by first | assumption | decide | exact xs_ (by decide) | exact xc_ (by decide) | exact x31_ (by decide) | omega)).trans h16
    have r17b_ρ7 : ρ7 31 0 (22 * l + 17) = 0 := by rw [e_ρ7, show ((22 * l) + 17) = 22 * l + 17 from by omega]; exact mu_self _ _ _ _ _
    have Xρ7 : KX t l V ρ7 := (hX).e (fun m a b c => by rw [e_ρ7]; exact ⟨mu_ne (by first | assumption | decide | exact xs_ (by decide) | exact xc_ (by decide) | exact x31_ (by decide) | omega), mu_ne (by first | assumption | decide | exact xs_ (by decide) | exact xc_ (by decide) | exact x31_ (by decide) | omega)⟩) (fun m c => rfl)
    have Fρ7 : FB V ρ7 := by rw [e_ρ7]; exact (hFB).e (fun l a b => mu_ne (by first | assumption | decide | exact xs_ (by decide) | exact xc_ (by decide) | exact x31_ (by decide) | omega))
    refine r_aload_n hC dX6_goFlip_53 rfl ?_
    refine r_iload_n hC dX6_goFlip_54 rfl ?_
    refine r_bipush hC dX6_goFlip_55 rfl ?_
    refine r_iload_n hC dX6_goFlip_57 rfl ?_
    refine r_inegS hC dX6_goFlip_58 (by unfold inR; omega) ?_
    refine z_inv3 hM dX6_goFlip_59 vl_RX6_188 rfl rfl rfl (Nat.le_of_ble_eq_true rfl) (Nat.le_of_ble_eq_true rfl) ?_
    refine y_moreE (a := (V 11 l 3)) (by first | assumption | decide | exact xs_ (by decide) | exact xc_ (by decide) | exact x31_ (by decide) | omega) (by first | assumption | decide | exact xs_ (by decide) | exact xc_ (by decide) | exact x31_ (by decide) | omega) (by first | assumption | decide | exact xs_ (by decide) | exact xc_ (by decide) | exact x31_ (by decide) | omega) ⟨fun h => by omega, by omega⟩ ((Sρ7.a11 (s := 3) (f := 15) (by first | assumption | decide | exact xs_ (by decide) | exact xc_ (by decide) | exact x31_ (by decide) | omega) (by first | assumption | decide | exact xs_ (by decide) | exact xc_ (by decide) | exact x31_ (by decide) | omega) (by first | assumption | decide | exact xs_ (by decide) | exact xc_ (by decide) | exact x31_ (by decide) | omega)).trans (rfl)) (by first | assumption | decide | exact xs_ (by decide) | exact xc_ (by decide) | exact x31_ (by decide) | omega) ?_
    rw [show (V 11 l 3) + (-3) = ((V 11 l 3) + (-3)) from by omega]
    obtain ⟨ρ8, e_ρ8⟩ : ∃ zz_, zz_ = mu ρ7 31 0 ((22 * l) + 15) ((V 11 l 3) + (-3)) := ⟨_, rfl⟩
    rw [← e_ρ8]
    have Sρ8 : SB t σ0 (mu V 11 l 3 ((V 11 l 3) + (-3))) ρ8 := by rw [e_ρ8, show ((22 * l) + 15) = 22 * l + 15 from by omega]; exact Sρ7.p11 (by first | assumption | decide | exact xs_ (by decide) | exact xc_ (by decide) | exact x31_ (by decide) | omega) (by first | assumption | decide | exact xs_ (by decide) | exact xc_ (by decide) | exact x31_ (by decide) | omega) (by first | assumption | decide | exact xs_ (by decide) | exact xc_ (by decide) | exact x31_ (by decide) | omega)
    have r16a_ρ8 : ρ8 31 0 (22 * l + 16) = 1 := by rw [e_ρ8]; exact (mu_ne (by first | assumption | decide | exact xs_ (by decide) | exact xc_ (by decide) | exact x31_ (by decide) | omega)).trans r16a_ρ7
    have r17b_ρ8 : ρ8 31 0 (22 * l + 17) = 0 := by rw [e_ρ8]; exact (mu_ne (by first | assumption | decide | exact xs_ (by decide) | exact xc_ (by decide) | exact x31_ (by decide) | omega)).trans r17b_ρ7
    have Xρ8 : KX t l (mu V 11 l 3 ((V 11 l 3) + (-3))) ρ8 := (Xρ7).e (fun m a b c => by rw [e_ρ8]; exact ⟨mu_ne (by first | assumption | decide | exact xs_ (by decide) | exact xc_ (by decide) | exact x31_ (by decide) | omega), mu_ne (by first | assumption | decide | exact xs_ (by decide) | exact xc_ (by decide) | exact x31_ (by decide) | omega)⟩) (fun m c => mu_ne (by first | assumption | decide | exact xs_ (by decide) | exact xc_ (by decide) | exact x31_ (by decide) | omega))
    have Fρ8 : FB (mu V 11 l 3 ((V 11 l 3) + (-3))) ρ8 := by rw [e_ρ8]; exact (Fρ7).e (fun l a b => mu_ne (by first | assumption | decide | exact xs_ (by decide) | exact xc_ (by decide) | exact x31_ (by decide) | omega)) |>.v (fun l y a b c => mu_ne (by first | assumption | decide | exact xs_ (by decide) | exact xc_ (by decide) | exact x31_ (by decide) | omega))
    refine r_aload_n hC dX6_goFlip_62 rfl ?_
    refine r_iload_n hC dX6_goFlip_63 rfl ?_
    refine r_bipush hC dX6_goFlip_64 rfl ?_
    refine z_inv2 hM dX6_goFlip_66 vl_RX6_80 rfl rfl rfl (Nat.le_of_ble_eq_true rfl) (Nat.le_of_ble_eq_true rfl) ?_
    refine y_of (by first | assumption | decide | exact xs_ (by decide) | exact xc_ (by decide) | exact x31_ (by decide) | omega) (by first | assumption | decide | exact xs_ (by decide) | exact xc_ (by decide) | exact x31_ (by decide) | omega) (by first | assumption | decide | exact xs_ (by decide) | exact xc_ (by decide) | exact x31_ (by decide) | omega) (fun o9 => ?_)
    have e10 : ρ8 31 0 (22 * l + 15) = ((V 11 l 3) + (-3)) := (Sρ8.a11 (s := 3) (f := 15) (by first | assumption | decide | exact xs_ (by decide) | exact xc_ (by decide) | exact x31_ (by decide) | omega) (by first | assumption | decide | exact xs_ (by decide) | exact xc_ (by decide) | exact x31_ (by decide) | omega) (by first | assumption | decide | exact xs_ (by decide) | exact xc_ (by decide) | exact x31_ (by decide) | omega)).trans (mu_self _ _ _ _ _)
    rw [e10] at o9 ⊢
    refine r_if_le (tgt := 74) hC dX6_goFlip_69 rfl (fun h11 => ?_) (fun h11 => ?_)
    · refine r_aload_n hC dX6_goFlip_74 rfl ?_
      refine r_iload_n hC dX6_goFlip_75 rfl ?_
      refine r_bipush hC dX6_goFlip_76 rfl ?_
      refine r_aload_n hC dX6_goFlip_78 rfl ?_
      refine r_iload_n hC dX6_goFlip_79 rfl ?_
      refine r_bipush hC dX6_goFlip_80 rfl ?_
      refine z_inv2 hM dX6_goFlip_82 vl_RX6_80 rfl rfl rfl (Nat.le_of_ble_eq_true rfl) (Nat.le_of_ble_eq_true rfl) ?_
      refine y_of (by first | assumption | decide | exact xs_ (by decide) | exact xc_ (by decide) | exact x31_ (by decide) | omega) (by first | assumption | decide | exact xs_ (by decide) | exact xc_ (by decide) | exact x31_ (by decide) | omega) (by first | assumption | decide | exact xs_ (by decide) | exact xc_ (by decide) | exact x31_ (by decide) | omega) (fun o12 => ?_)
      have e13 : ρ8 31 0 (22 * l + 13) = (V 11 l 1) := (Sρ8.a11 (s := 1) (f := 13) (by first | assumption | decide | exact xs_ (by decide) | exact xc_ (by decide) | exact x31_ (by decide) | omega) (by first | assumption | decide | exact xs_ (by decide) | exact xc_ (by decide) | exact x31_ (by decide) | omega) (by first | assumption | decide | exact xs_ (by decide) | exact xc_ (by decide) | exact x31_ (by decide) | omega)).trans ((mu_ne (by first | assumption | decide | exact xs_ (by decide) | exact xc_ (by decide) | exact x31_ (by decide) | omega)).trans (rfl))
      rw [e13] at o12 ⊢
      refine z_inv3 hM dX6_goFlip_85 vl_RX6_188 rfl rfl rfl (Nat.le_of_ble_eq_true rfl) (Nat.le_of_ble_eq_true rfl) ?_
      refine y_moreE (a := (V 11 l 0)) (by first | assumption | decide | exact xs_ (by decide) | exact xc_ (by decide) | exact x31_ (by decide) | omega) (by first | assumption | decide | exact xs_ (by decide) | exact xc_ (by decide) | exact x31_ (by decide) | omega) (by first | assumption | decide | exact xs_ (by decide) | exact xc_ (by decide) | exact x31_ (by decide) | omega) ⟨fun h => by omega, by omega⟩ ((Sρ8.a11 (s := 0) (f := 12) (by first | assumption | decide | exact xs_ (by decide) | exact xc_ (by decide) | exact x31_ (by decide) | omega) (by first | assumption | decide | exact xs_ (by decide) | exact xc_ (by decide) | exact x31_ (by decide) | omega) (by first | assumption | decide | exact xs_ (by decide) | exact xc_ (by decide) | exact x31_ (by decide) | omega)).trans ((mu_ne (by first | assumption | decide | exact xs_ (by decide) | exact xc_ (by decide) | exact x31_ (by decide) | omega)).trans (rfl))) (by first | assumption | decide | exact xs_ (by decide) | exact xc_ (by decide) | exact x31_ (by decide) | omega) ?_
      rw [show (V 11 l 0) + (V 11 l 1) = ((V 11 l 0) + (V 11 l 1)) from by omega]
      obtain ⟨ρ14, e_ρ14⟩ : ∃ zz_, zz_ = mu ρ8 31 0 ((22 * l) + 12) ((V 11 l 0) + (V 11 l 1)) := ⟨_, rfl⟩
      rw [← e_ρ14]
      have Sρ14 : SB t σ0 (mu (mu V 11 l 3 ((V 11 l 3) + (-3))) 11 l 0 ((V 11 l 0) + (V 11 l 1))) ρ14 := by rw [e_ρ14, show ((22 * l) + 12) = 22 * l + 12 from by omega]; exact Sρ8.p11 (by first | assumption | decide | exact xs_ (by decide) | exact xc_ (by decide) | exact x31_ (by decide) | omega) (by first | assumption | decide | exact xs_ (by decide) | exact xc_ (by decide) | exact x31_ (by decide) | omega) (by first | assumption | decide | exact xs_ (by decide) | exact xc_ (by decide) | exact x31_ (by decide) | omega)
      have r16a_ρ14 : ρ14 31 0 (22 * l + 16) = 1 := by rw [e_ρ14]; exact (mu_ne (by first | assumption | decide | exact xs_ (by decide) | exact xc_ (by decide) | exact x31_ (by decide) | omega)).trans r16a_ρ8
      have r17b_ρ14 : ρ14 31 0 (22 * l + 17) = 0 := by rw [e_ρ14]; exact (mu_ne (by first | assumption | decide | exact xs_ (by decide) | exact xc_ (by decide) | exact x31_ (by decide) | omega)).trans r17b_ρ8
      have Xρ14 : KX t l (mu (mu V 11 l 3 ((V 11 l 3) + (-3))) 11 l 0 ((V 11 l 0) + (V 11 l 1))) ρ14 := (Xρ8).e (fun m a b c => by rw [e_ρ14]; exact ⟨mu_ne (by first | assumption | decide | exact xs_ (by decide) | exact xc_ (by decide) | exact x31_ (by decide) | omega), mu_ne (by first | assumption | decide | exact xs_ (by decide) | exact xc_ (by decide) | exact x31_ (by decide) | omega)⟩) (fun m c => mu_ne (by first | assumption | decide | exact xs_ (by decide) | exact xc_ (by decide) | exact x31_ (by decide) | omega))
      have Fρ14 : FB (mu (mu V 11 l 3 ((V 11 l 3) + (-3))) 11 l 0 ((V 11 l 0) + (V 11 l 1))) ρ14 := by rw [e_ρ14]; exact (Fρ8).e (fun l a b => mu_ne (by first | assumption | decide | exact xs_ (by decide) | exact xc_ (by decide) | exact x31_ (by decide) | omega)) |>.v (fun l y a b c => mu_ne (by first | assumption | decide | exact xs_ (by decide) | exact xc_ (by decide) | exact x31_ (by decide) | omega))
      refine r_aload_n hC dX6_goFlip_88 rfl ?_
      refine r_iload_n hC dX6_goFlip_89 rfl ?_
      refine r_bipush hC dX6_goFlip_90 rfl ?_
      refine r_iconst hC dX6_goFlip_92 rfl ?_
      refine z_inv3 hM dX6_goFlip_93 vl_RX6_173 rfl rfl rfl (Nat.le_of_ble_eq_true rfl) (Nat.le_of_ble_eq_true rfl) ?_
      refine y_set (by first | assumption | decide | exact xs_ (by decide) | exact xc_ (by decide) | exact x31_ (by decide) | omega) (by first | assumption | decide | exact xs_ (by decide) | exact xc_ (by decide) | exact x31_ (by decide) | omega) ⟨fun h => by omega, fun h => by omega⟩ ?_
      obtain ⟨ρ15, e_ρ15⟩ : ∃ zz_, zz_ = mu ρ14 31 0 ((22 * l) + 13) 0 := ⟨_, rfl⟩
      rw [← e_ρ15]
      have Sρ15 : SB t σ0 (mu (mu (mu V 11 l 3 ((V 11 l 3) + (-3))) 11 l 0 ((V 11 l 0) + (V 11 l 1))) 11 l 1 0) ρ15 := by rw [e_ρ15, show ((22 * l) + 13) = 22 * l + 13 from by omega]; exact Sρ14.p11 (by first | assumption | decide | exact xs_ (by decide) | exact xc_ (by decide) | exact x31_ (by decide) | omega) (by first | assumption | decide | exact xs_ (by decide) | exact xc_ (by decide) | exact x31_ (by decide) | omega) (by first | assumption | decide | exact xs_ (by decide) | exact xc_ (by decide) | exact x31_ (by decide) | omega)
      have r16a_ρ15 : ρ15 31 0 (22 * l + 16) = 1 := by rw [e_ρ15]; exact (mu_ne (by first | assumption | decide | exact xs_ (by decide) | exact xc_ (by decide) | exact x31_ (by decide) | omega)).trans r16a_ρ14
      have r17b_ρ15 : ρ15 31 0 (22 * l + 17) = 0 := by rw [e_ρ15]; exact (mu_ne (by first | assumption | decide | exact xs_ (by decide) | exact xc_ (by decide) | exact x31_ (by decide) | omega)).trans r17b_ρ14
      have Xρ15 : KX t l (mu (mu (mu V 11 l 3 ((V 11 l 3) + (-3))) 11 l 0 ((V 11 l 0) + (V 11 l 1))) 11 l 1 0) ρ15 := (Xρ14).e (fun m a b c => by rw [e_ρ15]; exact ⟨mu_ne (by first | assumption | decide | exact xs_ (by decide) | exact xc_ (by decide) | exact x31_ (by decide) | omega), mu_ne (by first | assumption | decide | exact xs_ (by decide) | exact xc_ (by decide) | exact x31_ (by decide) | omega)⟩) (fun m c => mu_ne (by first | assumption | decide | exact xs_ (by decide) | exact xc_ (by decide) | exact x31_ (by decide) | omega))
      have Fρ15 : FB (mu (mu (mu V 11 l 3 ((V 11 l 3) + (-3))) 11 l 0 ((V 11 l 0) + (V 11 l 1))) 11 l 1 0) ρ15 := by rw [e_ρ15]; exact (Fρ14).e (fun l a b => mu_ne (by first | assumption | decide | exact xs_ (by decide) | exact xc_ (by decide) | exact x31_ (by decide) | omega)) |>.v (fun l y a b c => mu_ne (by first | assumption | decide | exact xs_ (by decide) | exact xc_ (by decide) | exact x31_ (by decide) | omega))
      refine r_aload_n hC dX6_goFlip_96 rfl ?_
      refine r_iload_n hC dX6_goFlip_97 rfl ?_
      refine r_bipush hC dX6_goFlip_98 rfl ?_
      refine r_iconst hC dX6_goFlip_100 rfl ?_
      refine z_inv3 hM dX6_goFlip_101 vl_RX6_173 rfl rfl rfl (Nat.le_of_ble_eq_true rfl) (Nat.le_of_ble_eq_true rfl) ?_
      refine y_set (by first | assumption | decide | exact xs_ (by decide) | exact xc_ (by decide) | exact x31_ (by decide) | omega) (by first | assumption | decide | exact xs_ (by decide) | exact xc_ (by decide) | exact x31_ (by decide) | omega) ⟨fun h => by omega, fun h => by omega⟩ ?_
      obtain ⟨ρ16, e_ρ16⟩ : ∃ zz_, zz_ = mu ρ15 31 0 ((22 * l) + 16) 0 := ⟨_, rfl⟩
      rw [← e_ρ16]
      have Sρ16 : SB t σ0 (mu (mu (mu V 11 l 3 ((V 11 l 3) + (-3))) 11 l 0 ((V 11 l 0) + (V 11 l 1))) 11 l 1 0) ρ16 := by rw [e_ρ16, show ((22 * l) + 16) = 22 * l + 16 from by omega]; exact Sρ15.px (by first | assumption | decide | exact xs_ (by decide) | exact xc_ (by decide) | exact x31_ (by decide) | omega)
      have r16a_ρ16 : ρ16 31 0 (22 * l + 16) = 0 := by rw [e_ρ16, show ((22 * l) + 16) = 22 * l + 16 from by omega]; exact mu_self _ _ _ _ _
      have r17b_ρ16 : ρ16 31 0 (22 * l + 17) = 0 := by rw [e_ρ16]; exact (mu_ne (by first | assumption | decide | exact xs_ (by decide) | exact xc_ (by decide) | exact x31_ (by decide) | omega)).trans r17b_ρ15
      have Xρ16 : KX t l (mu (mu (mu V 11 l 3 ((V 11 l 3) + (-3))) 11 l 0 ((V 11 l 0) + (V 11 l 1))) 11 l 1 0) ρ16 := (Xρ15).e (fun m a b c => by rw [e_ρ16]; exact ⟨mu_ne (by first | assumption | decide | exact xs_ (by decide) | exact xc_ (by decide) | exact x31_ (by decide) | omega), mu_ne (by first | assumption | decide | exact xs_ (by decide) | exact xc_ (by decide) | exact x31_ (by decide) | omega)⟩) (fun m c => rfl)
      have Fρ16 : FB (mu (mu (mu V 11 l 3 ((V 11 l 3) + (-3))) 11 l 0 ((V 11 l 0) + (V 11 l 1))) 11 l 1 0) ρ16 := by rw [e_ρ16]; exact (Fρ15).e (fun l a b => mu_ne (by first | assumption | decide | exact xs_ (by decide) | exact xc_ (by decide) | exact x31_ (by decide) | omega))
      refine r_iload_n hC dX6_goFlip_104 rfl ?_
      refine y_iret hK rfl dX6_goFlip_105 ?_
      first
      | (exfalso; omega)
      | (have hV : (mu (mu (mu V 11 l 3 ((V 11 l 3) + (-3))) 11 l 0 ((V 11 l 0) + (V 11 l 1))) 11 l 1 0) = (mu (mu (mu V 11 l 3 0) 11 l 0 (V 11 l 0 + V 11 l 1)) 11 l 1 0) := mu_eq3 (by first | assumption | decide | exact xs_ (by decide) | exact xc_ (by decide) | exact x31_ (by decide) | omega) (by first | assumption | decide | exact xs_ (by decide) | exact xc_ (by decide) | exact x31_ (by decide) | omega)
         have hv : (3 - fr) = (if 0 < V 11 l 3 then V 11 l 3 - fr else 0) := by first | omega | (rw [if_pos (by first | assumption | decide | exact xs_ (by decide) | exact xc_ (by decide) | exact x31_ (by decide) | omega)]; omega) | (rw [if_pos (by first | assumption | decide | exact xs_ (by decide) | exact xc_ (by decide) | exact x31_ (by decide) | omega)]) | (rw [if_neg (by first | assumption | decide | exact xs_ (by decide) | exact xc_ (by decide) | exact x31_ (by decide) | omega)]; omega) | (rw [if_neg (by first | assumption | decide | exact xs_ (by decide) | exact xc_ (by decide) | exact x31_ (by decide) | omega)])
         have h17_ : (0 : Int) = (if 0 < V 11 l 3 then 0 else fr) := by first | omega | exact (if_pos (by first | assumption | decide | exact xs_ (by decide) | exact xc_ (by decide) | exact x31_ (by decide) | omega)).symm | exact (if_neg (by first | assumption | decide | exact xs_ (by decide) | exact xc_ (by decide) | exact x31_ (by decide) | omega)).symm
         have q1 := Sρ16
         have q2 := Xρ16
         have q3 := Fρ16
         rw [hV] at q1 q2 q3
         rw [hv]
         exact k0 (by first | assumption | decide | exact xs_ (by decide) | exact xc_ (by decide) | exact x31_ (by decide) | omega) _ q1 q2 q3 r16a_ρ16 (r17b_ρ16.trans h17_))
    · refine r_iload_n hC dX6_goFlip_72 rfl ?_
      refine y_iret hK rfl dX6_goFlip_73 ?_
      first
      | (exfalso; omega)
      | (have hV : (mu V 11 l 3 ((V 11 l 3) + (-3))) = (mu V 11 l 3 (V 11 l 3 - 3)) := mu_eq (by first | assumption | decide | exact xs_ (by decide) | exact xc_ (by decide) | exact x31_ (by decide) | omega)
         have hv : (3 - fr) = 3 - fr := by first | omega | (rw [if_pos (by first | assumption | decide | exact xs_ (by decide) | exact xc_ (by decide) | exact x31_ (by decide) | omega)]; omega) | (rw [if_pos (by first | assumption | decide | exact xs_ (by decide) | exact xc_ (by decide) | exact x31_ (by decide) | omega)]) | (rw [if_neg (by first | assumption | decide | exact xs_ (by decide) | exact xc_ (by decide) | exact x31_ (by decide) | omega)]; omega) | (rw [if_neg (by first | assumption | decide | exact xs_ (by decide) | exact xc_ (by decide) | exact x31_ (by decide) | omega)])
         have h17_ : (0 : Int) = 0 := by first | omega | exact (if_pos (by first | assumption | decide | exact xs_ (by decide) | exact xc_ (by decide) | exact x31_ (by decide) | omega)).symm | exact (if_neg (by first | assumption | decide | exact xs_ (by decide) | exact xc_ (by decide) | exact x31_ (by decide) | omega)).symm
         have q1 := Sρ8
         have q2 := Xρ8
         have q3 := Fρ8
         rw [hV] at q1 q2 q3
         rw [hv]
         exact k1 (by first | assumption | decide | exact xs_ (by decide) | exact xc_ (by decide) | exact x31_ (by decide) | omega) _ q1 q2 q3 r16a_ρ8 (r17b_ρ8.trans h17_))
  · refine r_aload_n hC dX6_goFlip_11 rfl ?_
    refine r_iload_n hC dX6_goFlip_12 rfl ?_
    refine r_bipush hC dX6_goFlip_13 rfl ?_
    refine z_inv2 hM dX6_goFlip_15 vl_RX6_80 rfl rfl rfl (Nat.le_of_ble_eq_true rfl) (Nat.le_of_ble_eq_true rfl) ?_
    refine y_of (by first | assumption | decide | exact xs_ (by decide) | exact xc_ (by decide) | exact x31_ (by decide) | omega) (by first | assumption | decide | exact xs_ (by decide) | exact xc_ (by decide) | exact x31_ (by decide) | omega) (by first | assumption | decide | exact xs_ (by decide) | exact xc_ (by decide) | exact x31_ (by decide) | omega) (fun o17 => ?_)
    have e18 : σ 31 0 (22 * l + 15) = (V 11 l 3) := (hS.a11 (s := 3) (f := 15) (by first | assumption | decide | exact xs_ (by decide) | exact xc_ (by decide) | exact x31_ (by decide) | omega) (by first | assumption | decide | exact xs_ (by decide) | exact xc_ (by decide) | exact x31_ (by decide) | omega) (by first | assumption | decide | exact xs_ (by decide) | exact xc_ (by decide) | exact x31_ (by decide) | omega)).trans (rfl)
    rw [e18] at o17 ⊢
    refine r_goto (tgt := 22) hC dX6_goFlip_18 rfl ?_
    refine r_istore_n hC dX6_goFlip_22 rfl ?_
    refine r_iload_n hC dX6_goFlip_23 rfl ?_
    refine r_if_le (tgt := 39) hC dX6_goFlip_24 rfl (fun h19 => ?_) (fun h19 => ?_)
    · refine r_iconst hC dX6_goFlip_39 rfl ?_
      refine r_istore_n hC dX6_goFlip_40 rfl ?_
      refine r_iload_n hC dX6_goFlip_41 rfl ?_
      refine r_if_le (tgt := 53) hC dX6_goFlip_42 rfl (fun h20 => ?_) (fun h20 => by omega)
      refine r_aload_n hC dX6_goFlip_53 rfl ?_
      refine r_iload_n hC dX6_goFlip_54 rfl ?_
      refine r_bipush hC dX6_goFlip_55 rfl ?_
      refine r_iload_n hC dX6_goFlip_57 rfl ?_
      refine r_inegS hC dX6_goFlip_58 (by unfold inR; omega) ?_
      refine z_inv3 hM dX6_goFlip_59 vl_RX6_188 rfl rfl rfl (Nat.le_of_ble_eq_true rfl) (Nat.le_of_ble_eq_true rfl) ?_
      refine y_moreE (a := (V 11 l 3)) (by first | assumption | decide | exact xs_ (by decide) | exact xc_ (by decide) | exact x31_ (by decide) | omega) (by first | assumption | decide | exact xs_ (by decide) | exact xc_ (by decide) | exact x31_ (by decide) | omega) (by first | assumption | decide | exact xs_ (by decide) | exact xc_ (by decide) | exact x31_ (by decide) | omega) ⟨fun h => by omega, by omega⟩ ((hS.a11 (s := 3) (f := 15) (by first | assumption | decide | exact xs_ (by decide) | exact xc_ (by decide) | exact x31_ (by decide) | omega) (by first | assumption | decide | exact xs_ (by decide) | exact xc_ (by decide) | exact x31_ (by decide) | omega) (by first | assumption | decide | exact xs_ (by decide) | exact xc_ (by decide) | exact x31_ (by decide) | omega)).trans (rfl)) (by first | assumption | decide | exact xs_ (by decide) | exact xc_ (by decide) | exact x31_ (by decide) | omega) ?_
      rw [show (V 11 l 3) + (-(V 11 l 3)) = ((V 11 l 3) + (-(V 11 l 3))) from by omega]
      obtain ⟨ρ21, e_ρ21⟩ : ∃ zz_, zz_ = mu σ 31 0 ((22 * l) + 15) ((V 11 l 3) + (-(V 11 l 3))) := ⟨_, rfl⟩
      rw [← e_ρ21]
      have Sρ21 : SB t σ0 (mu V 11 l 3 ((V 11 l 3) + (-(V 11 l 3)))) ρ21 := by rw [e_ρ21, show ((22 * l) + 15) = 22 * l + 15 from by omega]; exact hS.p11 (by first | assumption | decide | exact xs_ (by decide) | exact xc_ (by decide) | exact x31_ (by decide) | omega) (by first | assumption | decide | exact xs_ (by decide) | exact xc_ (by decide) | exact x31_ (by decide) | omega) (by first | assumption | decide | exact xs_ (by decide) | exact xc_ (by decide) | exact x31_ (by decide) | omega)
      have r16a_ρ21 : ρ21 31 0 (22 * l + 16) = 1 := by rw [e_ρ21]; exact (mu_ne (by first | assumption | decide | exact xs_ (by decide) | exact xc_ (by decide) | exact x31_ (by decide) | omega)).trans h16
      have r17b_ρ21 : ρ21 31 0 (22 * l + 17) = fr := by rw [e_ρ21]; exact (mu_ne (by first | assumption | decide | exact xs_ (by decide) | exact xc_ (by decide) | exact x31_ (by decide) | omega)).trans h17
      have Xρ21 : KX t l (mu V 11 l 3 ((V 11 l 3) + (-(V 11 l 3)))) ρ21 := (hX).e (fun m a b c => by rw [e_ρ21]; exact ⟨mu_ne (by first | assumption | decide | exact xs_ (by decide) | exact xc_ (by decide) | exact x31_ (by decide) | omega), mu_ne (by first | assumption | decide | exact xs_ (by decide) | exact xc_ (by decide) | exact x31_ (by decide) | omega)⟩) (fun m c => mu_ne (by first | assumption | decide | exact xs_ (by decide) | exact xc_ (by decide) | exact x31_ (by decide) | omega))
      have Fρ21 : FB (mu V 11 l 3 ((V 11 l 3) + (-(V 11 l 3)))) ρ21 := by rw [e_ρ21]; exact (hFB).e (fun l a b => mu_ne (by first | assumption | decide | exact xs_ (by decide) | exact xc_ (by decide) | exact x31_ (by decide) | omega)) |>.v (fun l y a b c => mu_ne (by first | assumption | decide | exact xs_ (by decide) | exact xc_ (by decide) | exact x31_ (by decide) | omega))
      refine r_aload_n hC dX6_goFlip_62 rfl ?_
      refine r_iload_n hC dX6_goFlip_63 rfl ?_
      refine r_bipush hC dX6_goFlip_64 rfl ?_
      refine z_inv2 hM dX6_goFlip_66 vl_RX6_80 rfl rfl rfl (Nat.le_of_ble_eq_true rfl) (Nat.le_of_ble_eq_true rfl) ?_
      refine y_of (by first | assumption | decide | exact xs_ (by decide) | exact xc_ (by decide) | exact x31_ (by decide) | omega) (by first | assumption | decide | exact xs_ (by decide) | exact xc_ (by decide) | exact x31_ (by decide) | omega) (by first | assumption | decide | exact xs_ (by decide) | exact xc_ (by decide) | exact x31_ (by decide) | omega) (fun o22 => ?_)
      have e23 : ρ21 31 0 (22 * l + 15) = ((V 11 l 3) + (-(V 11 l 3))) := (Sρ21.a11 (s := 3) (f := 15) (by first | assumption | decide | exact xs_ (by decide) | exact xc_ (by decide) | exact x31_ (by decide) | omega) (by first | assumption | decide | exact xs_ (by decide) | exact xc_ (by decide) | exact x31_ (by decide) | omega) (by first | assumption | decide | exact xs_ (by decide) | exact xc_ (by decide) | exact x31_ (by decide) | omega)).trans (mu_self _ _ _ _ _)
      rw [e23] at o22 ⊢
      refine r_if_le (tgt := 74) hC dX6_goFlip_69 rfl (fun h24 => ?_) (fun h24 => ?_)
      · refine r_aload_n hC dX6_goFlip_74 rfl ?_
        refine r_iload_n hC dX6_goFlip_75 rfl ?_
        refine r_bipush hC dX6_goFlip_76 rfl ?_
        refine r_aload_n hC dX6_goFlip_78 rfl ?_
        refine r_iload_n hC dX6_goFlip_79 rfl ?_
        refine r_bipush hC dX6_goFlip_80 rfl ?_
        refine z_inv2 hM dX6_goFlip_82 vl_RX6_80 rfl rfl rfl (Nat.le_of_ble_eq_true rfl) (Nat.le_of_ble_eq_true rfl) ?_
        refine y_of (by first | assumption | decide | exact xs_ (by decide) | exact xc_ (by decide) | exact x31_ (by decide) | omega) (by first | assumption | decide | exact xs_ (by decide) | exact xc_ (by decide) | exact x31_ (by decide) | omega) (by first | assumption | decide | exact xs_ (by decide) | exact xc_ (by decide) | exact x31_ (by decide) | omega) (fun o25 => ?_)
        have e26 : ρ21 31 0 (22 * l + 13) = (V 11 l 1) := (Sρ21.a11 (s := 1) (f := 13) (by first | assumption | decide | exact xs_ (by decide) | exact xc_ (by decide) | exact x31_ (by decide) | omega) (by first | assumption | decide | exact xs_ (by decide) | exact xc_ (by decide) | exact x31_ (by decide) | omega) (by first | assumption | decide | exact xs_ (by decide) | exact xc_ (by decide) | exact x31_ (by decide) | omega)).trans ((mu_ne (by first | assumption | decide | exact xs_ (by decide) | exact xc_ (by decide) | exact x31_ (by decide) | omega)).trans (rfl))
        rw [e26] at o25 ⊢
        refine z_inv3 hM dX6_goFlip_85 vl_RX6_188 rfl rfl rfl (Nat.le_of_ble_eq_true rfl) (Nat.le_of_ble_eq_true rfl) ?_
        refine y_moreE (a := (V 11 l 0)) (by first | assumption | decide | exact xs_ (by decide) | exact xc_ (by decide) | exact x31_ (by decide) | omega) (by first | assumption | decide | exact xs_ (by decide) | exact xc_ (by decide) | exact x31_ (by decide) | omega) (by first | assumption | decide | exact xs_ (by decide) | exact xc_ (by decide) | exact x31_ (by decide) | omega) ⟨fun h => by omega, by omega⟩ ((Sρ21.a11 (s := 0) (f := 12) (by first | assumption | decide | exact xs_ (by decide) | exact xc_ (by decide) | exact x31_ (by decide) | omega) (by first | assumption | decide | exact xs_ (by decide) | exact xc_ (by decide) | exact x31_ (by decide) | omega) (by first | assumption | decide | exact xs_ (by decide) | exact xc_ (by decide) | exact x31_ (by decide) | omega)).trans ((mu_ne (by first | assumption | decide | exact xs_ (by decide) | exact xc_ (by decide) | exact x31_ (by decide) | omega)).trans (rfl))) (by first | assumption | decide | exact xs_ (by decide) | exact xc_ (by decide) | exact x31_ (by decide) | omega) ?_
        rw [show (V 11 l 0) + (V 11 l 1) = ((V 11 l 0) + (V 11 l 1)) from by omega]
        obtain ⟨ρ27, e_ρ27⟩ : ∃ zz_, zz_ = mu ρ21 31 0 ((22 * l) + 12) ((V 11 l 0) + (V 11 l 1)) := ⟨_, rfl⟩
        rw [← e_ρ27]
        have Sρ27 : SB t σ0 (mu (mu V 11 l 3 ((V 11 l 3) + (-(V 11 l 3)))) 11 l 0 ((V 11 l 0) + (V 11 l 1))) ρ27 := by rw [e_ρ27, show ((22 * l) + 12) = 22 * l + 12 from by omega]; exact Sρ21.p11 (by first | assumption | decide | exact xs_ (by decide) | exact xc_ (by decide) | exact x31_ (by decide) | omega) (by first | assumption | decide | exact xs_ (by decide) | exact xc_ (by decide) | exact x31_ (by decide) | omega) (by first | assumption | decide | exact xs_ (by decide) | exact xc_ (by decide) | exact x31_ (by decide) | omega)
        have r16a_ρ27 : ρ27 31 0 (22 * l + 16) = 1 := by rw [e_ρ27]; exact (mu_ne (by first | assumption | decide | exact xs_ (by decide) | exact xc_ (by decide) | exact x31_ (by decide) | omega)).trans r16a_ρ21
        have r17b_ρ27 : ρ27 31 0 (22 * l + 17) = fr := by rw [e_ρ27]; exact (mu_ne (by first | assumption | decide | exact xs_ (by decide) | exact xc_ (by decide) | exact x31_ (by decide) | omega)).trans r17b_ρ21
        have Xρ27 : KX t l (mu (mu V 11 l 3 ((V 11 l 3) + (-(V 11 l 3)))) 11 l 0 ((V 11 l 0) + (V 11 l 1))) ρ27 := (Xρ21).e (fun m a b c => by rw [e_ρ27]; exact ⟨mu_ne (by first | assumption | decide | exact xs_ (by decide) | exact xc_ (by decide) | exact x31_ (by decide) | omega), mu_ne (by first | assumption | decide | exact xs_ (by decide) | exact xc_ (by decide) | exact x31_ (by decide) | omega)⟩) (fun m c => mu_ne (by first | assumption | decide | exact xs_ (by decide) | exact xc_ (by decide) | exact x31_ (by decide) | omega))
        have Fρ27 : FB (mu (mu V 11 l 3 ((V 11 l 3) + (-(V 11 l 3)))) 11 l 0 ((V 11 l 0) + (V 11 l 1))) ρ27 := by rw [e_ρ27]; exact (Fρ21).e (fun l a b => mu_ne (by first | assumption | decide | exact xs_ (by decide) | exact xc_ (by decide) | exact x31_ (by decide) | omega)) |>.v (fun l y a b c => mu_ne (by first | assumption | decide | exact xs_ (by decide) | exact xc_ (by decide) | exact x31_ (by decide) | omega))
        refine r_aload_n hC dX6_goFlip_88 rfl ?_
        refine r_iload_n hC dX6_goFlip_89 rfl ?_
        refine r_bipush hC dX6_goFlip_90 rfl ?_
        refine r_iconst hC dX6_goFlip_92 rfl ?_
        refine z_inv3 hM dX6_goFlip_93 vl_RX6_173 rfl rfl rfl (Nat.le_of_ble_eq_true rfl) (Nat.le_of_ble_eq_true rfl) ?_
        refine y_set (by first | assumption | decide | exact xs_ (by decide) | exact xc_ (by decide) | exact x31_ (by decide) | omega) (by first | assumption | decide | exact xs_ (by decide) | exact xc_ (by decide) | exact x31_ (by decide) | omega) ⟨fun h => by omega, fun h => by omega⟩ ?_
        obtain ⟨ρ28, e_ρ28⟩ : ∃ zz_, zz_ = mu ρ27 31 0 ((22 * l) + 13) 0 := ⟨_, rfl⟩
        rw [← e_ρ28]
        have Sρ28 : SB t σ0 (mu (mu (mu V 11 l 3 ((V 11 l 3) + (-(V 11 l 3)))) 11 l 0 ((V 11 l 0) + (V 11 l 1))) 11 l 1 0) ρ28 := by rw [e_ρ28, show ((22 * l) + 13) = 22 * l + 13 from by omega]; exact Sρ27.p11 (by first | assumption | decide | exact xs_ (by decide) | exact xc_ (by decide) | exact x31_ (by decide) | omega) (by first | assumption | decide | exact xs_ (by decide) | exact xc_ (by decide) | exact x31_ (by decide) | omega) (by first | assumption | decide | exact xs_ (by decide) | exact xc_ (by decide) | exact x31_ (by decide) | omega)
        have r16a_ρ28 : ρ28 31 0 (22 * l + 16) = 1 := by rw [e_ρ28]; exact (mu_ne (by first | assumption | decide | exact xs_ (by decide) | exact xc_ (by decide) | exact x31_ (by decide) | omega)).trans r16a_ρ27
        have r17b_ρ28 : ρ28 31 0 (22 * l + 17) = fr := by rw [e_ρ28]; exact (mu_ne (by first | assumption | decide | exact xs_ (by decide) | exact xc_ (by decide) | exact x31_ (by decide) | omega)).trans r17b_ρ27
        have Xρ28 : KX t l (mu (mu (mu V 11 l 3 ((V 11 l 3) + (-(V 11 l 3)))) 11 l 0 ((V 11 l 0) + (V 11 l 1))) 11 l 1 0) ρ28 := (Xρ27).e (fun m a b c => by rw [e_ρ28]; exact ⟨mu_ne (by first | assumption | decide | exact xs_ (by decide) | exact xc_ (by decide) | exact x31_ (by decide) | omega), mu_ne (by first | assumption | decide | exact xs_ (by decide) | exact xc_ (by decide) | exact x31_ (by decide) | omega)⟩) (fun m c => mu_ne (by first | assumption | decide | exact xs_ (by decide) | exact xc_ (by decide) | exact x31_ (by decide) | omega))
        have Fρ28 : FB (mu (mu (mu V 11 l 3 ((V 11 l 3) + (-(V 11 l 3)))) 11 l 0 ((V 11 l 0) + (V 11 l 1))) 11 l 1 0) ρ28 := by rw [e_ρ28]; exact (Fρ27).e (fun l a b => mu_ne (by first | assumption | decide | exact xs_ (by decide) | exact xc_ (by decide) | exact x31_ (by decide) | omega)) |>.v (fun l y a b c => mu_ne (by first | assumption | decide | exact xs_ (by decide) | exact xc_ (by decide) | exact x31_ (by decide) | omega))
        refine r_aload_n hC dX6_goFlip_96 rfl ?_
        refine r_iload_n hC dX6_goFlip_97 rfl ?_
        refine r_bipush hC dX6_goFlip_98 rfl ?_
        refine r_iconst hC dX6_goFlip_100 rfl ?_
        refine z_inv3 hM dX6_goFlip_101 vl_RX6_173 rfl rfl rfl (Nat.le_of_ble_eq_true rfl) (Nat.le_of_ble_eq_true rfl) ?_
        refine y_set (by first | assumption | decide | exact xs_ (by decide) | exact xc_ (by decide) | exact x31_ (by decide) | omega) (by first | assumption | decide | exact xs_ (by decide) | exact xc_ (by decide) | exact x31_ (by decide) | omega) ⟨fun h => by omega, fun h => by omega⟩ ?_
        obtain ⟨ρ29, e_ρ29⟩ : ∃ zz_, zz_ = mu ρ28 31 0 ((22 * l) + 16) 0 := ⟨_, rfl⟩
        rw [← e_ρ29]
        have Sρ29 : SB t σ0 (mu (mu (mu V 11 l 3 ((V 11 l 3) + (-(V 11 l 3)))) 11 l 0 ((V 11 l 0) + (V 11 l 1))) 11 l 1 0) ρ29 := by rw [e_ρ29, show ((22 * l) + 16) = 22 * l + 16 from by omega]; exact Sρ28.px (by first | assumption | decide | exact xs_ (by decide) | exact xc_ (by decide) | exact x31_ (by decide) | omega)
        have r16a_ρ29 : ρ29 31 0 (22 * l + 16) = 0 := by rw [e_ρ29, show ((22 * l) + 16) = 22 * l + 16 from by omega]; exact mu_self _ _ _ _ _
        have r17b_ρ29 : ρ29 31 0 (22 * l + 17) = fr := by rw [e_ρ29]; exact (mu_ne (by first | assumption | decide | exact xs_ (by decide) | exact xc_ (by decide) | exact x31_ (by decide) | omega)).trans r17b_ρ28
        have Xρ29 : KX t l (mu (mu (mu V 11 l 3 ((V 11 l 3) + (-(V 11 l 3)))) 11 l 0 ((V 11 l 0) + (V 11 l 1))) 11 l 1 0) ρ29 := (Xρ28).e (fun m a b c => by rw [e_ρ29]; exact ⟨mu_ne (by first | assumption | decide | exact xs_ (by decide) | exact xc_ (by decide) | exact x31_ (by decide) | omega), mu_ne (by first | assumption | decide | exact xs_ (by decide) | exact xc_ (by decide) | exact x31_ (by decide) | omega)⟩) (fun m c => rfl)
        have Fρ29 : FB (mu (mu (mu V 11 l 3 ((V 11 l 3) + (-(V 11 l 3)))) 11 l 0 ((V 11 l 0) + (V 11 l 1))) 11 l 1 0) ρ29 := by rw [e_ρ29]; exact (Fρ28).e (fun l a b => mu_ne (by first | assumption | decide | exact xs_ (by decide) | exact xc_ (by decide) | exact x31_ (by decide) | omega))
        refine r_iload_n hC dX6_goFlip_104 rfl ?_
        refine y_iret hK rfl dX6_goFlip_105 ?_
        first
        | (exfalso; omega)
        | (have hV : (mu (mu (mu V 11 l 3 ((V 11 l 3) + (-(V 11 l 3)))) 11 l 0 ((V 11 l 0) + (V 11 l 1))) 11 l 1 0) = (mu (mu (mu V 11 l 3 0) 11 l 0 (V 11 l 0 + V 11 l 1)) 11 l 1 0) := mu_eq3 (by first | assumption | decide | exact xs_ (by decide) | exact xc_ (by decide) | exact x31_ (by decide) | omega) (by first | assumption | decide | exact xs_ (by decide) | exact xc_ (by decide) | exact x31_ (by decide) | omega)
           have hv : 0 = (if 0 < V 11 l 3 then V 11 l 3 - fr else 0) := by first | omega | (rw [if_pos (by first | assumption | decide | exact xs_ (by decide) | exact xc_ (by decide) | exact x31_ (by decide) | omega)]; omega) | (rw [if_pos (by first | assumption | decide | exact xs_ (by decide) | exact xc_ (by decide) | exact x31_ (by decide) | omega)]) | (rw [if_neg (by first | assumption | decide | exact xs_ (by decide) | exact xc_ (by decide) | exact x31_ (by decide) | omega)]; omega) | (rw [if_neg (by first | assumption | decide | exact xs_ (by decide) | exact xc_ (by decide) | exact x31_ (by decide) | omega)])
           have h17_ : (fr : Int) = (if 0 < V 11 l 3 then 0 else fr) := by first | omega | exact (if_pos (by first | assumption | decide | exact xs_ (by decide) | exact xc_ (by decide) | exact x31_ (by decide) | omega)).symm | exact (if_neg (by first | assumption | decide | exact xs_ (by decide) | exact xc_ (by decide) | exact x31_ (by decide) | omega)).symm
           have q1 := Sρ29
           have q2 := Xρ29
           have q3 := Fρ29
           rw [hV] at q1 q2 q3
           rw [hv]
           exact k0 (by first | assumption | decide | exact xs_ (by decide) | exact xc_ (by decide) | exact x31_ (by decide) | omega) _ q1 q2 q3 r16a_ρ29 (r17b_ρ29.trans h17_))
      · refine r_iload_n hC dX6_goFlip_72 rfl ?_
        refine y_iret hK rfl dX6_goFlip_73 ?_
        first
        | (exfalso; omega)
        | (have hV : (mu V 11 l 3 ((V 11 l 3) + (-(V 11 l 3)))) = (mu V 11 l 3 (V 11 l 3 - 3)) := mu_eq (by first | assumption | decide | exact xs_ (by decide) | exact xc_ (by decide) | exact x31_ (by decide) | omega)
           have hv : 0 = 3 - fr := by first | omega | (rw [if_pos (by first | assumption | decide | exact xs_ (by decide) | exact xc_ (by decide) | exact x31_ (by decide) | omega)]; omega) | (rw [if_pos (by first | assumption | decide | exact xs_ (by decide) | exact xc_ (by decide) | exact x31_ (by decide) | omega)]) | (rw [if_neg (by first | assumption | decide | exact xs_ (by decide) | exact xc_ (by decide) | exact x31_ (by decide) | omega)]; omega) | (rw [if_neg (by first | assumption | decide | exact xs_ (by decide) | exact xc_ (by decide) | exact x31_ (by decide) | omega)])
           have h17_ : (fr : Int) = 0 := by first | omega | exact (if_pos (by first | assumption | decide | exact xs_ (by decide) | exact xc_ (by decide) | exact x31_ (by decide) | omega)).symm | exact (if_neg (by first | assumption | decide | exact xs_ (by decide) | exact xc_ (by decide) | exact x31_ (by decide) | omega)).symm
           have q1 := Sρ21
           have q2 := Xρ21
           have q3 := Fρ21
           rw [hV] at q1 q2 q3
           rw [hv]
           exact k1 (by first | assumption | decide | exact xs_ (by decide) | exact xc_ (by decide) | exact x31_ (by decide) | omega) _ q1 q2 q3 r16a_ρ21 (r17b_ρ21.trans h17_))
    · refine r_iload_n hC dX6_goFlip_27 rfl ?_
      refine r_aload_n hC dX6_goFlip_28 rfl ?_
      refine r_iload_n hC dX6_goFlip_29 rfl ?_
      refine r_bipush hC dX6_goFlip_30 rfl ?_
      refine z_inv2 hM dX6_goFlip_32 vl_RX6_80 rfl rfl rfl (Nat.le_of_ble_eq_true rfl) (Nat.le_of_ble_eq_true rfl) ?_
      refine y_of (by first | assumption | decide | exact xs_ (by decide) | exact xc_ (by decide) | exact x31_ (by decide) | omega) (by first | assumption | decide | exact xs_ (by decide) | exact xc_ (by decide) | exact x31_ (by decide) | omega) (by first | assumption | decide | exact xs_ (by decide) | exact xc_ (by decide) | exact x31_ (by decide) | omega) (fun o30 => ?_)
      rw [h17]
      refine r_isubE hC (((V 11 l 3) - fr)) dX6_goFlip_35 (by first | assumption | decide | exact xs_ (by decide) | exact xc_ (by decide) | exact x31_ (by decide) | omega) (by unfold inR; omega) ?_
      refine r_goto (tgt := 40) hC dX6_goFlip_36 rfl ?_
      refine r_istore_n hC dX6_goFlip_40 rfl ?_
      refine r_iload_n hC dX6_goFlip_41 rfl ?_
      refine r_if_le (tgt := 53) hC dX6_goFlip_42 rfl (fun h31 => by omega) (fun h31 => ?_)
      refine r_aload_n hC dX6_goFlip_45 rfl ?_
      refine r_iload_n hC dX6_goFlip_46 rfl ?_
      refine r_bipush hC dX6_goFlip_47 rfl ?_
      refine r_iconst hC dX6_goFlip_49 rfl ?_
      refine z_inv3 hM dX6_goFlip_50 vl_RX6_173 rfl rfl rfl (Nat.le_of_ble_eq_true rfl) (Nat.le_of_ble_eq_true rfl) ?_
      refine y_set (by first | assumption | decide | exact xs_ (by decide) | exact xc_ (by decide) | exact x31_ (by decide) | omega) (by first | assumption | decide | exact xs_ (by decide) | exact xc_ (by decide) | exact x31_ (by decide) | omega) ⟨fun h => by omega, fun h => by omega⟩ ?_
      obtain ⟨ρ32, e_ρ32⟩ : ∃ zz_, zz_ = mu σ 31 0 ((22 * l) + 17) 0 := ⟨_, rfl⟩
      rw [← e_ρ32]
      have Sρ32 : SB t σ0 V ρ32 := by rw [e_ρ32, show ((22 * l) + 17) = 22 * l + 17 from by omega]; exact hS.px (by first | assumption | decide | exact xs_ (by decide) | exact xc_ (by decide) | exact x31_ (by decide) | omega)
      have r16a_ρ32 : ρ32 31 0 (22 * l + 16) = 1 := by rw [e_ρ32]; exact (mu_ne (by first | assumption | decide | exact xs_ (by decide) | exact xc_ (by decide) | exact x31_ (by decide) | omega)).trans h16
      have r17b_ρ32 : ρ32 31 0 (22 * l + 17) = 0 := by rw [e_ρ32, show ((22 * l) + 17) = 22 * l + 17 from by omega]; exact mu_self _ _ _ _ _
      have Xρ32 : KX t l V ρ32 := (hX).e (fun m a b c => by rw [e_ρ32]; exact ⟨mu_ne (by first | assumption | decide | exact xs_ (by decide) | exact xc_ (by decide) | exact x31_ (by decide) | omega), mu_ne (by first | assumption | decide | exact xs_ (by decide) | exact xc_ (by decide) | exact x31_ (by decide) | omega)⟩) (fun m c => rfl)
      have Fρ32 : FB V ρ32 := by rw [e_ρ32]; exact (hFB).e (fun l a b => mu_ne (by first | assumption | decide | exact xs_ (by decide) | exact xc_ (by decide) | exact x31_ (by decide) | omega))
      refine r_aload_n hC dX6_goFlip_53 rfl ?_
      refine r_iload_n hC dX6_goFlip_54 rfl ?_
      refine r_bipush hC dX6_goFlip_55 rfl ?_
      refine r_iload_n hC dX6_goFlip_57 rfl ?_
      refine r_inegS hC dX6_goFlip_58 (by unfold inR; omega) ?_
      refine z_inv3 hM dX6_goFlip_59 vl_RX6_188 rfl rfl rfl (Nat.le_of_ble_eq_true rfl) (Nat.le_of_ble_eq_true rfl) ?_
      refine y_moreE (a := (V 11 l 3)) (by first | assumption | decide | exact xs_ (by decide) | exact xc_ (by decide) | exact x31_ (by decide) | omega) (by first | assumption | decide | exact xs_ (by decide) | exact xc_ (by decide) | exact x31_ (by decide) | omega) (by first | assumption | decide | exact xs_ (by decide) | exact xc_ (by decide) | exact x31_ (by decide) | omega) ⟨fun h => by omega, by omega⟩ ((Sρ32.a11 (s := 3) (f := 15) (by first | assumption | decide | exact xs_ (by decide) | exact xc_ (by decide) | exact x31_ (by decide) | omega) (by first | assumption | decide | exact xs_ (by decide) | exact xc_ (by decide) | exact x31_ (by decide) | omega) (by first | assumption | decide | exact xs_ (by decide) | exact xc_ (by decide) | exact x31_ (by decide) | omega)).trans (rfl)) (by first | assumption | decide | exact xs_ (by decide) | exact xc_ (by decide) | exact x31_ (by decide) | omega) ?_
      rw [show (V 11 l 3) + (-(V 11 l 3)) = ((V 11 l 3) + (-(V 11 l 3))) from by omega]
      obtain ⟨ρ33, e_ρ33⟩ : ∃ zz_, zz_ = mu ρ32 31 0 ((22 * l) + 15) ((V 11 l 3) + (-(V 11 l 3))) := ⟨_, rfl⟩
      rw [← e_ρ33]
      have Sρ33 : SB t σ0 (mu V 11 l 3 ((V 11 l 3) + (-(V 11 l 3)))) ρ33 := by rw [e_ρ33, show ((22 * l) + 15) = 22 * l + 15 from by omega]; exact Sρ32.p11 (by first | assumption | decide | exact xs_ (by decide) | exact xc_ (by decide) | exact x31_ (by decide) | omega) (by first | assumption | decide | exact xs_ (by decide) | exact xc_ (by decide) | exact x31_ (by decide) | omega) (by first | assumption | decide | exact xs_ (by decide) | exact xc_ (by decide) | exact x31_ (by decide) | omega)
      have r16a_ρ33 : ρ33 31 0 (22 * l + 16) = 1 := by rw [e_ρ33]; exact (mu_ne (by first | assumption | decide | exact xs_ (by decide) | exact xc_ (by decide) | exact x31_ (by decide) | omega)).trans r16a_ρ32
      have r17b_ρ33 : ρ33 31 0 (22 * l + 17) = 0 := by rw [e_ρ33]; exact (mu_ne (by first | assumption | decide | exact xs_ (by decide) | exact xc_ (by decide) | exact x31_ (by decide) | omega)).trans r17b_ρ32
      have Xρ33 : KX t l (mu V 11 l 3 ((V 11 l 3) + (-(V 11 l 3)))) ρ33 := (Xρ32).e (fun m a b c => by rw [e_ρ33]; exact ⟨mu_ne (by first | assumption | decide | exact xs_ (by decide) | exact xc_ (by decide) | exact x31_ (by decide) | omega), mu_ne (by first | assumption | decide | exact xs_ (by decide) | exact xc_ (by decide) | exact x31_ (by decide) | omega)⟩) (fun m c => mu_ne (by first | assumption | decide | exact xs_ (by decide) | exact xc_ (by decide) | exact x31_ (by decide) | omega))
      have Fρ33 : FB (mu V 11 l 3 ((V 11 l 3) + (-(V 11 l 3)))) ρ33 := by rw [e_ρ33]; exact (Fρ32).e (fun l a b => mu_ne (by first | assumption | decide | exact xs_ (by decide) | exact xc_ (by decide) | exact x31_ (by decide) | omega)) |>.v (fun l y a b c => mu_ne (by first | assumption | decide | exact xs_ (by decide) | exact xc_ (by decide) | exact x31_ (by decide) | omega))
      refine r_aload_n hC dX6_goFlip_62 rfl ?_
      refine r_iload_n hC dX6_goFlip_63 rfl ?_
      refine r_bipush hC dX6_goFlip_64 rfl ?_
      refine z_inv2 hM dX6_goFlip_66 vl_RX6_80 rfl rfl rfl (Nat.le_of_ble_eq_true rfl) (Nat.le_of_ble_eq_true rfl) ?_
      refine y_of (by first | assumption | decide | exact xs_ (by decide) | exact xc_ (by decide) | exact x31_ (by decide) | omega) (by first | assumption | decide | exact xs_ (by decide) | exact xc_ (by decide) | exact x31_ (by decide) | omega) (by first | assumption | decide | exact xs_ (by decide) | exact xc_ (by decide) | exact x31_ (by decide) | omega) (fun o34 => ?_)
      have e35 : ρ33 31 0 (22 * l + 15) = ((V 11 l 3) + (-(V 11 l 3))) := (Sρ33.a11 (s := 3) (f := 15) (by first | assumption | decide | exact xs_ (by decide) | exact xc_ (by decide) | exact x31_ (by decide) | omega) (by first | assumption | decide | exact xs_ (by decide) | exact xc_ (by decide) | exact x31_ (by decide) | omega) (by first | assumption | decide | exact xs_ (by decide) | exact xc_ (by decide) | exact x31_ (by decide) | omega)).trans (mu_self _ _ _ _ _)
      rw [e35] at o34 ⊢
      refine r_if_le (tgt := 74) hC dX6_goFlip_69 rfl (fun h36 => ?_) (fun h36 => ?_)
      · refine r_aload_n hC dX6_goFlip_74 rfl ?_
        refine r_iload_n hC dX6_goFlip_75 rfl ?_
        refine r_bipush hC dX6_goFlip_76 rfl ?_
        refine r_aload_n hC dX6_goFlip_78 rfl ?_
        refine r_iload_n hC dX6_goFlip_79 rfl ?_
        refine r_bipush hC dX6_goFlip_80 rfl ?_
        refine z_inv2 hM dX6_goFlip_82 vl_RX6_80 rfl rfl rfl (Nat.le_of_ble_eq_true rfl) (Nat.le_of_ble_eq_true rfl) ?_
        refine y_of (by first | assumption | decide | exact xs_ (by decide) | exact xc_ (by decide) | exact x31_ (by decide) | omega) (by first | assumption | decide | exact xs_ (by decide) | exact xc_ (by decide) | exact x31_ (by decide) | omega) (by first | assumption | decide | exact xs_ (by decide) | exact xc_ (by decide) | exact x31_ (by decide) | omega) (fun o37 => ?_)
        have e38 : ρ33 31 0 (22 * l + 13) = (V 11 l 1) := (Sρ33.a11 (s := 1) (f := 13) (by first | assumption | decide | exact xs_ (by decide) | exact xc_ (by decide) | exact x31_ (by decide) | omega) (by first | assumption | decide | exact xs_ (by decide) | exact xc_ (by decide) | exact x31_ (by decide) | omega) (by first | assumption | decide | exact xs_ (by decide) | exact xc_ (by decide) | exact x31_ (by decide) | omega)).trans ((mu_ne (by first | assumption | decide | exact xs_ (by decide) | exact xc_ (by decide) | exact x31_ (by decide) | omega)).trans (rfl))
        rw [e38] at o37 ⊢
        refine z_inv3 hM dX6_goFlip_85 vl_RX6_188 rfl rfl rfl (Nat.le_of_ble_eq_true rfl) (Nat.le_of_ble_eq_true rfl) ?_
        refine y_moreE (a := (V 11 l 0)) (by first | assumption | decide | exact xs_ (by decide) | exact xc_ (by decide) | exact x31_ (by decide) | omega) (by first | assumption | decide | exact xs_ (by decide) | exact xc_ (by decide) | exact x31_ (by decide) | omega) (by first | assumption | decide | exact xs_ (by decide) | exact xc_ (by decide) | exact x31_ (by decide) | omega) ⟨fun h => by omega, by omega⟩ ((Sρ33.a11 (s := 0) (f := 12) (by first | assumption | decide | exact xs_ (by decide) | exact xc_ (by decide) | exact x31_ (by decide) | omega) (by first | assumption | decide | exact xs_ (by decide) | exact xc_ (by decide) | exact x31_ (by decide) | omega) (by first | assumption | decide | exact xs_ (by decide) | exact xc_ (by decide) | exact x31_ (by decide) | omega)).trans ((mu_ne (by first | assumption | decide | exact xs_ (by decide) | exact xc_ (by decide) | exact x31_ (by decide) | omega)).trans (rfl))) (by first | assumption | decide | exact xs_ (by decide) | exact xc_ (by decide) | exact x31_ (by decide) | omega) ?_
        rw [show (V 11 l 0) + (V 11 l 1) = ((V 11 l 0) + (V 11 l 1)) from by omega]
        obtain ⟨ρ39, e_ρ39⟩ : ∃ zz_, zz_ = mu ρ33 31 0 ((22 * l) + 12) ((V 11 l 0) + (V 11 l 1)) := ⟨_, rfl⟩
        rw [← e_ρ39]
        have Sρ39 : SB t σ0 (mu (mu V 11 l 3 ((V 11 l 3) + (-(V 11 l 3)))) 11 l 0 ((V 11 l 0) + (V 11 l 1))) ρ39 := by rw [e_ρ39, show ((22 * l) + 12) = 22 * l + 12 from by omega]; exact Sρ33.p11 (by first | assumption | decide | exact xs_ (by decide) | exact xc_ (by decide) | exact x31_ (by decide) | omega) (by first | assumption | decide | exact xs_ (by decide) | exact xc_ (by decide) | exact x31_ (by decide) | omega) (by first | assumption | decide | exact xs_ (by decide) | exact xc_ (by decide) | exact x31_ (by decide) | omega)
        have r16a_ρ39 : ρ39 31 0 (22 * l + 16) = 1 := by rw [e_ρ39]; exact (mu_ne (by first | assumption | decide | exact xs_ (by decide) | exact xc_ (by decide) | exact x31_ (by decide) | omega)).trans r16a_ρ33
        have r17b_ρ39 : ρ39 31 0 (22 * l + 17) = 0 := by rw [e_ρ39]; exact (mu_ne (by first | assumption | decide | exact xs_ (by decide) | exact xc_ (by decide) | exact x31_ (by decide) | omega)).trans r17b_ρ33
        have Xρ39 : KX t l (mu (mu V 11 l 3 ((V 11 l 3) + (-(V 11 l 3)))) 11 l 0 ((V 11 l 0) + (V 11 l 1))) ρ39 := (Xρ33).e (fun m a b c => by rw [e_ρ39]; exact ⟨mu_ne (by first | assumption | decide | exact xs_ (by decide) | exact xc_ (by decide) | exact x31_ (by decide) | omega), mu_ne (by first | assumption | decide | exact xs_ (by decide) | exact xc_ (by decide) | exact x31_ (by decide) | omega)⟩) (fun m c => mu_ne (by first | assumption | decide | exact xs_ (by decide) | exact xc_ (by decide) | exact x31_ (by decide) | omega))
        have Fρ39 : FB (mu (mu V 11 l 3 ((V 11 l 3) + (-(V 11 l 3)))) 11 l 0 ((V 11 l 0) + (V 11 l 1))) ρ39 := by rw [e_ρ39]; exact (Fρ33).e (fun l a b => mu_ne (by first | assumption | decide | exact xs_ (by decide) | exact xc_ (by decide) | exact x31_ (by decide) | omega)) |>.v (fun l y a b c => mu_ne (by first | assumption | decide | exact xs_ (by decide) | exact xc_ (by decide) | exact x31_ (by decide) | omega))
        refine r_aload_n hC dX6_goFlip_88 rfl ?_
        refine r_iload_n hC dX6_goFlip_89 rfl ?_
        refine r_bipush hC dX6_goFlip_90 rfl ?_
        refine r_iconst hC dX6_goFlip_92 rfl ?_
        refine z_inv3 hM dX6_goFlip_93 vl_RX6_173 rfl rfl rfl (Nat.le_of_ble_eq_true rfl) (Nat.le_of_ble_eq_true rfl) ?_
        refine y_set (by first | assumption | decide | exact xs_ (by decide) | exact xc_ (by decide) | exact x31_ (by decide) | omega) (by first | assumption | decide | exact xs_ (by decide) | exact xc_ (by decide) | exact x31_ (by decide) | omega) ⟨fun h => by omega, fun h => by omega⟩ ?_
        obtain ⟨ρ40, e_ρ40⟩ : ∃ zz_, zz_ = mu ρ39 31 0 ((22 * l) + 13) 0 := ⟨_, rfl⟩
        rw [← e_ρ40]
        have Sρ40 : SB t σ0 (mu (mu (mu V 11 l 3 ((V 11 l 3) + (-(V 11 l 3)))) 11 l 0 ((V 11 l 0) + (V 11 l 1))) 11 l 1 0) ρ40 := by rw [e_ρ40, show ((22 * l) + 13) = 22 * l + 13 from by omega]; exact Sρ39.p11 (by first | assumption | decide | exact xs_ (by decide) | exact xc_ (by decide) | exact x31_ (by decide) | omega) (by first | assumption | decide | exact xs_ (by decide) | exact xc_ (by decide) | exact x31_ (by decide) | omega) (by first | assumption | decide | exact xs_ (by decide) | exact xc_ (by decide) | exact x31_ (by decide) | omega)
        have r16a_ρ40 : ρ40 31 0 (22 * l + 16) = 1 := by rw [e_ρ40]; exact (mu_ne (by first | assumption | decide | exact xs_ (by decide) | exact xc_ (by decide) | exact x31_ (by decide) | omega)).trans r16a_ρ39
        have r17b_ρ40 : ρ40 31 0 (22 * l + 17) = 0 := by rw [e_ρ40]; exact (mu_ne (by first | assumption | decide | exact xs_ (by decide) | exact xc_ (by decide) | exact x31_ (by decide) | omega)).trans r17b_ρ39
        have Xρ40 : KX t l (mu (mu (mu V 11 l 3 ((V 11 l 3) + (-(V 11 l 3)))) 11 l 0 ((V 11 l 0) + (V 11 l 1))) 11 l 1 0) ρ40 := (Xρ39).e (fun m a b c => by rw [e_ρ40]; exact ⟨mu_ne (by first | assumption | decide | exact xs_ (by decide) | exact xc_ (by decide) | exact x31_ (by decide) | omega), mu_ne (by first | assumption | decide | exact xs_ (by decide) | exact xc_ (by decide) | exact x31_ (by decide) | omega)⟩) (fun m c => mu_ne (by first | assumption | decide | exact xs_ (by decide) | exact xc_ (by decide) | exact x31_ (by decide) | omega))
        have Fρ40 : FB (mu (mu (mu V 11 l 3 ((V 11 l 3) + (-(V 11 l 3)))) 11 l 0 ((V 11 l 0) + (V 11 l 1))) 11 l 1 0) ρ40 := by rw [e_ρ40]; exact (Fρ39).e (fun l a b => mu_ne (by first | assumption | decide | exact xs_ (by decide) | exact xc_ (by decide) | exact x31_ (by decide) | omega)) |>.v (fun l y a b c => mu_ne (by first | assumption | decide | exact xs_ (by decide) | exact xc_ (by decide) | exact x31_ (by decide) | omega))
        refine r_aload_n hC dX6_goFlip_96 rfl ?_
        refine r_iload_n hC dX6_goFlip_97 rfl ?_
        refine r_bipush hC dX6_goFlip_98 rfl ?_
        refine r_iconst hC dX6_goFlip_100 rfl ?_
        refine z_inv3 hM dX6_goFlip_101 vl_RX6_173 rfl rfl rfl (Nat.le_of_ble_eq_true rfl) (Nat.le_of_ble_eq_true rfl) ?_
        refine y_set (by first | assumption | decide | exact xs_ (by decide) | exact xc_ (by decide) | exact x31_ (by decide) | omega) (by first | assumption | decide | exact xs_ (by decide) | exact xc_ (by decide) | exact x31_ (by decide) | omega) ⟨fun h => by omega, fun h => by omega⟩ ?_
        obtain ⟨ρ41, e_ρ41⟩ : ∃ zz_, zz_ = mu ρ40 31 0 ((22 * l) + 16) 0 := ⟨_, rfl⟩
        rw [← e_ρ41]
        have Sρ41 : SB t σ0 (mu (mu (mu V 11 l 3 ((V 11 l 3) + (-(V 11 l 3)))) 11 l 0 ((V 11 l 0) + (V 11 l 1))) 11 l 1 0) ρ41 := by rw [e_ρ41, show ((22 * l) + 16) = 22 * l + 16 from by omega]; exact Sρ40.px (by first | assumption | decide | exact xs_ (by decide) | exact xc_ (by decide) | exact x31_ (by decide) | omega)
        have r16a_ρ41 : ρ41 31 0 (22 * l + 16) = 0 := by rw [e_ρ41, show ((22 * l) + 16) = 22 * l + 16 from by omega]; exact mu_self _ _ _ _ _
        have r17b_ρ41 : ρ41 31 0 (22 * l + 17) = 0 := by rw [e_ρ41]; exact (mu_ne (by first | assumption | decide | exact xs_ (by decide) | exact xc_ (by decide) | exact x31_ (by decide) | omega)).trans r17b_ρ40
        have Xρ41 : KX t l (mu (mu (mu V 11 l 3 ((V 11 l 3) + (-(V 11 l 3)))) 11 l 0 ((V 11 l 0) + (V 11 l 1))) 11 l 1 0) ρ41 := (Xρ40).e (fun m a b c => by rw [e_ρ41]; exact ⟨mu_ne (by first | assumption | decide | exact xs_ (by decide) | exact xc_ (by decide) | exact x31_ (by decide) | omega), mu_ne (by first | assumption | decide | exact xs_ (by decide) | exact xc_ (by decide) | exact x31_ (by decide) | omega)⟩) (fun m c => rfl)
        have Fρ41 : FB (mu (mu (mu V 11 l 3 ((V 11 l 3) + (-(V 11 l 3)))) 11 l 0 ((V 11 l 0) + (V 11 l 1))) 11 l 1 0) ρ41 := by rw [e_ρ41]; exact (Fρ40).e (fun l a b => mu_ne (by first | assumption | decide | exact xs_ (by decide) | exact xc_ (by decide) | exact x31_ (by decide) | omega))
        refine r_iload_n hC dX6_goFlip_104 rfl ?_
        refine y_iret hK rfl dX6_goFlip_105 ?_
        first
        | (exfalso; omega)
        | (have hV : (mu (mu (mu V 11 l 3 ((V 11 l 3) + (-(V 11 l 3)))) 11 l 0 ((V 11 l 0) + (V 11 l 1))) 11 l 1 0) = (mu (mu (mu V 11 l 3 0) 11 l 0 (V 11 l 0 + V 11 l 1)) 11 l 1 0) := mu_eq3 (by first | assumption | decide | exact xs_ (by decide) | exact xc_ (by decide) | exact x31_ (by decide) | omega) (by first | assumption | decide | exact xs_ (by decide) | exact xc_ (by decide) | exact x31_ (by decide) | omega)
           have hv : ((V 11 l 3) - fr) = (if 0 < V 11 l 3 then V 11 l 3 - fr else 0) := by first | omega | (rw [if_pos (by first | assumption | decide | exact xs_ (by decide) | exact xc_ (by decide) | exact x31_ (by decide) | omega)]; omega) | (rw [if_pos (by first | assumption | decide | exact xs_ (by decide) | exact xc_ (by decide) | exact x31_ (by decide) | omega)]) | (rw [if_neg (by first | assumption | decide | exact xs_ (by decide) | exact xc_ (by decide) | exact x31_ (by decide) | omega)]; omega) | (rw [if_neg (by first | assumption | decide | exact xs_ (by decide) | exact xc_ (by decide) | exact x31_ (by decide) | omega)])
           have h17_ : (0 : Int) = (if 0 < V 11 l 3 then 0 else fr) := by first | omega | exact (if_pos (by first | assumption | decide | exact xs_ (by decide) | exact xc_ (by decide) | exact x31_ (by decide) | omega)).symm | exact (if_neg (by first | assumption | decide | exact xs_ (by decide) | exact xc_ (by decide) | exact x31_ (by decide) | omega)).symm
           have q1 := Sρ41
           have q2 := Xρ41
           have q3 := Fρ41
           rw [hV] at q1 q2 q3
           rw [hv]
           exact k0 (by first | assumption | decide | exact xs_ (by decide) | exact xc_ (by decide) | exact x31_ (by decide) | omega) _ q1 q2 q3 r16a_ρ41 (r17b_ρ41.trans h17_))
      · refine r_iload_n hC dX6_goFlip_72 rfl ?_
        refine y_iret hK rfl dX6_goFlip_73 ?_
        first
        | (exfalso; omega)
        | (have hV : (mu V 11 l 3 ((V 11 l 3) + (-(V 11 l 3)))) = (mu V 11 l 3 (V 11 l 3 - 3)) := mu_eq (by first | assumption | decide | exact xs_ (by decide) | exact xc_ (by decide) | exact x31_ (by decide) | omega)
           have hv : ((V 11 l 3) - fr) = 3 - fr := by first | omega | (rw [if_pos (by first | assumption | decide | exact xs_ (by decide) | exact xc_ (by decide) | exact x31_ (by decide) | omega)]; omega) | (rw [if_pos (by first | assumption | decide | exact xs_ (by decide) | exact xc_ (by decide) | exact x31_ (by decide) | omega)]) | (rw [if_neg (by first | assumption | decide | exact xs_ (by decide) | exact xc_ (by decide) | exact x31_ (by decide) | omega)]; omega) | (rw [if_neg (by first | assumption | decide | exact xs_ (by decide) | exact xc_ (by decide) | exact x31_ (by decide) | omega)])
           have h17_ : (0 : Int) = 0 := by first | omega | exact (if_pos (by first | assumption | decide | exact xs_ (by decide) | exact xc_ (by decide) | exact x31_ (by decide) | omega)).symm | exact (if_neg (by first | assumption | decide | exact xs_ (by decide) | exact xc_ (by decide) | exact x31_ (by decide) | omega)).symm
           have q1 := Sρ33
           have q2 := Xρ33
           have q3 := Fρ33
           rw [hV] at q1 q2 q3
           rw [hv]
           exact k1 (by first | assumption | decide | exact xs_ (by decide) | exact xc_ (by decide) | exact x31_ (by decide) | omega) _ q1 q2 q3 r16a_ρ33 (r17b_ρ33.trans h17_))
theorem em_0 {a0 a1 a2 a3 a4 a5 a6 w0 w1 w2 w3 w4 w5 w6 c : Int} (H : ¬ (a1 = 0 ∧ a2 > a0) ∧ 3 < (a3) ∧ (c + (3 - 0)) ≤ a6) : (a0) = (if (if (a1) = 0 ∧ (a2) > (a0) then (a2) + (a0) else (a3)) - min 3 (if (a1) = 0 ∧ (a2) > (a0) then (a2) + (a0) else (a3)) = 0 then (a0) + (if (a1) = 0 ∧ (a2) > (a0) then (a2) else (a1)) else (a0)) ∧ (a1) = (if (if (a1) = 0 ∧ (a2) > (a0) then (a2) + (a0) else (a3)) - min 3 (if (a1) = 0 ∧ (a2) > (a0) then (a2) + (a0) else (a3)) = 0 then 0 else (if (a1) = 0 ∧ (a2) > (a0) then (a2) else (a1))) ∧ (a2) = (if (a1) = 0 ∧ (a2) > (a0) then 0 else (a2)) ∧ ((a3) - 3) = ((if (a1) = 0 ∧ (a2) > (a0) then (a2) + (a0) else (a3)) - min 3 (if (a1) = 0 ∧ (a2) > (a0) then (a2) + (a0) else (a3))) ∧ (c + (3 - 0)) = (((if (a1) = 0 ∧ (a2) > (a0) then c - 1 else c) + min 3 (if (a1) = 0 ∧ (a2) > (a0) then (a2) + (a0) else (a3)))) ∧ (a5) + (c + (3 - 0)) = ((a5) + ((if (a1) = 0 ∧ (a2) > (a0) then c - 1 else c) + min 3 (if (a1) = 0 ∧ (a2) > (a0) then (a2) + (a0) else (a3)))) ∧ (a6) = (max (a6) ((if (a1) = 0 ∧ (a2) > (a0) then c - 1 else c) + min 3 (if (a1) = 0 ∧ (a2) > (a0) then (a2) + (a0) else (a3)))) := by
  obtain ⟨hbeg, k0, k1⟩ := H
  refine ⟨?_, ?_, ?_, ?_, ?_, ?_, ?_⟩ <;> first | (simp only [if_neg hbeg]; done) | ((try simp only [if_neg hbeg]); (repeat' split) <;> omega)
theorem em_1 {a0 a1 a2 a3 a4 a5 a6 w0 w1 w2 w3 w4 w5 w6 c : Int} (H : ¬ (a1 = 0 ∧ a2 > a0) ∧ 3 < (a3) ∧ a6 < (c + (3 - 0))) : (a0) = (if (if (a1) = 0 ∧ (a2) > (a0) then (a2) + (a0) else (a3)) - min 3 (if (a1) = 0 ∧ (a2) > (a0) then (a2) + (a0) else (a3)) = 0 then (a0) + (if (a1) = 0 ∧ (a2) > (a0) then (a2) else (a1)) else (a0)) ∧ (a1) = (if (if (a1) = 0 ∧ (a2) > (a0) then (a2) + (a0) else (a3)) - min 3 (if (a1) = 0 ∧ (a2) > (a0) then (a2) + (a0) else (a3)) = 0 then 0 else (if (a1) = 0 ∧ (a2) > (a0) then (a2) else (a1))) ∧ (a2) = (if (a1) = 0 ∧ (a2) > (a0) then 0 else (a2)) ∧ ((a3) - 3) = ((if (a1) = 0 ∧ (a2) > (a0) then (a2) + (a0) else (a3)) - min 3 (if (a1) = 0 ∧ (a2) > (a0) then (a2) + (a0) else (a3))) ∧ (c + (3 - 0)) = (((if (a1) = 0 ∧ (a2) > (a0) then c - 1 else c) + min 3 (if (a1) = 0 ∧ (a2) > (a0) then (a2) + (a0) else (a3)))) ∧ (a5) + (c + (3 - 0)) = ((a5) + ((if (a1) = 0 ∧ (a2) > (a0) then c - 1 else c) + min 3 (if (a1) = 0 ∧ (a2) > (a0) then (a2) + (a0) else (a3)))) ∧ (c + (3 - 0)) = (max (a6) ((if (a1) = 0 ∧ (a2) > (a0) then c - 1 else c) + min 3 (if (a1) = 0 ∧ (a2) > (a0) then (a2) + (a0) else (a3)))) := by
  obtain ⟨hbeg, k0, k1⟩ := H
  refine ⟨?_, ?_, ?_, ?_, ?_, ?_, ?_⟩ <;> first | (simp only [if_neg hbeg]; done) | ((try simp only [if_neg hbeg]); (repeat' split) <;> omega)
theorem em_2 {a0 a1 a2 a3 a4 a5 a6 w0 w1 w2 w3 w4 w5 w6 c : Int} (H : ¬ (a1 = 0 ∧ a2 > a0) ∧ (0 ≤ (a3) ∧ (a3) ≤ 3) ∧ (c + (if 0 < (a3) then (a3) - 0 else 0)) ≤ a6) : ((a0) + (a1)) = (if (if (a1) = 0 ∧ (a2) > (a0) then (a2) + (a0) else (a3)) - min 3 (if (a1) = 0 ∧ (a2) > (a0) then (a2) + (a0) else (a3)) = 0 then (a0) + (if (a1) = 0 ∧ (a2) > (a0) then (a2) else (a1)) else (a0)) ∧ 0 = (if (if (a1) = 0 ∧ (a2) > (a0) then (a2) + (a0) else (a3)) - min 3 (if (a1) = 0 ∧ (a2) > (a0) then (a2) + (a0) else (a3)) = 0 then 0 else (if (a1) = 0 ∧ (a2) > (a0) then (a2) else (a1))) ∧ (a2) = (if (a1) = 0 ∧ (a2) > (a0) then 0 else (a2)) ∧ 0 = ((if (a1) = 0 ∧ (a2) > (a0) then (a2) + (a0) else (a3)) - min 3 (if (a1) = 0 ∧ (a2) > (a0) then (a2) + (a0) else (a3))) ∧ (c + (if 0 < (a3) then (a3) - 0 else 0)) = (((if (a1) = 0 ∧ (a2) > (a0) then c - 1 else c) + min 3 (if (a1) = 0 ∧ (a2) > (a0) then (a2) + (a0) else (a3)))) ∧ (a5) + (c + (if 0 < (a3) then (a3) - 0 else 0)) = ((a5) + ((if (a1) = 0 ∧ (a2) > (a0) then c - 1 else c) + min 3 (if (a1) = 0 ∧ (a2) > (a0) then (a2) + (a0) else (a3)))) ∧ (a6) = (max (a6) ((if (a1) = 0 ∧ (a2) > (a0) then c - 1 else c) + min 3 (if (a1) = 0 ∧ (a2) > (a0) then (a2) + (a0) else (a3)))) := by
  obtain ⟨hbeg, k0, k1⟩ := H
  refine ⟨?_, ?_, ?_, ?_, ?_, ?_, ?_⟩ <;> first | (simp only [if_neg hbeg]; done) | ((try simp only [if_neg hbeg]); (repeat' split) <;> omega)
theorem em_3 {a0 a1 a2 a3 a4 a5 a6 w0 w1 w2 w3 w4 w5 w6 c : Int} (H : ¬ (a1 = 0 ∧ a2 > a0) ∧ (0 ≤ (a3) ∧ (a3) ≤ 3) ∧ a6 < (c + (if 0 < (a3) then (a3) - 0 else 0))) : ((a0) + (a1)) = (if (if (a1) = 0 ∧ (a2) > (a0) then (a2) + (a0) else (a3)) - min 3 (if (a1) = 0 ∧ (a2) > (a0) then (a2) + (a0) else (a3)) = 0 then (a0) + (if (a1) = 0 ∧ (a2) > (a0) then (a2) else (a1)) else (a0)) ∧ 0 = (if (if (a1) = 0 ∧ (a2) > (a0) then (a2) + (a0) else (a3)) - min 3 (if (a1) = 0 ∧ (a2) > (a0) then (a2) + (a0) else (a3)) = 0 then 0 else (if (a1) = 0 ∧ (a2) > (a0) then (a2) else (a1))) ∧ (a2) = (if (a1) = 0 ∧ (a2) > (a0) then 0 else (a2)) ∧ 0 = ((if (a1) = 0 ∧ (a2) > (a0) then (a2) + (a0) else (a3)) - min 3 (if (a1) = 0 ∧ (a2) > (a0) then (a2) + (a0) else (a3))) ∧ (c + (if 0 < (a3) then (a3) - 0 else 0)) = (((if (a1) = 0 ∧ (a2) > (a0) then c - 1 else c) + min 3 (if (a1) = 0 ∧ (a2) > (a0) then (a2) + (a0) else (a3)))) ∧ (a5) + (c + (if 0 < (a3) then (a3) - 0 else 0)) = ((a5) + ((if (a1) = 0 ∧ (a2) > (a0) then c - 1 else c) + min 3 (if (a1) = 0 ∧ (a2) > (a0) then (a2) + (a0) else (a3)))) ∧ (c + (if 0 < (a3) then (a3) - 0 else 0)) = (max (a6) ((if (a1) = 0 ∧ (a2) > (a0) then c - 1 else c) + min 3 (if (a1) = 0 ∧ (a2) > (a0) then (a2) + (a0) else (a3)))) := by
  obtain ⟨hbeg, k0, k1⟩ := H
  refine ⟨?_, ?_, ?_, ?_, ?_, ?_, ?_⟩ <;> first | (simp only [if_neg hbeg]; done) | ((try simp only [if_neg hbeg]); (repeat' split) <;> omega)
theorem em_4 {a0 a1 a2 a3 a4 a5 a6 w0 w1 w2 w3 w4 w5 w6 c : Int} (H : ¬ (a1 = 0 ∧ a2 > a0) ∧ (a1 = 0 ∧ a3 = 0) ∧ c ≤ a6) : (a0) = (if (if (a1) = 0 ∧ (a2) > (a0) then (a2) + (a0) else (a3)) - min 3 (if (a1) = 0 ∧ (a2) > (a0) then (a2) + (a0) else (a3)) = 0 then (a0) + (if (a1) = 0 ∧ (a2) > (a0) then (a2) else (a1)) else (a0)) ∧ (a1) = (if (if (a1) = 0 ∧ (a2) > (a0) then (a2) + (a0) else (a3)) - min 3 (if (a1) = 0 ∧ (a2) > (a0) then (a2) + (a0) else (a3)) = 0 then 0 else (if (a1) = 0 ∧ (a2) > (a0) then (a2) else (a1))) ∧ (a2) = (if (a1) = 0 ∧ (a2) > (a0) then 0 else (a2)) ∧ (a3) = ((if (a1) = 0 ∧ (a2) > (a0) then (a2) + (a0) else (a3)) - min 3 (if (a1) = 0 ∧ (a2) > (a0) then (a2) + (a0) else (a3))) ∧ c = (((if (a1) = 0 ∧ (a2) > (a0) then c - 1 else c) + min 3 (if (a1) = 0 ∧ (a2) > (a0) then (a2) + (a0) else (a3)))) ∧ (a5) + c = ((a5) + ((if (a1) = 0 ∧ (a2) > (a0) then c - 1 else c) + min 3 (if (a1) = 0 ∧ (a2) > (a0) then (a2) + (a0) else (a3)))) ∧ (a6) = (max (a6) ((if (a1) = 0 ∧ (a2) > (a0) then c - 1 else c) + min 3 (if (a1) = 0 ∧ (a2) > (a0) then (a2) + (a0) else (a3)))) := by
  obtain ⟨hbeg, k0, k1⟩ := H
  refine ⟨?_, ?_, ?_, ?_, ?_, ?_, ?_⟩ <;> first | (simp only [if_neg hbeg]; done) | ((try simp only [if_neg hbeg]); (repeat' split) <;> omega)
theorem em_5 {a0 a1 a2 a3 a4 a5 a6 w0 w1 w2 w3 w4 w5 w6 c : Int} (H : ¬ (a1 = 0 ∧ a2 > a0) ∧ (a1 = 0 ∧ a3 = 0) ∧ a6 < c) : (a0) = (if (if (a1) = 0 ∧ (a2) > (a0) then (a2) + (a0) else (a3)) - min 3 (if (a1) = 0 ∧ (a2) > (a0) then (a2) + (a0) else (a3)) = 0 then (a0) + (if (a1) = 0 ∧ (a2) > (a0) then (a2) else (a1)) else (a0)) ∧ (a1) = (if (if (a1) = 0 ∧ (a2) > (a0) then (a2) + (a0) else (a3)) - min 3 (if (a1) = 0 ∧ (a2) > (a0) then (a2) + (a0) else (a3)) = 0 then 0 else (if (a1) = 0 ∧ (a2) > (a0) then (a2) else (a1))) ∧ (a2) = (if (a1) = 0 ∧ (a2) > (a0) then 0 else (a2)) ∧ (a3) = ((if (a1) = 0 ∧ (a2) > (a0) then (a2) + (a0) else (a3)) - min 3 (if (a1) = 0 ∧ (a2) > (a0) then (a2) + (a0) else (a3))) ∧ c = (((if (a1) = 0 ∧ (a2) > (a0) then c - 1 else c) + min 3 (if (a1) = 0 ∧ (a2) > (a0) then (a2) + (a0) else (a3)))) ∧ (a5) + c = ((a5) + ((if (a1) = 0 ∧ (a2) > (a0) then c - 1 else c) + min 3 (if (a1) = 0 ∧ (a2) > (a0) then (a2) + (a0) else (a3)))) ∧ c = (max (a6) ((if (a1) = 0 ∧ (a2) > (a0) then c - 1 else c) + min 3 (if (a1) = 0 ∧ (a2) > (a0) then (a2) + (a0) else (a3)))) := by
  obtain ⟨hbeg, k0, k1⟩ := H
  refine ⟨?_, ?_, ?_, ?_, ?_, ?_, ?_⟩ <;> first | (simp only [if_neg hbeg]; done) | ((try simp only [if_neg hbeg]); (repeat' split) <;> omega)
theorem em_6 {a0 a1 a2 a3 a4 a5 a6 w0 w1 w2 w3 w4 w5 w6 c : Int} (H : (a1 = 0 ∧ a2 > a0) ∧ w0 = a0 ∧ w1 = a2 ∧ w2 = 0 ∧ w3 = a2 + a0 ∧ w4 = a4 ∧ w5 = a5 ∧ w6 = a6 ∧ 0 ≤ a0 ∧ 3 < (w3) ∧ (c + (3 - 1)) ≤ a6) : (w0) = (if (if (a1) = 0 ∧ (a2) > (a0) then (a2) + (a0) else (a3)) - min 3 (if (a1) = 0 ∧ (a2) > (a0) then (a2) + (a0) else (a3)) = 0 then (a0) + (if (a1) = 0 ∧ (a2) > (a0) then (a2) else (a1)) else (a0)) ∧ (w1) = (if (if (a1) = 0 ∧ (a2) > (a0) then (a2) + (a0) else (a3)) - min 3 (if (a1) = 0 ∧ (a2) > (a0) then (a2) + (a0) else (a3)) = 0 then 0 else (if (a1) = 0 ∧ (a2) > (a0) then (a2) else (a1))) ∧ (w2) = (if (a1) = 0 ∧ (a2) > (a0) then 0 else (a2)) ∧ ((w3) - 3) = ((if (a1) = 0 ∧ (a2) > (a0) then (a2) + (a0) else (a3)) - min 3 (if (a1) = 0 ∧ (a2) > (a0) then (a2) + (a0) else (a3))) ∧ (c + (3 - 1)) = (((if (a1) = 0 ∧ (a2) > (a0) then c - 1 else c) + min 3 (if (a1) = 0 ∧ (a2) > (a0) then (a2) + (a0) else (a3)))) ∧ (w5) + (c + (3 - 1)) = ((a5) + ((if (a1) = 0 ∧ (a2) > (a0) then c - 1 else c) + min 3 (if (a1) = 0 ∧ (a2) > (a0) then (a2) + (a0) else (a3)))) ∧ (w6) = (max (a6) ((if (a1) = 0 ∧ (a2) > (a0) then c - 1 else c) + min 3 (if (a1) = 0 ∧ (a2) > (a0) then (a2) + (a0) else (a3)))) := by
  obtain ⟨hbeg, k0, k1, k2, k3⟩ := H
  refine ⟨?_, ?_, ?_, ?_, ?_, ?_, ?_⟩ <;> first | (simp only [if_pos hbeg]; done) | ((try simp only [if_pos hbeg]); (repeat' split) <;> omega)
theorem em_7 {a0 a1 a2 a3 a4 a5 a6 w0 w1 w2 w3 w4 w5 w6 c : Int} (H : (a1 = 0 ∧ a2 > a0) ∧ w0 = a0 ∧ w1 = a2 ∧ w2 = 0 ∧ w3 = a2 + a0 ∧ w4 = a4 ∧ w5 = a5 ∧ w6 = a6 ∧ 0 ≤ a0 ∧ 3 < (w3) ∧ a6 < (c + (3 - 1))) : (w0) = (if (if (a1) = 0 ∧ (a2) > (a0) then (a2) + (a0) else (a3)) - min 3 (if (a1) = 0 ∧ (a2) > (a0) then (a2) + (a0) else (a3)) = 0 then (a0) + (if (a1) = 0 ∧ (a2) > (a0) then (a2) else (a1)) else (a0)) ∧ (w1) = (if (if (a1) = 0 ∧ (a2) > (a0) then (a2) + (a0) else (a3)) - min 3 (if (a1) = 0 ∧ (a2) > (a0) then (a2) + (a0) else (a3)) = 0 then 0 else (if (a1) = 0 ∧ (a2) > (a0) then (a2) else (a1))) ∧ (w2) = (if (a1) = 0 ∧ (a2) > (a0) then 0 else (a2)) ∧ ((w3) - 3) = ((if (a1) = 0 ∧ (a2) > (a0) then (a2) + (a0) else (a3)) - min 3 (if (a1) = 0 ∧ (a2) > (a0) then (a2) + (a0) else (a3))) ∧ (c + (3 - 1)) = (((if (a1) = 0 ∧ (a2) > (a0) then c - 1 else c) + min 3 (if (a1) = 0 ∧ (a2) > (a0) then (a2) + (a0) else (a3)))) ∧ (w5) + (c + (3 - 1)) = ((a5) + ((if (a1) = 0 ∧ (a2) > (a0) then c - 1 else c) + min 3 (if (a1) = 0 ∧ (a2) > (a0) then (a2) + (a0) else (a3)))) ∧ (c + (3 - 1)) = (max (a6) ((if (a1) = 0 ∧ (a2) > (a0) then c - 1 else c) + min 3 (if (a1) = 0 ∧ (a2) > (a0) then (a2) + (a0) else (a3)))) := by
  obtain ⟨hbeg, k0, k1, k2, k3⟩ := H
  refine ⟨?_, ?_, ?_, ?_, ?_, ?_, ?_⟩ <;> first | (simp only [if_pos hbeg]; done) | ((try simp only [if_pos hbeg]); (repeat' split) <;> omega)
theorem em_8 {a0 a1 a2 a3 a4 a5 a6 w0 w1 w2 w3 w4 w5 w6 c : Int} (H : (a1 = 0 ∧ a2 > a0) ∧ w0 = a0 ∧ w1 = a2 ∧ w2 = 0 ∧ w3 = a2 + a0 ∧ w4 = a4 ∧ w5 = a5 ∧ w6 = a6 ∧ 0 ≤ a0 ∧ (0 ≤ (w3) ∧ (w3) ≤ 3) ∧ (c + (if 0 < (w3) then (w3) - 1 else 0)) ≤ a6) : ((w0) + (w1)) = (if (if (a1) = 0 ∧ (a2) > (a0) then (a2) + (a0) else (a3)) - min 3 (if (a1) = 0 ∧ (a2) > (a0) then (a2) + (a0) else (a3)) = 0 then (a0) + (if (a1) = 0 ∧ (a2) > (a0) then (a2) else (a1)) else (a0)) ∧ 0 = (if (if (a1) = 0 ∧ (a2) > (a0) then (a2) + (a0) else (a3)) - min 3 (if (a1) = 0 ∧ (a2) > (a0) then (a2) + (a0) else (a3)) = 0 then 0 else (if (a1) = 0 ∧ (a2) > (a0) then (a2) else (a1))) ∧ (w2) = (if (a1) = 0 ∧ (a2) > (a0) then 0 else (a2)) ∧ 0 = ((if (a1) = 0 ∧ (a2) > (a0) then (a2) + (a0) else (a3)) - min 3 (if (a1) = 0 ∧ (a2) > (a0) then (a2) + (a0) else (a3))) ∧ (c + (if 0 < (w3) then (w3) - 1 else 0)) = (((if (a1) = 0 ∧ (a2) > (a0) then c - 1 else c) + min 3 (if (a1) = 0 ∧ (a2) > (a0) then (a2) + (a0) else (a3)))) ∧ (w5) + (c + (if 0 < (w3) then (w3) - 1 else 0)) = ((a5) + ((if (a1) = 0 ∧ (a2) > (a0) then c - 1 else c) + min 3 (if (a1) = 0 ∧ (a2) > (a0) then (a2) + (a0) else (a3)))) ∧ (w6) = (max (a6) ((if (a1) = 0 ∧ (a2) > (a0) then c - 1 else c) + min 3 (if (a1) = 0 ∧ (a2) > (a0) then (a2) + (a0) else (a3)))) := by
  obtain ⟨hbeg, k0, k1, k2, k3⟩ := H
  refine ⟨?_, ?_, ?_, ?_, ?_, ?_, ?_⟩ <;> first | (simp only [if_pos hbeg]; done) | ((try simp only [if_pos hbeg]); (repeat' split) <;> omega)
theorem em_9 {a0 a1 a2 a3 a4 a5 a6 w0 w1 w2 w3 w4 w5 w6 c : Int} (H : (a1 = 0 ∧ a2 > a0) ∧ w0 = a0 ∧ w1 = a2 ∧ w2 = 0 ∧ w3 = a2 + a0 ∧ w4 = a4 ∧ w5 = a5 ∧ w6 = a6 ∧ 0 ≤ a0 ∧ (0 ≤ (w3) ∧ (w3) ≤ 3) ∧ a6 < (c + (if 0 < (w3) then (w3) - 1 else 0))) : ((w0) + (w1)) = (if (if (a1) = 0 ∧ (a2) > (a0) then (a2) + (a0) else (a3)) - min 3 (if (a1) = 0 ∧ (a2) > (a0) then (a2) + (a0) else (a3)) = 0 then (a0) + (if (a1) = 0 ∧ (a2) > (a0) then (a2) else (a1)) else (a0)) ∧ 0 = (if (if (a1) = 0 ∧ (a2) > (a0) then (a2) + (a0) else (a3)) - min 3 (if (a1) = 0 ∧ (a2) > (a0) then (a2) + (a0) else (a3)) = 0 then 0 else (if (a1) = 0 ∧ (a2) > (a0) then (a2) else (a1))) ∧ (w2) = (if (a1) = 0 ∧ (a2) > (a0) then 0 else (a2)) ∧ 0 = ((if (a1) = 0 ∧ (a2) > (a0) then (a2) + (a0) else (a3)) - min 3 (if (a1) = 0 ∧ (a2) > (a0) then (a2) + (a0) else (a3))) ∧ (c + (if 0 < (w3) then (w3) - 1 else 0)) = (((if (a1) = 0 ∧ (a2) > (a0) then c - 1 else c) + min 3 (if (a1) = 0 ∧ (a2) > (a0) then (a2) + (a0) else (a3)))) ∧ (w5) + (c + (if 0 < (w3) then (w3) - 1 else 0)) = ((a5) + ((if (a1) = 0 ∧ (a2) > (a0) then c - 1 else c) + min 3 (if (a1) = 0 ∧ (a2) > (a0) then (a2) + (a0) else (a3)))) ∧ (c + (if 0 < (w3) then (w3) - 1 else 0)) = (max (a6) ((if (a1) = 0 ∧ (a2) > (a0) then c - 1 else c) + min 3 (if (a1) = 0 ∧ (a2) > (a0) then (a2) + (a0) else (a3)))) := by
  obtain ⟨hbeg, k0, k1, k2, k3⟩ := H
  refine ⟨?_, ?_, ?_, ?_, ?_, ?_, ?_⟩ <;> first | (simp only [if_pos hbeg]; done) | ((try simp only [if_pos hbeg]); (repeat' split) <;> omega)
theorem y_endMoveW {eb : Bool} {t : Int} {V : Mm} {d : Nat} {P : Option Vl → Mm → Prop} {σ : Mm} {l c : Int} (b_l : 0 ≤ l ∧ l ≤ 7) (b_c : 0 ≤ c ∧ c ≤ 1) {σ0 : Mm} {fl fr : Int} (ht : 6 ≤ t ∧ t ≤ 7) (hS : SB t σ0 V σ) (hX : KX t l V σ) (hFB : FB V σ) (hl : l ≤ t) (hL : LK V l) (hb : (0 ≤ V 11 l 0 ∧ V 11 l 0 ≤ 400) ∧ (0 ≤ V 11 l 1 ∧ V 11 l 1 ≤ 400) ∧ (0 ≤ V 11 l 2 ∧ V 11 l 2 ≤ 400) ∧ 0 ≤ V 11 l 3 ∧ V 11 l 3 ≤ 1000) (hfl : (fl = 0 ∧ V 11 l 1 = 0 ∧ V 11 l 3 = 0) ∨ (fl = 1 ∧ V 11 l 1 ≠ 0)) (h16 : σ 31 0 (22 * l + 16) = fl) (h17 : σ 31 0 (22 * l + 17) = 0)  (k : ∀ ρ : Mm, RS t σ0 (rgM (su V 11 l (emR c (V 11 l))) l) ρ → P none ρ) : WT (true, eb, true) (d + 7) 177 [vR 30 0, vI l, vI c] σ P := by
  refine WT_in fun K hK => ?_
  have hK : StpY (true, eb, true) cX6_endMove RX6 (none) (WT (true, eb, true) (d + 6)) P K := hK
  have hM := hK.1
  have hC := hK.1.1
  show K 0 [some (vR 30 0), some (vI l), some (vI c), none] [] σ
  refine r_iload_n hC dX6_endMove_0 rfl ?_
  refine r_istore_n hC dX6_endMove_1 rfl ?_
  refine r_aload_n hC dX6_endMove_2 rfl ?_
  refine r_iload_n hC dX6_endMove_3 rfl ?_
  refine r_bipush hC dX6_endMove_4 rfl ?_
  refine z_inv2 hM dX6_endMove_6 vl_RX6_80 rfl rfl rfl (Nat.le_of_ble_eq_true rfl) (Nat.le_of_ble_eq_true rfl) ?_
  refine y_of (by first | assumption | decide | exact xs_ (by decide) | exact xc_ (by decide) | exact x31_ (by decide) | omega) (by first | assumption | decide | exact xs_ (by decide) | exact xc_ (by decide) | exact x31_ (by decide) | omega) (by first | assumption | decide | exact xs_ (by decide) | exact xc_ (by decide) | exact x31_ (by decide) | omega) (fun o1 => ?_)
  rw [h16]
  refine r_if_ne (tgt := 89) hC dX6_endMove_9 rfl (fun h2 => ?_) (fun h2 => ?_)
  · refine r_aload_n hC dX6_endMove_89 rfl ?_
    refine r_iload_n hC dX6_endMove_90 rfl ?_
    refine r_bipush hC dX6_endMove_91 rfl ?_
    refine z_inv2 hM dX6_endMove_93 vl_RX6_80 rfl rfl rfl (Nat.le_of_ble_eq_true rfl) (Nat.le_of_ble_eq_true rfl) ?_
    refine y_of (by first | assumption | decide | exact xs_ (by decide) | exact xc_ (by decide) | exact x31_ (by decide) | omega) (by first | assumption | decide | exact xs_ (by decide) | exact xc_ (by decide) | exact x31_ (by decide) | omega) (by first | assumption | decide | exact xs_ (by decide) | exact xc_ (by decide) | exact x31_ (by decide) | omega) (fun o3 => ?_)
    rw [h16]
    refine r_iconst hC dX6_endMove_96 rfl ?_
    refine r_icmp_ne (tgt := 108) hC dX6_endMove_97 rfl (fun h4 => by omega) (fun h4 => ?_)
    refine r_iload_n hC dX6_endMove_100 rfl ?_
    refine r_aload_n hC dX6_endMove_101 rfl ?_
    refine r_iload_n hC dX6_endMove_102 rfl ?_
    refine z_inv1 hM dX6_endMove_103 vl_RX6_185 rfl rfl rfl (Nat.le_of_ble_eq_true rfl) (Nat.le_of_ble_eq_true rfl) ?_
    refine y_goFlipW (V := V) (fl := 1) (fr := 0) (by first | assumption | decide | exact xs_ (by decide) | exact xc_ (by decide) | exact x31_ (by decide) | omega) ht hS hX hFB (by first | assumption | decide | exact xs_ (by decide) | exact xc_ (by decide) | exact x31_ (by decide) | omega) (by first | assumption | decide | exact xs_ (by decide) | exact xc_ (by decide) | exact x31_ (by decide) | omega) (by first | assumption | decide | exact xs_ (by decide) | exact xc_ (by decide) | exact x31_ (by decide) | omega) (h16.trans (by first | assumption | decide | exact xs_ (by decide) | exact xc_ (by decide) | exact x31_ (by decide) | omega)) h17 (fun hgo ρg Sg Xg Fg r16g r17g => ?_) (fun hgo ρg Sg Xg Fg r16g r17g => ?_)
    · refine r_iaddE hC ((c + (3 - 0))) dX6_endMove_106 (by first | assumption | decide | exact xs_ (by decide) | exact xc_ (by decide) | exact x31_ (by decide) | omega) (by unfold inR; omega) ?_
      refine r_istore_n hC dX6_endMove_107 rfl ?_
      refine r_aload_n hC dX6_endMove_108 rfl ?_
      refine r_iload_n hC dX6_endMove_109 rfl ?_
      refine r_bipush hC dX6_endMove_110 rfl ?_
      refine r_iload_n hC dX6_endMove_112 rfl ?_
      refine z_inv3 hM dX6_endMove_113 vl_RX6_173 rfl rfl rfl (Nat.le_of_ble_eq_true rfl) (Nat.le_of_ble_eq_true rfl) ?_
      refine y_set (by first | assumption | decide | exact xs_ (by decide) | exact xc_ (by decide) | exact x31_ (by decide) | omega) (by first | assumption | decide | exact xs_ (by decide) | exact xc_ (by decide) | exact x31_ (by decide) | omega) ⟨fun h => by omega, fun h => by omega⟩ ?_
      obtain ⟨ρ5, e_ρ5⟩ : ∃ zz_, zz_ = mu ρg 31 0 ((22 * l) + 18) (c + (3 - 0)) := ⟨_, rfl⟩
      rw [← e_ρ5]
      have Sρ5 : SB t σ0 (mu (mu V 11 l 3 ((V 11 l 3) - 3)) 11 l 4 (c + (3 - 0))) ρ5 := by rw [e_ρ5, show ((22 * l) + 18) = 22 * l + 18 from by omega]; exact Sg.p11 (by first | assumption | decide | exact xs_ (by decide) | exact xc_ (by decide) | exact x31_ (by decide) | omega) (by first | assumption | decide | exact xs_ (by decide) | exact xc_ (by decide) | exact x31_ (by decide) | omega) (by first | assumption | decide | exact xs_ (by decide) | exact xc_ (by decide) | exact x31_ (by decide) | omega)
      have r16a_ρ5 : ρ5 31 0 (22 * l + 16) = 1 := by rw [e_ρ5]; exact (mu_ne (by first | assumption | decide | exact xs_ (by decide) | exact xc_ (by decide) | exact x31_ (by decide) | omega)).trans r16g
      have r17b_ρ5 : ρ5 31 0 (22 * l + 17) = 0 := by rw [e_ρ5]; exact (mu_ne (by first | assumption | decide | exact xs_ (by decide) | exact xc_ (by decide) | exact x31_ (by decide) | omega)).trans r17g
      have Xρ5 : KX t l (mu (mu V 11 l 3 ((V 11 l 3) - 3)) 11 l 4 (c + (3 - 0))) ρ5 := (Xg).e (fun m a b c => by rw [e_ρ5]; exact ⟨mu_ne (by first | assumption | decide | exact xs_ (by decide) | exact xc_ (by decide) | exact x31_ (by decide) | omega), mu_ne (by first | assumption | decide | exact xs_ (by decide) | exact xc_ (by decide) | exact x31_ (by decide) | omega)⟩) (fun m c => mu_ne (by first | assumption | decide | exact xs_ (by decide) | exact xc_ (by decide) | exact x31_ (by decide) | omega))
      have Fρ5 : FB (mu (mu V 11 l 3 ((V 11 l 3) - 3)) 11 l 4 (c + (3 - 0))) ρ5 := by rw [e_ρ5]; exact (Fg).e (fun l a b => mu_ne (by first | assumption | decide | exact xs_ (by decide) | exact xc_ (by decide) | exact x31_ (by decide) | omega)) |>.v (fun l y a b c => mu_ne (by first | assumption | decide | exact xs_ (by decide) | exact xc_ (by decide) | exact x31_ (by decide) | omega))
      refine r_aload_n hC dX6_endMove_116 rfl ?_
      refine r_iload_n hC dX6_endMove_117 rfl ?_
      refine r_bipush hC dX6_endMove_118 rfl ?_
      refine r_iload_n hC dX6_endMove_120 rfl ?_
      refine z_inv3 hM dX6_endMove_121 vl_RX6_188 rfl rfl rfl (Nat.le_of_ble_eq_true rfl) (Nat.le_of_ble_eq_true rfl) ?_
      refine y_moreW (a := (V 11 l 5)) (by first | assumption | decide | exact xs_ (by decide) | exact xc_ (by decide) | exact x31_ (by decide) | omega) (by first | assumption | decide | exact xs_ (by decide) | exact xc_ (by decide) | exact x31_ (by decide) | omega) ⟨fun h => by omega, by omega⟩ ((Sρ5.a11 (s := 5) (f := 19) (by first | assumption | decide | exact xs_ (by decide) | exact xc_ (by decide) | exact x31_ (by decide) | omega) (by first | assumption | decide | exact xs_ (by decide) | exact xc_ (by decide) | exact x31_ (by decide) | omega) (by first | assumption | decide | exact xs_ (by decide) | exact xc_ (by decide) | exact x31_ (by decide) | omega)).trans ((mu_ne (by first | assumption | decide | exact xs_ (by decide) | exact xc_ (by decide) | exact x31_ (by decide) | omega)).trans ((mu_ne (by first | assumption | decide | exact xs_ (by decide) | exact xc_ (by decide) | exact x31_ (by decide) | omega)).trans (rfl)))) (by first | assumption | decide | exact xs_ (by decide) | exact xc_ (by decide) | exact x31_ (by decide) | omega) ?_
      obtain ⟨ρ6, e_ρ6⟩ : ∃ zz_, zz_ = mu ρ5 31 0 ((22 * l) + 19) (wr ((V 11 l 5) + (c + (3 - 0)))) := ⟨_, rfl⟩
      rw [← e_ρ6]
      have Sρ6 : SB t σ0 (mu (mu (mu V 11 l 3 ((V 11 l 3) - 3)) 11 l 4 (c + (3 - 0))) 11 l 5 (wr ((V 11 l 5) + (c + (3 - 0))))) ρ6 := by rw [e_ρ6, show ((22 * l) + 19) = 22 * l + 19 from by omega]; exact Sρ5.p11 (by first | assumption | decide | exact xs_ (by decide) | exact xc_ (by decide) | exact x31_ (by decide) | omega) (by first | assumption | decide | exact xs_ (by decide) | exact xc_ (by decide) | exact x31_ (by decide) | omega) (by first | assumption | decide | exact xs_ (by decide) | exact xc_ (by decide) | exact x31_ (by decide) | omega)
      have r16a_ρ6 : ρ6 31 0 (22 * l + 16) = 1 := by rw [e_ρ6]; exact (mu_ne (by first | assumption | decide | exact xs_ (by decide) | exact xc_ (by decide) | exact x31_ (by decide) | omega)).trans r16a_ρ5
      have r17b_ρ6 : ρ6 31 0 (22 * l + 17) = 0 := by rw [e_ρ6]; exact (mu_ne (by first | assumption | decide | exact xs_ (by decide) | exact xc_ (by decide) | exact x31_ (by decide) | omega)).trans r17b_ρ5
      have Xρ6 : KX t l (mu (mu (mu V 11 l 3 ((V 11 l 3) - 3)) 11 l 4 (c + (3 - 0))) 11 l 5 (wr ((V 11 l 5) + (c + (3 - 0))))) ρ6 := (Xρ5).e (fun m a b c => by rw [e_ρ6]; exact ⟨mu_ne (by first | assumption | decide | exact xs_ (by decide) | exact xc_ (by decide) | exact x31_ (by decide) | omega), mu_ne (by first | assumption | decide | exact xs_ (by decide) | exact xc_ (by decide) | exact x31_ (by decide) | omega)⟩) (fun m c => mu_ne (by first | assumption | decide | exact xs_ (by decide) | exact xc_ (by decide) | exact x31_ (by decide) | omega))
      have Fρ6 : FB (mu (mu (mu V 11 l 3 ((V 11 l 3) - 3)) 11 l 4 (c + (3 - 0))) 11 l 5 (wr ((V 11 l 5) + (c + (3 - 0))))) ρ6 := by rw [e_ρ6]; exact (Fρ5).e (fun l a b => mu_ne (by first | assumption | decide | exact xs_ (by decide) | exact xc_ (by decide) | exact x31_ (by decide) | omega)) |>.v (fun l y a b c => mu_ne (by first | assumption | decide | exact xs_ (by decide) | exact xc_ (by decide) | exact x31_ (by decide) | omega))
      refine r_iload_n hC dX6_endMove_124 rfl ?_
      refine r_aload_n hC dX6_endMove_125 rfl ?_
      refine r_iload_n hC dX6_endMove_126 rfl ?_
      refine r_bipush hC dX6_endMove_127 rfl ?_
      refine z_inv2 hM dX6_endMove_129 vl_RX6_80 rfl rfl rfl (Nat.le_of_ble_eq_true rfl) (Nat.le_of_ble_eq_true rfl) ?_
      refine y_of (by first | assumption | decide | exact xs_ (by decide) | exact xc_ (by decide) | exact x31_ (by decide) | omega) (by first | assumption | decide | exact xs_ (by decide) | exact xc_ (by decide) | exact x31_ (by decide) | omega) (by first | assumption | decide | exact xs_ (by decide) | exact xc_ (by decide) | exact x31_ (by decide) | omega) (fun o7 => ?_)
      have e8 : ρ6 31 0 (22 * l + 20) = (V 11 l 6) := (Sρ6.a11 (s := 6) (f := 20) (by first | assumption | decide | exact xs_ (by decide) | exact xc_ (by decide) | exact x31_ (by decide) | omega) (by first | assumption | decide | exact xs_ (by decide) | exact xc_ (by decide) | exact x31_ (by decide) | omega) (by first | assumption | decide | exact xs_ (by decide) | exact xc_ (by decide) | exact x31_ (by decide) | omega)).trans ((mu_ne (by first | assumption | decide | exact xs_ (by decide) | exact xc_ (by decide) | exact x31_ (by decide) | omega)).trans ((mu_ne (by first | assumption | decide | exact xs_ (by decide) | exact xc_ (by decide) | exact x31_ (by decide) | omega)).trans ((mu_ne (by first | assumption | decide | exact xs_ (by decide) | exact xc_ (by decide) | exact x31_ (by decide) | omega)).trans (rfl))))
      rw [e8] at o7 ⊢
      refine r_icmp_le (tgt := 143) hC dX6_endMove_132 rfl (fun h9 => ?_) (fun h9 => ?_)
      · refine r_aload_n hC dX6_endMove_143 rfl ?_
        refine r_iload_n hC dX6_endMove_144 rfl ?_
        refine z_inv1 hM dX6_endMove_145 vl_RX6_191 rfl rfl rfl (Nat.le_of_ble_eq_true rfl) (Nat.le_of_ble_eq_true rfl) ?_
        have hbeg : ¬ (V 11 l 1 = 0 ∧ V 11 l 2 > V 11 l 0) := by omega
        have HF : ¬ (V 11 l 1 = 0 ∧ V 11 l 2 > V 11 l 0) ∧ 3 < (V 11 l 3) ∧ (c + (3 - 0)) ≤ V 11 l 6 := by refine ⟨hbeg, ?_, ?_⟩ <;> omega
        obtain ⟨n0, n1, n2, n3, n4, n5, n6⟩ := em_0 (a0 := V 11 l 0) (a1 := V 11 l 1) (a2 := V 11 l 2) (a3 := V 11 l 3) (a4 := V 11 l 4) (a5 := V 11 l 5) (a6 := V 11 l 6) (c := c) (w0 := V 11 l 0) (w1 := V 11 l 1) (w2 := V 11 l 2) (w3 := V 11 l 3) (w4 := V 11 l 4) (w5 := V 11 l 5) (w6 := V 11 l 6) HF
        have m0 : (mu (mu (mu V 11 l 3 ((V 11 l 3) - 3)) 11 l 4 (c + (3 - 0))) 11 l 5 (wr ((V 11 l 5) + (c + (3 - 0))))) 11 l 0 = (if (if (V 11 l 1) = 0 ∧ (V 11 l 2) > (V 11 l 0) then (V 11 l 2) + (V 11 l 0) else (V 11 l 3)) - min 3 (if (V 11 l 1) = 0 ∧ (V 11 l 2) > (V 11 l 0) then (V 11 l 2) + (V 11 l 0) else (V 11 l 3)) = 0 then (V 11 l 0) + (if (V 11 l 1) = 0 ∧ (V 11 l 2) > (V 11 l 0) then (V 11 l 2) else (V 11 l 1)) else (V 11 l 0)) := (show (mu (mu (mu V 11 l 3 ((V 11 l 3) - 3)) 11 l 4 (c + (3 - 0))) 11 l 5 (wr ((V 11 l 5) + (c + (3 - 0))))) 11 l 0 = (V 11 l 0) from ((mu_ne (by first | assumption | decide | exact xs_ (by decide) | exact xc_ (by decide) | exact x31_ (by decide) | omega)).trans ((mu_ne (by first | assumption | decide | exact xs_ (by decide) | exact xc_ (by decide) | exact x31_ (by decide) | omega)).trans ((mu_ne (by first | assumption | decide | exact xs_ (by decide) | exact xc_ (by decide) | exact x31_ (by decide) | omega)).trans (rfl))))).trans n0
        have m1 : (mu (mu (mu V 11 l 3 ((V 11 l 3) - 3)) 11 l 4 (c + (3 - 0))) 11 l 5 (wr ((V 11 l 5) + (c + (3 - 0))))) 11 l 1 = (if (if (V 11 l 1) = 0 ∧ (V 11 l 2) > (V 11 l 0) then (V 11 l 2) + (V 11 l 0) else (V 11 l 3)) - min 3 (if (V 11 l 1) = 0 ∧ (V 11 l 2) > (V 11 l 0) then (V 11 l 2) + (V 11 l 0) else (V 11 l 3)) = 0 then 0 else (if (V 11 l 1) = 0 ∧ (V 11 l 2) > (V 11 l 0) then (V 11 l 2) else (V 11 l 1))) := (show (mu (mu (mu V 11 l 3 ((V 11 l 3) - 3)) 11 l 4 (c + (3 - 0))) 11 l 5 (wr ((V 11 l 5) + (c + (3 - 0))))) 11 l 1 = (V 11 l 1) from ((mu_ne (by first | assumption | decide | exact xs_ (by decide) | exact xc_ (by decide) | exact x31_ (by decide) | omega)).trans ((mu_ne (by first | assumption | decide | exact xs_ (by decide) | exact xc_ (by decide) | exact x31_ (by decide) | omega)).trans ((mu_ne (by first | assumption | decide | exact xs_ (by decide) | exact xc_ (by decide) | exact x31_ (by decide) | omega)).trans (rfl))))).trans n1
        have m2 : (mu (mu (mu V 11 l 3 ((V 11 l 3) - 3)) 11 l 4 (c + (3 - 0))) 11 l 5 (wr ((V 11 l 5) + (c + (3 - 0))))) 11 l 2 = (if (V 11 l 1) = 0 ∧ (V 11 l 2) > (V 11 l 0) then 0 else (V 11 l 2)) := (show (mu (mu (mu V 11 l 3 ((V 11 l 3) - 3)) 11 l 4 (c + (3 - 0))) 11 l 5 (wr ((V 11 l 5) + (c + (3 - 0))))) 11 l 2 = (V 11 l 2) from ((mu_ne (by first | assumption | decide | exact xs_ (by decide) | exact xc_ (by decide) | exact x31_ (by decide) | omega)).trans ((mu_ne (by first | assumption | decide | exact xs_ (by decide) | exact xc_ (by decide) | exact x31_ (by decide) | omega)).trans ((mu_ne (by first | assumption | decide | exact xs_ (by decide) | exact xc_ (by decide) | exact x31_ (by decide) | omega)).trans (rfl))))).trans n2
        have m3 : (mu (mu (mu V 11 l 3 ((V 11 l 3) - 3)) 11 l 4 (c + (3 - 0))) 11 l 5 (wr ((V 11 l 5) + (c + (3 - 0))))) 11 l 3 = ((if (V 11 l 1) = 0 ∧ (V 11 l 2) > (V 11 l 0) then (V 11 l 2) + (V 11 l 0) else (V 11 l 3)) - min 3 (if (V 11 l 1) = 0 ∧ (V 11 l 2) > (V 11 l 0) then (V 11 l 2) + (V 11 l 0) else (V 11 l 3))) := (show (mu (mu (mu V 11 l 3 ((V 11 l 3) - 3)) 11 l 4 (c + (3 - 0))) 11 l 5 (wr ((V 11 l 5) + (c + (3 - 0))))) 11 l 3 = ((V 11 l 3) - 3) from ((mu_ne (by first | assumption | decide | exact xs_ (by decide) | exact xc_ (by decide) | exact x31_ (by decide) | omega)).trans ((mu_ne (by first | assumption | decide | exact xs_ (by decide) | exact xc_ (by decide) | exact x31_ (by decide) | omega)).trans (mu_self _ _ _ _ _)))).trans n3
        have m4 : (mu (mu (mu V 11 l 3 ((V 11 l 3) - 3)) 11 l 4 (c + (3 - 0))) 11 l 5 (wr ((V 11 l 5) + (c + (3 - 0))))) 11 l 4 = (((if (V 11 l 1) = 0 ∧ (V 11 l 2) > (V 11 l 0) then c - 1 else c) + min 3 (if (V 11 l 1) = 0 ∧ (V 11 l 2) > (V 11 l 0) then (V 11 l 2) + (V 11 l 0) else (V 11 l 3)))) := (show (mu (mu (mu V 11 l 3 ((V 11 l 3) - 3)) 11 l 4 (c + (3 - 0))) 11 l 5 (wr ((V 11 l 5) + (c + (3 - 0))))) 11 l 4 = (c + (3 - 0)) from ((mu_ne (by first | assumption | decide | exact xs_ (by decide) | exact xc_ (by decide) | exact x31_ (by decide) | omega)).trans (mu_self _ _ _ _ _))).trans n4
        have m5 : (mu (mu (mu V 11 l 3 ((V 11 l 3) - 3)) 11 l 4 (c + (3 - 0))) 11 l 5 (wr ((V 11 l 5) + (c + (3 - 0))))) 11 l 5 = (wr ((V 11 l 5) + ((if (V 11 l 1) = 0 ∧ (V 11 l 2) > (V 11 l 0) then c - 1 else c) + min 3 (if (V 11 l 1) = 0 ∧ (V 11 l 2) > (V 11 l 0) then (V 11 l 2) + (V 11 l 0) else (V 11 l 3))))) := (show (mu (mu (mu V 11 l 3 ((V 11 l 3) - 3)) 11 l 4 (c + (3 - 0))) 11 l 5 (wr ((V 11 l 5) + (c + (3 - 0))))) 11 l 5 = wr ((V 11 l 5) + (c + (3 - 0))) from (mu_self _ _ _ _ _)).trans (congrArg wr n5)
        have m6 : (mu (mu (mu V 11 l 3 ((V 11 l 3) - 3)) 11 l 4 (c + (3 - 0))) 11 l 5 (wr ((V 11 l 5) + (c + (3 - 0))))) 11 l 6 = (max (V 11 l 6) ((if (V 11 l 1) = 0 ∧ (V 11 l 2) > (V 11 l 0) then c - 1 else c) + min 3 (if (V 11 l 1) = 0 ∧ (V 11 l 2) > (V 11 l 0) then (V 11 l 2) + (V 11 l 0) else (V 11 l 3)))) := (show (mu (mu (mu V 11 l 3 ((V 11 l 3) - 3)) 11 l 4 (c + (3 - 0))) 11 l 5 (wr ((V 11 l 5) + (c + (3 - 0))))) 11 l 6 = (V 11 l 6) from ((mu_ne (by first | assumption | decide | exact xs_ (by decide) | exact xc_ (by decide) | exact x31_ (by decide) | omega)).trans ((mu_ne (by first | assumption | decide | exact xs_ (by decide) | exact xc_ (by decide) | exact x31_ (by decide) | omega)).trans ((mu_ne (by first | assumption | decide | exact xs_ (by decide) | exact xc_ (by decide) | exact x31_ (by decide) | omega)).trans (rfl))))).trans n6
        have hV : (mu (mu (mu V 11 l 3 ((V 11 l 3) - 3)) 11 l 4 (c + (3 - 0))) 11 l 5 (wr ((V 11 l 5) + (c + (3 - 0))))) = (su V 11 l (emR c (V 11 l))) := mu7 (fun c2 x y h => (mu_ne (by first | assumption | decide | exact xs_ (by decide) | exact xc_ (by decide) | exact x31_ (by decide) | omega)).trans ((mu_ne (by first | assumption | decide | exact xs_ (by decide) | exact xc_ (by decide) | exact x31_ (by decide) | omega)).trans ((mu_ne (by first | assumption | decide | exact xs_ (by decide) | exact xc_ (by decide) | exact x31_ (by decide) | omega)).trans (rfl)))) m0 m1 m2 m3 m4 m5 m6
        have qS := Sρ6
        have qX := Xρ6
        have qF := Fρ6
        rw [hV] at qS qX qF
        have q16 : 1 = (if (su V 11 l (emR c (V 11 l))) 11 l 3 = 0 then (0 : Int) else 1) := by rw [← hV, m3]; simp only [if_neg hbeg]; (repeat' split) <;> omega
        have qR : RS t σ0 (su V 11 l (emR c (V 11 l))) ρ6 := ⟨qS, qX.kf (r16a_ρ6.trans q16) r17b_ρ6, qF⟩
        have qL : LK (su V 11 l (emR c (V 11 l))) l := hL.to (fun c2 x y h => su_ne (by first | assumption | decide | exact xs_ (by decide) | exact xc_ (by decide) | exact x31_ (by decide) | omega))
        refine y_look (V := (su V 11 l (emR c (V 11 l)))) (by first | assumption | decide | exact xs_ (by decide) | exact xc_ (by decide) | exact x31_ (by decide) | omega) ht qR (by first | assumption | decide | exact xs_ (by decide) | exact xc_ (by decide) | exact x31_ (by decide) | omega) qL (fun ρ10 Rρ10 => ?_)
        refine y_vret hK rfl dX6_endMove_148 ?_
        exact k _ Rρ10
      · refine r_aload_n hC dX6_endMove_135 rfl ?_
        refine r_iload_n hC dX6_endMove_136 rfl ?_
        refine r_bipush hC dX6_endMove_137 rfl ?_
        refine r_iload_n hC dX6_endMove_139 rfl ?_
        refine z_inv3 hM dX6_endMove_140 vl_RX6_173 rfl rfl rfl (Nat.le_of_ble_eq_true rfl) (Nat.le_of_ble_eq_true rfl) ?_
        refine y_set (by first | assumption | decide | exact xs_ (by decide) | exact xc_ (by decide) | exact x31_ (by decide) | omega) (by first | assumption | decide | exact xs_ (by decide) | exact xc_ (by decide) | exact x31_ (by decide) | omega) ⟨fun h => by omega, fun h => by omega⟩ ?_
        obtain ⟨ρ11, e_ρ11⟩ : ∃ zz_, zz_ = mu ρ6 31 0 ((22 * l) + 20) (c + (3 - 0)) := ⟨_, rfl⟩
        rw [← e_ρ11]
        have Sρ11 : SB t σ0 (mu (mu (mu (mu V 11 l 3 ((V 11 l 3) - 3)) 11 l 4 (c + (3 - 0))) 11 l 5 (wr ((V 11 l 5) + (c + (3 - 0))))) 11 l 6 (c + (3 - 0))) ρ11 := by rw [e_ρ11, show ((22 * l) + 20) = 22 * l + 20 from by omega]; exact Sρ6.p11 (by first | assumption | decide | exact xs_ (by decide) | exact xc_ (by decide) | exact x31_ (by decide) | omega) (by first | assumption | decide | exact xs_ (by decide) | exact xc_ (by decide) | exact x31_ (by decide) | omega) (by first | assumption | decide | exact xs_ (by decide) | exact xc_ (by decide) | exact x31_ (by decide) | omega)
        have r16a_ρ11 : ρ11 31 0 (22 * l + 16) = 1 := by rw [e_ρ11]; exact (mu_ne (by first | assumption | decide | exact xs_ (by decide) | exact xc_ (by decide) | exact x31_ (by decide) | omega)).trans r16a_ρ6
        have r17b_ρ11 : ρ11 31 0 (22 * l + 17) = 0 := by rw [e_ρ11]; exact (mu_ne (by first | assumption | decide | exact xs_ (by decide) | exact xc_ (by decide) | exact x31_ (by decide) | omega)).trans r17b_ρ6
        have Xρ11 : KX t l (mu (mu (mu (mu V 11 l 3 ((V 11 l 3) - 3)) 11 l 4 (c + (3 - 0))) 11 l 5 (wr ((V 11 l 5) + (c + (3 - 0))))) 11 l 6 (c + (3 - 0))) ρ11 := (Xρ6).e (fun m a b c => by rw [e_ρ11]; exact ⟨mu_ne (by first | assumption | decide | exact xs_ (by decide) | exact xc_ (by decide) | exact x31_ (by decide) | omega), mu_ne (by first | assumption | decide | exact xs_ (by decide) | exact xc_ (by decide) | exact x31_ (by decide) | omega)⟩) (fun m c => mu_ne (by first | assumption | decide | exact xs_ (by decide) | exact xc_ (by decide) | exact x31_ (by decide) | omega))
        have Fρ11 : FB (mu (mu (mu (mu V 11 l 3 ((V 11 l 3) - 3)) 11 l 4 (c + (3 - 0))) 11 l 5 (wr ((V 11 l 5) + (c + (3 - 0))))) 11 l 6 (c + (3 - 0))) ρ11 := by rw [e_ρ11]; exact (Fρ6).e (fun l a b => mu_ne (by first | assumption | decide | exact xs_ (by decide) | exact xc_ (by decide) | exact x31_ (by decide) | omega)) |>.v (fun l y a b c => mu_ne (by first | assumption | decide | exact xs_ (by decide) | exact xc_ (by decide) | exact x31_ (by decide) | omega))
        refine r_aload_n hC dX6_endMove_143 rfl ?_
        refine r_iload_n hC dX6_endMove_144 rfl ?_
        refine z_inv1 hM dX6_endMove_145 vl_RX6_191 rfl rfl rfl (Nat.le_of_ble_eq_true rfl) (Nat.le_of_ble_eq_true rfl) ?_
        have hbeg : ¬ (V 11 l 1 = 0 ∧ V 11 l 2 > V 11 l 0) := by omega
        have HF : ¬ (V 11 l 1 = 0 ∧ V 11 l 2 > V 11 l 0) ∧ 3 < (V 11 l 3) ∧ V 11 l 6 < (c + (3 - 0)) := by refine ⟨hbeg, ?_, ?_⟩ <;> omega
        obtain ⟨n0, n1, n2, n3, n4, n5, n6⟩ := em_1 (a0 := V 11 l 0) (a1 := V 11 l 1) (a2 := V 11 l 2) (a3 := V 11 l 3) (a4 := V 11 l 4) (a5 := V 11 l 5) (a6 := V 11 l 6) (c := c) (w0 := V 11 l 0) (w1 := V 11 l 1) (w2 := V 11 l 2) (w3 := V 11 l 3) (w4 := V 11 l 4) (w5 := V 11 l 5) (w6 := V 11 l 6) HF
        have m0 : (mu (mu (mu (mu V 11 l 3 ((V 11 l 3) - 3)) 11 l 4 (c + (3 - 0))) 11 l 5 (wr ((V 11 l 5) + (c + (3 - 0))))) 11 l 6 (c + (3 - 0))) 11 l 0 = (if (if (V 11 l 1) = 0 ∧ (V 11 l 2) > (V 11 l 0) then (V 11 l 2) + (V 11 l 0) else (V 11 l 3)) - min 3 (if (V 11 l 1) = 0 ∧ (V 11 l 2) > (V 11 l 0) then (V 11 l 2) + (V 11 l 0) else (V 11 l 3)) = 0 then (V 11 l 0) + (if (V 11 l 1) = 0 ∧ (V 11 l 2) > (V 11 l 0) then (V 11 l 2) else (V 11 l 1)) else (V 11 l 0)) := (show (mu (mu (mu (mu V 11 l 3 ((V 11 l 3) - 3)) 11 l 4 (c + (3 - 0))) 11 l 5 (wr ((V 11 l 5) + (c + (3 - 0))))) 11 l 6 (c + (3 - 0))) 11 l 0 = (V 11 l 0) from ((mu_ne (by first | assumption | decide | exact xs_ (by decide) | exact xc_ (by decide) | exact x31_ (by decide) | omega)).trans ((mu_ne (by first | assumption | decide | exact xs_ (by decide) | exact xc_ (by decide) | exact x31_ (by decide) | omega)).trans ((mu_ne (by first | assumption | decide | exact xs_ (by decide) | exact xc_ (by decide) | exact x31_ (by decide) | omega)).trans ((mu_ne (by first | assumption | decide | exact xs_ (by decide) | exact xc_ (by decide) | exact x31_ (by decide) | omega)).trans (rfl)))))).trans n0
        have m1 : (mu (mu (mu (mu V 11 l 3 ((V 11 l 3) - 3)) 11 l 4 (c + (3 - 0))) 11 l 5 (wr ((V 11 l 5) + (c + (3 - 0))))) 11 l 6 (c + (3 - 0))) 11 l 1 = (if (if (V 11 l 1) = 0 ∧ (V 11 l 2) > (V 11 l 0) then (V 11 l 2) + (V 11 l 0) else (V 11 l 3)) - min 3 (if (V 11 l 1) = 0 ∧ (V 11 l 2) > (V 11 l 0) then (V 11 l 2) + (V 11 l 0) else (V 11 l 3)) = 0 then 0 else (if (V 11 l 1) = 0 ∧ (V 11 l 2) > (V 11 l 0) then (V 11 l 2) else (V 11 l 1))) := (show (mu (mu (mu (mu V 11 l 3 ((V 11 l 3) - 3)) 11 l 4 (c + (3 - 0))) 11 l 5 (wr ((V 11 l 5) + (c + (3 - 0))))) 11 l 6 (c + (3 - 0))) 11 l 1 = (V 11 l 1) from ((mu_ne (by first | assumption | decide | exact xs_ (by decide) | exact xc_ (by decide) | exact x31_ (by decide) | omega)).trans ((mu_ne (by first | assumption | decide | exact xs_ (by decide) | exact xc_ (by decide) | exact x31_ (by decide) | omega)).trans ((mu_ne (by first | assumption | decide | exact xs_ (by decide) | exact xc_ (by decide) | exact x31_ (by decide) | omega)).trans ((mu_ne (by first | assumption | decide | exact xs_ (by decide) | exact xc_ (by decide) | exact x31_ (by decide) | omega)).trans (rfl)))))).trans n1
        have m2 : (mu (mu (mu (mu V 11 l 3 ((V 11 l 3) - 3)) 11 l 4 (c + (3 - 0))) 11 l 5 (wr ((V 11 l 5) + (c + (3 - 0))))) 11 l 6 (c + (3 - 0))) 11 l 2 = (if (V 11 l 1) = 0 ∧ (V 11 l 2) > (V 11 l 0) then 0 else (V 11 l 2)) := (show (mu (mu (mu (mu V 11 l 3 ((V 11 l 3) - 3)) 11 l 4 (c + (3 - 0))) 11 l 5 (wr ((V 11 l 5) + (c + (3 - 0))))) 11 l 6 (c + (3 - 0))) 11 l 2 = (V 11 l 2) from ((mu_ne (by first | assumption | decide | exact xs_ (by decide) | exact xc_ (by decide) | exact x31_ (by decide) | omega)).trans ((mu_ne (by first | assumption | decide | exact xs_ (by decide) | exact xc_ (by decide) | exact x31_ (by decide) | omega)).trans ((mu_ne (by first | assumption | decide | exact xs_ (by decide) | exact xc_ (by decide) | exact x31_ (by decide) | omega)).trans ((mu_ne (by first | assumption | decide | exact xs_ (by decide) | exact xc_ (by decide) | exact x31_ (by decide) | omega)).trans (rfl)))))).trans n2
        have m3 : (mu (mu (mu (mu V 11 l 3 ((V 11 l 3) - 3)) 11 l 4 (c + (3 - 0))) 11 l 5 (wr ((V 11 l 5) + (c + (3 - 0))))) 11 l 6 (c + (3 - 0))) 11 l 3 = ((if (V 11 l 1) = 0 ∧ (V 11 l 2) > (V 11 l 0) then (V 11 l 2) + (V 11 l 0) else (V 11 l 3)) - min 3 (if (V 11 l 1) = 0 ∧ (V 11 l 2) > (V 11 l 0) then (V 11 l 2) + (V 11 l 0) else (V 11 l 3))) := (show (mu (mu (mu (mu V 11 l 3 ((V 11 l 3) - 3)) 11 l 4 (c + (3 - 0))) 11 l 5 (wr ((V 11 l 5) + (c + (3 - 0))))) 11 l 6 (c + (3 - 0))) 11 l 3 = ((V 11 l 3) - 3) from ((mu_ne (by first | assumption | decide | exact xs_ (by decide) | exact xc_ (by decide) | exact x31_ (by decide) | omega)).trans ((mu_ne (by first | assumption | decide | exact xs_ (by decide) | exact xc_ (by decide) | exact x31_ (by decide) | omega)).trans ((mu_ne (by first | assumption | decide | exact xs_ (by decide) | exact xc_ (by decide) | exact x31_ (by decide) | omega)).trans (mu_self _ _ _ _ _))))).trans n3
        have m4 : (mu (mu (mu (mu V 11 l 3 ((V 11 l 3) - 3)) 11 l 4 (c + (3 - 0))) 11 l 5 (wr ((V 11 l 5) + (c + (3 - 0))))) 11 l 6 (c + (3 - 0))) 11 l 4 = (((if (V 11 l 1) = 0 ∧ (V 11 l 2) > (V 11 l 0) then c - 1 else c) + min 3 (if (V 11 l 1) = 0 ∧ (V 11 l 2) > (V 11 l 0) then (V 11 l 2) + (V 11 l 0) else (V 11 l 3)))) := (show (mu (mu (mu (mu V 11 l 3 ((V 11 l 3) - 3)) 11 l 4 (c + (3 - 0))) 11 l 5 (wr ((V 11 l 5) + (c + (3 - 0))))) 11 l 6 (c + (3 - 0))) 11 l 4 = (c + (3 - 0)) from ((mu_ne (by first | assumption | decide | exact xs_ (by decide) | exact xc_ (by decide) | exact x31_ (by decide) | omega)).trans ((mu_ne (by first | assumption | decide | exact xs_ (by decide) | exact xc_ (by decide) | exact x31_ (by decide) | omega)).trans (mu_self _ _ _ _ _)))).trans n4
        have m5 : (mu (mu (mu (mu V 11 l 3 ((V 11 l 3) - 3)) 11 l 4 (c + (3 - 0))) 11 l 5 (wr ((V 11 l 5) + (c + (3 - 0))))) 11 l 6 (c + (3 - 0))) 11 l 5 = (wr ((V 11 l 5) + ((if (V 11 l 1) = 0 ∧ (V 11 l 2) > (V 11 l 0) then c - 1 else c) + min 3 (if (V 11 l 1) = 0 ∧ (V 11 l 2) > (V 11 l 0) then (V 11 l 2) + (V 11 l 0) else (V 11 l 3))))) := (show (mu (mu (mu (mu V 11 l 3 ((V 11 l 3) - 3)) 11 l 4 (c + (3 - 0))) 11 l 5 (wr ((V 11 l 5) + (c + (3 - 0))))) 11 l 6 (c + (3 - 0))) 11 l 5 = wr ((V 11 l 5) + (c + (3 - 0))) from ((mu_ne (by first | assumption | decide | exact xs_ (by decide) | exact xc_ (by decide) | exact x31_ (by decide) | omega)).trans (mu_self _ _ _ _ _))).trans (congrArg wr n5)
        have m6 : (mu (mu (mu (mu V 11 l 3 ((V 11 l 3) - 3)) 11 l 4 (c + (3 - 0))) 11 l 5 (wr ((V 11 l 5) + (c + (3 - 0))))) 11 l 6 (c + (3 - 0))) 11 l 6 = (max (V 11 l 6) ((if (V 11 l 1) = 0 ∧ (V 11 l 2) > (V 11 l 0) then c - 1 else c) + min 3 (if (V 11 l 1) = 0 ∧ (V 11 l 2) > (V 11 l 0) then (V 11 l 2) + (V 11 l 0) else (V 11 l 3)))) := (show (mu (mu (mu (mu V 11 l 3 ((V 11 l 3) - 3)) 11 l 4 (c + (3 - 0))) 11 l 5 (wr ((V 11 l 5) + (c + (3 - 0))))) 11 l 6 (c + (3 - 0))) 11 l 6 = (c + (3 - 0)) from (mu_self _ _ _ _ _)).trans n6
        have hV : (mu (mu (mu (mu V 11 l 3 ((V 11 l 3) - 3)) 11 l 4 (c + (3 - 0))) 11 l 5 (wr ((V 11 l 5) + (c + (3 - 0))))) 11 l 6 (c + (3 - 0))) = (su V 11 l (emR c (V 11 l))) := mu7 (fun c2 x y h => (mu_ne (by first | assumption | decide | exact xs_ (by decide) | exact xc_ (by decide) | exact x31_ (by decide) | omega)).trans ((mu_ne (by first | assumption | decide | exact xs_ (by decide) | exact xc_ (by decide) | exact x31_ (by decide) | omega)).trans ((mu_ne (by first | assumption | decide | exact xs_ (by decide) | exact xc_ (by decide) | exact x31_ (by decide) | omega)).trans ((mu_ne (by first | assumption | decide | exact xs_ (by decide) | exact xc_ (by decide) | exact x31_ (by decide) | omega)).trans (rfl))))) m0 m1 m2 m3 m4 m5 m6
        have qS := Sρ11
        have qX := Xρ11
        have qF := Fρ11
        rw [hV] at qS qX qF
        have q16 : 1 = (if (su V 11 l (emR c (V 11 l))) 11 l 3 = 0 then (0 : Int) else 1) := by rw [← hV, m3]; simp only [if_neg hbeg]; (repeat' split) <;> omega
        have qR : RS t σ0 (su V 11 l (emR c (V 11 l))) ρ11 := ⟨qS, qX.kf (r16a_ρ11.trans q16) r17b_ρ11, qF⟩
        have qL : LK (su V 11 l (emR c (V 11 l))) l := hL.to (fun c2 x y h => su_ne (by first | assumption | decide | exact xs_ (by decide) | exact xc_ (by decide) | exact x31_ (by decide) | omega))
        refine y_look (V := (su V 11 l (emR c (V 11 l)))) (by first | assumption | decide | exact xs_ (by decide) | exact xc_ (by decide) | exact x31_ (by decide) | omega) ht qR (by first | assumption | decide | exact xs_ (by decide) | exact xc_ (by decide) | exact x31_ (by decide) | omega) qL (fun ρ12 Rρ12 => ?_)
        refine y_vret hK rfl dX6_endMove_148 ?_
        exact k _ Rρ12
    · have hval : 0 ≤ (if 0 < (V 11 l 3) then (V 11 l 3) - 0 else 0) ∧ (if 0 < (V 11 l 3) then (V 11 l 3) - 0 else 0) ≤ 3 := by split <;> omega
      have r17z := r17g.trans (show (if 0 < (V 11 l 3) then (0 : Int) else 0) = 0 from by split <;> omega)
      refine r_iaddE hC ((c + (if 0 < (V 11 l 3) then (V 11 l 3) - 0 else 0))) dX6_endMove_106 (by first | assumption | decide | exact xs_ (by decide) | exact xc_ (by decide) | exact x31_ (by decide) | omega) (by unfold inR; omega) ?_
      refine r_istore_n hC dX6_endMove_107 rfl ?_
      refine r_aload_n hC dX6_endMove_108 rfl ?_
      refine r_iload_n hC dX6_endMove_109 rfl ?_
      refine r_bipush hC dX6_endMove_110 rfl ?_
      refine r_iload_n hC dX6_endMove_112 rfl ?_
      refine z_inv3 hM dX6_endMove_113 vl_RX6_173 rfl rfl rfl (Nat.le_of_ble_eq_true rfl) (Nat.le_of_ble_eq_true rfl) ?_
      refine y_set (by first | assumption | decide | exact xs_ (by decide) | exact xc_ (by decide) | exact x31_ (by decide) | omega) (by first | assumption | decide | exact xs_ (by decide) | exact xc_ (by decide) | exact x31_ (by decide) | omega) ⟨fun h => by omega, fun h => by omega⟩ ?_
      obtain ⟨ρ13, e_ρ13⟩ : ∃ zz_, zz_ = mu ρg 31 0 ((22 * l) + 18) (c + (if 0 < (V 11 l 3) then (V 11 l 3) - 0 else 0)) := ⟨_, rfl⟩
      rw [← e_ρ13]
      have Sρ13 : SB t σ0 (mu (mu (mu (mu V 11 l 3 0) 11 l 0 ((V 11 l 0) + (V 11 l 1))) 11 l 1 0) 11 l 4 (c + (if 0 < (V 11 l 3) then (V 11 l 3) - 0 else 0))) ρ13 := by rw [e_ρ13, show ((22 * l) + 18) = 22 * l + 18 from by omega]; exact Sg.p11 (by first | assumption | decide | exact xs_ (by decide) | exact xc_ (by decide) | exact x31_ (by decide) | omega) (by first | assumption | decide | exact xs_ (by decide) | exact xc_ (by decide) | exact x31_ (by decide) | omega) (by first | assumption | decide | exact xs_ (by decide) | exact xc_ (by decide) | exact x31_ (by decide) | omega)
      have r16a_ρ13 : ρ13 31 0 (22 * l + 16) = 0 := by rw [e_ρ13]; exact (mu_ne (by first | assumption | decide | exact xs_ (by decide) | exact xc_ (by decide) | exact x31_ (by decide) | omega)).trans r16g
      have r17b_ρ13 : ρ13 31 0 (22 * l + 17) = 0 := by rw [e_ρ13]; exact (mu_ne (by first | assumption | decide | exact xs_ (by decide) | exact xc_ (by decide) | exact x31_ (by decide) | omega)).trans r17z
      have Xρ13 : KX t l (mu (mu (mu (mu V 11 l 3 0) 11 l 0 ((V 11 l 0) + (V 11 l 1))) 11 l 1 0) 11 l 4 (c + (if 0 < (V 11 l 3) then (V 11 l 3) - 0 else 0))) ρ13 := (Xg).e (fun m a b c => by rw [e_ρ13]; exact ⟨mu_ne (by first | assumption | decide | exact xs_ (by decide) | exact xc_ (by decide) | exact x31_ (by decide) | omega), mu_ne (by first | assumption | decide | exact xs_ (by decide) | exact xc_ (by decide) | exact x31_ (by decide) | omega)⟩) (fun m c => mu_ne (by first | assumption | decide | exact xs_ (by decide) | exact xc_ (by decide) | exact x31_ (by decide) | omega))
      have Fρ13 : FB (mu (mu (mu (mu V 11 l 3 0) 11 l 0 ((V 11 l 0) + (V 11 l 1))) 11 l 1 0) 11 l 4 (c + (if 0 < (V 11 l 3) then (V 11 l 3) - 0 else 0))) ρ13 := by rw [e_ρ13]; exact (Fg).e (fun l a b => mu_ne (by first | assumption | decide | exact xs_ (by decide) | exact xc_ (by decide) | exact x31_ (by decide) | omega)) |>.v (fun l y a b c => mu_ne (by first | assumption | decide | exact xs_ (by decide) | exact xc_ (by decide) | exact x31_ (by decide) | omega))
      refine r_aload_n hC dX6_endMove_116 rfl ?_
      refine r_iload_n hC dX6_endMove_117 rfl ?_
      refine r_bipush hC dX6_endMove_118 rfl ?_
      refine r_iload_n hC dX6_endMove_120 rfl ?_
      refine z_inv3 hM dX6_endMove_121 vl_RX6_188 rfl rfl rfl (Nat.le_of_ble_eq_true rfl) (Nat.le_of_ble_eq_true rfl) ?_
      refine y_moreW (a := (V 11 l 5)) (by first | assumption | decide | exact xs_ (by decide) | exact xc_ (by decide) | exact x31_ (by decide) | omega) (by first | assumption | decide | exact xs_ (by decide) | exact xc_ (by decide) | exact x31_ (by decide) | omega) ⟨fun h => by omega, by omega⟩ ((Sρ13.a11 (s := 5) (f := 19) (by first | assumption | decide | exact xs_ (by decide) | exact xc_ (by decide) | exact x31_ (by decide) | omega) (by first | assumption | decide | exact xs_ (by decide) | exact xc_ (by decide) | exact x31_ (by decide) | omega) (by first | assumption | decide | exact xs_ (by decide) | exact xc_ (by decide) | exact x31_ (by decide) | omega)).trans ((mu_ne (by first | assumption | decide | exact xs_ (by decide) | exact xc_ (by decide) | exact x31_ (by decide) | omega)).trans ((mu_ne (by first | assumption | decide | exact xs_ (by decide) | exact xc_ (by decide) | exact x31_ (by decide) | omega)).trans ((mu_ne (by first | assumption | decide | exact xs_ (by decide) | exact xc_ (by decide) | exact x31_ (by decide) | omega)).trans ((mu_ne (by first | assumption | decide | exact xs_ (by decide) | exact xc_ (by decide) | exact x31_ (by decide) | omega)).trans (rfl)))))) (by first | assumption | decide | exact xs_ (by decide) | exact xc_ (by decide) | exact x31_ (by decide) | omega) ?_
      obtain ⟨ρ14, e_ρ14⟩ : ∃ zz_, zz_ = mu ρ13 31 0 ((22 * l) + 19) (wr ((V 11 l 5) + (c + (if 0 < (V 11 l 3) then (V 11 l 3) - 0 else 0)))) := ⟨_, rfl⟩
      rw [← e_ρ14]
      have Sρ14 : SB t σ0 (mu (mu (mu (mu (mu V 11 l 3 0) 11 l 0 ((V 11 l 0) + (V 11 l 1))) 11 l 1 0) 11 l 4 (c + (if 0 < (V 11 l 3) then (V 11 l 3) - 0 else 0))) 11 l 5 (wr ((V 11 l 5) + (c + (if 0 < (V 11 l 3) then (V 11 l 3) - 0 else 0))))) ρ14 := by rw [e_ρ14, show ((22 * l) + 19) = 22 * l + 19 from by omega]; exact Sρ13.p11 (by first | assumption | decide | exact xs_ (by decide) | exact xc_ (by decide) | exact x31_ (by decide) | omega) (by first | assumption | decide | exact xs_ (by decide) | exact xc_ (by decide) | exact x31_ (by decide) | omega) (by first | assumption | decide | exact xs_ (by decide) | exact xc_ (by decide) | exact x31_ (by decide) | omega)
      have r16a_ρ14 : ρ14 31 0 (22 * l + 16) = 0 := by rw [e_ρ14]; exact (mu_ne (by first | assumption | decide | exact xs_ (by decide) | exact xc_ (by decide) | exact x31_ (by decide) | omega)).trans r16a_ρ13
      have r17b_ρ14 : ρ14 31 0 (22 * l + 17) = 0 := by rw [e_ρ14]; exact (mu_ne (by first | assumption | decide | exact xs_ (by decide) | exact xc_ (by decide) | exact x31_ (by decide) | omega)).trans r17b_ρ13
      have Xρ14 : KX t l (mu (mu (mu (mu (mu V 11 l 3 0) 11 l 0 ((V 11 l 0) + (V 11 l 1))) 11 l 1 0) 11 l 4 (c + (if 0 < (V 11 l 3) then (V 11 l 3) - 0 else 0))) 11 l 5 (wr ((V 11 l 5) + (c + (if 0 < (V 11 l 3) then (V 11 l 3) - 0 else 0))))) ρ14 := (Xρ13).e (fun m a b c => by rw [e_ρ14]; exact ⟨mu_ne (by first | assumption | decide | exact xs_ (by decide) | exact xc_ (by decide) | exact x31_ (by decide) | omega), mu_ne (by first | assumption | decide | exact xs_ (by decide) | exact xc_ (by decide) | exact x31_ (by decide) | omega)⟩) (fun m c => mu_ne (by first | assumption | decide | exact xs_ (by decide) | exact xc_ (by decide) | exact x31_ (by decide) | omega))
      have Fρ14 : FB (mu (mu (mu (mu (mu V 11 l 3 0) 11 l 0 ((V 11 l 0) + (V 11 l 1))) 11 l 1 0) 11 l 4 (c + (if 0 < (V 11 l 3) then (V 11 l 3) - 0 else 0))) 11 l 5 (wr ((V 11 l 5) + (c + (if 0 < (V 11 l 3) then (V 11 l 3) - 0 else 0))))) ρ14 := by rw [e_ρ14]; exact (Fρ13).e (fun l a b => mu_ne (by first | assumption | decide | exact xs_ (by decide) | exact xc_ (by decide) | exact x31_ (by decide) | omega)) |>.v (fun l y a b c => mu_ne (by first | assumption | decide | exact xs_ (by decide) | exact xc_ (by decide) | exact x31_ (by decide) | omega))
      refine r_iload_n hC dX6_endMove_124 rfl ?_
      refine r_aload_n hC dX6_endMove_125 rfl ?_
      refine r_iload_n hC dX6_endMove_126 rfl ?_
      refine r_bipush hC dX6_endMove_127 rfl ?_
      refine z_inv2 hM dX6_endMove_129 vl_RX6_80 rfl rfl rfl (Nat.le_of_ble_eq_true rfl) (Nat.le_of_ble_eq_true rfl) ?_
      refine y_of (by first | assumption | decide | exact xs_ (by decide) | exact xc_ (by decide) | exact x31_ (by decide) | omega) (by first | assumption | decide | exact xs_ (by decide) | exact xc_ (by decide) | exact x31_ (by decide) | omega) (by first | assumption | decide | exact xs_ (by decide) | exact xc_ (by decide) | exact x31_ (by decide) | omega) (fun o15 => ?_)
      have e16 : ρ14 31 0 (22 * l + 20) = (V 11 l 6) := (Sρ14.a11 (s := 6) (f := 20) (by first | assumption | decide | exact xs_ (by decide) | exact xc_ (by decide) | exact x31_ (by decide) | omega) (by first | assumption | decide | exact xs_ (by decide) | exact xc_ (by decide) | exact x31_ (by decide) | omega) (by first | assumption | decide | exact xs_ (by decide) | exact xc_ (by decide) | exact x31_ (by decide) | omega)).trans ((mu_ne (by first | assumption | decide | exact xs_ (by decide) | exact xc_ (by decide) | exact x31_ (by decide) | omega)).trans ((mu_ne (by first | assumption | decide | exact xs_ (by decide) | exact xc_ (by decide) | exact x31_ (by decide) | omega)).trans ((mu_ne (by first | assumption | decide | exact xs_ (by decide) | exact xc_ (by decide) | exact x31_ (by decide) | omega)).trans ((mu_ne (by first | assumption | decide | exact xs_ (by decide) | exact xc_ (by decide) | exact x31_ (by decide) | omega)).trans ((mu_ne (by first | assumption | decide | exact xs_ (by decide) | exact xc_ (by decide) | exact x31_ (by decide) | omega)).trans (rfl))))))
      rw [e16] at o15 ⊢
      refine r_icmp_le (tgt := 143) hC dX6_endMove_132 rfl (fun h17 => ?_) (fun h17 => ?_)
      · refine r_aload_n hC dX6_endMove_143 rfl ?_
        refine r_iload_n hC dX6_endMove_144 rfl ?_
        refine z_inv1 hM dX6_endMove_145 vl_RX6_191 rfl rfl rfl (Nat.le_of_ble_eq_true rfl) (Nat.le_of_ble_eq_true rfl) ?_
        have hbeg : ¬ (V 11 l 1 = 0 ∧ V 11 l 2 > V 11 l 0) := by omega
        have HF : ¬ (V 11 l 1 = 0 ∧ V 11 l 2 > V 11 l 0) ∧ (0 ≤ (V 11 l 3) ∧ (V 11 l 3) ≤ 3) ∧ (c + (if 0 < (V 11 l 3) then (V 11 l 3) - 0 else 0)) ≤ V 11 l 6 := by refine ⟨hbeg, ?_, ?_⟩ <;> omega
        obtain ⟨n0, n1, n2, n3, n4, n5, n6⟩ := em_2 (a0 := V 11 l 0) (a1 := V 11 l 1) (a2 := V 11 l 2) (a3 := V 11 l 3) (a4 := V 11 l 4) (a5 := V 11 l 5) (a6 := V 11 l 6) (c := c) (w0 := V 11 l 0) (w1 := V 11 l 1) (w2 := V 11 l 2) (w3 := V 11 l 3) (w4 := V 11 l 4) (w5 := V 11 l 5) (w6 := V 11 l 6) HF
        have m0 : (mu (mu (mu (mu (mu V 11 l 3 0) 11 l 0 ((V 11 l 0) + (V 11 l 1))) 11 l 1 0) 11 l 4 (c + (if 0 < (V 11 l 3) then (V 11 l 3) - 0 else 0))) 11 l 5 (wr ((V 11 l 5) + (c + (if 0 < (V 11 l 3) then (V 11 l 3) - 0 else 0))))) 11 l 0 = (if (if (V 11 l 1) = 0 ∧ (V 11 l 2) > (V 11 l 0) then (V 11 l 2) + (V 11 l 0) else (V 11 l 3)) - min 3 (if (V 11 l 1) = 0 ∧ (V 11 l 2) > (V 11 l 0) then (V 11 l 2) + (V 11 l 0) else (V 11 l 3)) = 0 then (V 11 l 0) + (if (V 11 l 1) = 0 ∧ (V 11 l 2) > (V 11 l 0) then (V 11 l 2) else (V 11 l 1)) else (V 11 l 0)) := (show (mu (mu (mu (mu (mu V 11 l 3 0) 11 l 0 ((V 11 l 0) + (V 11 l 1))) 11 l 1 0) 11 l 4 (c + (if 0 < (V 11 l 3) then (V 11 l 3) - 0 else 0))) 11 l 5 (wr ((V 11 l 5) + (c + (if 0 < (V 11 l 3) then (V 11 l 3) - 0 else 0))))) 11 l 0 = ((V 11 l 0) + (V 11 l 1)) from ((mu_ne (by first | assumption | decide | exact xs_ (by decide) | exact xc_ (by decide) | exact x31_ (by decide) | omega)).trans ((mu_ne (by first | assumption | decide | exact xs_ (by decide) | exact xc_ (by decide) | exact x31_ (by decide) | omega)).trans ((mu_ne (by first | assumption | decide | exact xs_ (by decide) | exact xc_ (by decide) | exact x31_ (by decide) | omega)).trans (mu_self _ _ _ _ _))))).trans n0
        have m1 : (mu (mu (mu (mu (mu V 11 l 3 0) 11 l 0 ((V 11 l 0) + (V 11 l 1))) 11 l 1 0) 11 l 4 (c + (if 0 < (V 11 l 3) then (V 11 l 3) - 0 else 0))) 11 l 5 (wr ((V 11 l 5) + (c + (if 0 < (V 11 l 3) then (V 11 l 3) - 0 else 0))))) 11 l 1 = (if (if (V 11 l 1) = 0 ∧ (V 11 l 2) > (V 11 l 0) then (V 11 l 2) + (V 11 l 0) else (V 11 l 3)) - min 3 (if (V 11 l 1) = 0 ∧ (V 11 l 2) > (V 11 l 0) then (V 11 l 2) + (V 11 l 0) else (V 11 l 3)) = 0 then 0 else (if (V 11 l 1) = 0 ∧ (V 11 l 2) > (V 11 l 0) then (V 11 l 2) else (V 11 l 1))) := (show (mu (mu (mu (mu (mu V 11 l 3 0) 11 l 0 ((V 11 l 0) + (V 11 l 1))) 11 l 1 0) 11 l 4 (c + (if 0 < (V 11 l 3) then (V 11 l 3) - 0 else 0))) 11 l 5 (wr ((V 11 l 5) + (c + (if 0 < (V 11 l 3) then (V 11 l 3) - 0 else 0))))) 11 l 1 = 0 from ((mu_ne (by first | assumption | decide | exact xs_ (by decide) | exact xc_ (by decide) | exact x31_ (by decide) | omega)).trans ((mu_ne (by first | assumption | decide | exact xs_ (by decide) | exact xc_ (by decide) | exact x31_ (by decide) | omega)).trans (mu_self _ _ _ _ _)))).trans n1
        have m2 : (mu (mu (mu (mu (mu V 11 l 3 0) 11 l 0 ((V 11 l 0) + (V 11 l 1))) 11 l 1 0) 11 l 4 (c + (if 0 < (V 11 l 3) then (V 11 l 3) - 0 else 0))) 11 l 5 (wr ((V 11 l 5) + (c + (if 0 < (V 11 l 3) then (V 11 l 3) - 0 else 0))))) 11 l 2 = (if (V 11 l 1) = 0 ∧ (V 11 l 2) > (V 11 l 0) then 0 else (V 11 l 2)) := (show (mu (mu (mu (mu (mu V 11 l 3 0) 11 l 0 ((V 11 l 0) + (V 11 l 1))) 11 l 1 0) 11 l 4 (c + (if 0 < (V 11 l 3) then (V 11 l 3) - 0 else 0))) 11 l 5 (wr ((V 11 l 5) + (c + (if 0 < (V 11 l 3) then (V 11 l 3) - 0 else 0))))) 11 l 2 = (V 11 l 2) from ((mu_ne (by first | assumption | decide | exact xs_ (by decide) | exact xc_ (by decide) | exact x31_ (by decide) | omega)).trans ((mu_ne (by first | assumption | decide | exact xs_ (by decide) | exact xc_ (by decide) | exact x31_ (by decide) | omega)).trans ((mu_ne (by first | assumption | decide | exact xs_ (by decide) | exact xc_ (by decide) | exact x31_ (by decide) | omega)).trans ((mu_ne (by first | assumption | decide | exact xs_ (by decide) | exact xc_ (by decide) | exact x31_ (by decide) | omega)).trans ((mu_ne (by first | assumption | decide | exact xs_ (by decide) | exact xc_ (by decide) | exact x31_ (by decide) | omega)).trans (rfl))))))).trans n2
        have m3 : (mu (mu (mu (mu (mu V 11 l 3 0) 11 l 0 ((V 11 l 0) + (V 11 l 1))) 11 l 1 0) 11 l 4 (c + (if 0 < (V 11 l 3) then (V 11 l 3) - 0 else 0))) 11 l 5 (wr ((V 11 l 5) + (c + (if 0 < (V 11 l 3) then (V 11 l 3) - 0 else 0))))) 11 l 3 = ((if (V 11 l 1) = 0 ∧ (V 11 l 2) > (V 11 l 0) then (V 11 l 2) + (V 11 l 0) else (V 11 l 3)) - min 3 (if (V 11 l 1) = 0 ∧ (V 11 l 2) > (V 11 l 0) then (V 11 l 2) + (V 11 l 0) else (V 11 l 3))) := (show (mu (mu (mu (mu (mu V 11 l 3 0) 11 l 0 ((V 11 l 0) + (V 11 l 1))) 11 l 1 0) 11 l 4 (c + (if 0 < (V 11 l 3) then (V 11 l 3) - 0 else 0))) 11 l 5 (wr ((V 11 l 5) + (c + (if 0 < (V 11 l 3) then (V 11 l 3) - 0 else 0))))) 11 l 3 = 0 from ((mu_ne (by first | assumption | decide | exact xs_ (by decide) | exact xc_ (by decide) | exact x31_ (by decide) | omega)).trans ((mu_ne (by first | assumption | decide | exact xs_ (by decide) | exact xc_ (by decide) | exact x31_ (by decide) | omega)).trans ((mu_ne (by first | assumption | decide | exact xs_ (by decide) | exact xc_ (by decide) | exact x31_ (by decide) | omega)).trans ((mu_ne (by first | assumption | decide | exact xs_ (by decide) | exact xc_ (by decide) | exact x31_ (by decide) | omega)).trans (mu_self _ _ _ _ _)))))).trans n3
        have m4 : (mu (mu (mu (mu (mu V 11 l 3 0) 11 l 0 ((V 11 l 0) + (V 11 l 1))) 11 l 1 0) 11 l 4 (c + (if 0 < (V 11 l 3) then (V 11 l 3) - 0 else 0))) 11 l 5 (wr ((V 11 l 5) + (c + (if 0 < (V 11 l 3) then (V 11 l 3) - 0 else 0))))) 11 l 4 = (((if (V 11 l 1) = 0 ∧ (V 11 l 2) > (V 11 l 0) then c - 1 else c) + min 3 (if (V 11 l 1) = 0 ∧ (V 11 l 2) > (V 11 l 0) then (V 11 l 2) + (V 11 l 0) else (V 11 l 3)))) := (show (mu (mu (mu (mu (mu V 11 l 3 0) 11 l 0 ((V 11 l 0) + (V 11 l 1))) 11 l 1 0) 11 l 4 (c + (if 0 < (V 11 l 3) then (V 11 l 3) - 0 else 0))) 11 l 5 (wr ((V 11 l 5) + (c + (if 0 < (V 11 l 3) then (V 11 l 3) - 0 else 0))))) 11 l 4 = (c + (if 0 < (V 11 l 3) then (V 11 l 3) - 0 else 0)) from ((mu_ne (by first | assumption | decide | exact xs_ (by decide) | exact xc_ (by decide) | exact x31_ (by decide) | omega)).trans (mu_self _ _ _ _ _))).trans n4
        have m5 : (mu (mu (mu (mu (mu V 11 l 3 0) 11 l 0 ((V 11 l 0) + (V 11 l 1))) 11 l 1 0) 11 l 4 (c + (if 0 < (V 11 l 3) then (V 11 l 3) - 0 else 0))) 11 l 5 (wr ((V 11 l 5) + (c + (if 0 < (V 11 l 3) then (V 11 l 3) - 0 else 0))))) 11 l 5 = (wr ((V 11 l 5) + ((if (V 11 l 1) = 0 ∧ (V 11 l 2) > (V 11 l 0) then c - 1 else c) + min 3 (if (V 11 l 1) = 0 ∧ (V 11 l 2) > (V 11 l 0) then (V 11 l 2) + (V 11 l 0) else (V 11 l 3))))) := (show (mu (mu (mu (mu (mu V 11 l 3 0) 11 l 0 ((V 11 l 0) + (V 11 l 1))) 11 l 1 0) 11 l 4 (c + (if 0 < (V 11 l 3) then (V 11 l 3) - 0 else 0))) 11 l 5 (wr ((V 11 l 5) + (c + (if 0 < (V 11 l 3) then (V 11 l 3) - 0 else 0))))) 11 l 5 = wr ((V 11 l 5) + (c + (if 0 < (V 11 l 3) then (V 11 l 3) - 0 else 0))) from (mu_self _ _ _ _ _)).trans (congrArg wr n5)
        have m6 : (mu (mu (mu (mu (mu V 11 l 3 0) 11 l 0 ((V 11 l 0) + (V 11 l 1))) 11 l 1 0) 11 l 4 (c + (if 0 < (V 11 l 3) then (V 11 l 3) - 0 else 0))) 11 l 5 (wr ((V 11 l 5) + (c + (if 0 < (V 11 l 3) then (V 11 l 3) - 0 else 0))))) 11 l 6 = (max (V 11 l 6) ((if (V 11 l 1) = 0 ∧ (V 11 l 2) > (V 11 l 0) then c - 1 else c) + min 3 (if (V 11 l 1) = 0 ∧ (V 11 l 2) > (V 11 l 0) then (V 11 l 2) + (V 11 l 0) else (V 11 l 3)))) := (show (mu (mu (mu (mu (mu V 11 l 3 0) 11 l 0 ((V 11 l 0) + (V 11 l 1))) 11 l 1 0) 11 l 4 (c + (if 0 < (V 11 l 3) then (V 11 l 3) - 0 else 0))) 11 l 5 (wr ((V 11 l 5) + (c + (if 0 < (V 11 l 3) then (V 11 l 3) - 0 else 0))))) 11 l 6 = (V 11 l 6) from ((mu_ne (by first | assumption | decide | exact xs_ (by decide) | exact xc_ (by decide) | exact x31_ (by decide) | omega)).trans ((mu_ne (by first | assumption | decide | exact xs_ (by decide) | exact xc_ (by decide) | exact x31_ (by decide) | omega)).trans ((mu_ne (by first | assumption | decide | exact xs_ (by decide) | exact xc_ (by decide) | exact x31_ (by decide) | omega)).trans ((mu_ne (by first | assumption | decide | exact xs_ (by decide) | exact xc_ (by decide) | exact x31_ (by decide) | omega)).trans ((mu_ne (by first | assumption | decide | exact xs_ (by decide) | exact xc_ (by decide) | exact x31_ (by decide) | omega)).trans (rfl))))))).trans n6
        have hV : (mu (mu (mu (mu (mu V 11 l 3 0) 11 l 0 ((V 11 l 0) + (V 11 l 1))) 11 l 1 0) 11 l 4 (c + (if 0 < (V 11 l 3) then (V 11 l 3) - 0 else 0))) 11 l 5 (wr ((V 11 l 5) + (c + (if 0 < (V 11 l 3) then (V 11 l 3) - 0 else 0))))) = (su V 11 l (emR c (V 11 l))) := mu7 (fun c2 x y h => (mu_ne (by first | assumption | decide | exact xs_ (by decide) | exact xc_ (by decide) | exact x31_ (by decide) | omega)).trans ((mu_ne (by first | assumption | decide | exact xs_ (by decide) | exact xc_ (by decide) | exact x31_ (by decide) | omega)).trans ((mu_ne (by first | assumption | decide | exact xs_ (by decide) | exact xc_ (by decide) | exact x31_ (by decide) | omega)).trans ((mu_ne (by first | assumption | decide | exact xs_ (by decide) | exact xc_ (by decide) | exact x31_ (by decide) | omega)).trans ((mu_ne (by first | assumption | decide | exact xs_ (by decide) | exact xc_ (by decide) | exact x31_ (by decide) | omega)).trans (rfl)))))) m0 m1 m2 m3 m4 m5 m6
        have qS := Sρ14
        have qX := Xρ14
        have qF := Fρ14
        rw [hV] at qS qX qF
        have q16 : 0 = (if (su V 11 l (emR c (V 11 l))) 11 l 3 = 0 then (0 : Int) else 1) := by rw [← hV, m3]; simp only [if_neg hbeg]; (repeat' split) <;> omega
        have qR : RS t σ0 (su V 11 l (emR c (V 11 l))) ρ14 := ⟨qS, qX.kf (r16a_ρ14.trans q16) r17b_ρ14, qF⟩
        have qL : LK (su V 11 l (emR c (V 11 l))) l := hL.to (fun c2 x y h => su_ne (by first | assumption | decide | exact xs_ (by decide) | exact xc_ (by decide) | exact x31_ (by decide) | omega))
        refine y_look (V := (su V 11 l (emR c (V 11 l)))) (by first | assumption | decide | exact xs_ (by decide) | exact xc_ (by decide) | exact x31_ (by decide) | omega) ht qR (by first | assumption | decide | exact xs_ (by decide) | exact xc_ (by decide) | exact x31_ (by decide) | omega) qL (fun ρ18 Rρ18 => ?_)
        refine y_vret hK rfl dX6_endMove_148 ?_
        exact k _ Rρ18
      · refine r_aload_n hC dX6_endMove_135 rfl ?_
        refine r_iload_n hC dX6_endMove_136 rfl ?_
        refine r_bipush hC dX6_endMove_137 rfl ?_
        refine r_iload_n hC dX6_endMove_139 rfl ?_
        refine z_inv3 hM dX6_endMove_140 vl_RX6_173 rfl rfl rfl (Nat.le_of_ble_eq_true rfl) (Nat.le_of_ble_eq_true rfl) ?_
        refine y_set (by first | assumption | decide | exact xs_ (by decide) | exact xc_ (by decide) | exact x31_ (by decide) | omega) (by first | assumption | decide | exact xs_ (by decide) | exact xc_ (by decide) | exact x31_ (by decide) | omega) ⟨fun h => by omega, fun h => by omega⟩ ?_
        obtain ⟨ρ19, e_ρ19⟩ : ∃ zz_, zz_ = mu ρ14 31 0 ((22 * l) + 20) (c + (if 0 < (V 11 l 3) then (V 11 l 3) - 0 else 0)) := ⟨_, rfl⟩
        rw [← e_ρ19]
        have Sρ19 : SB t σ0 (mu (mu (mu (mu (mu (mu V 11 l 3 0) 11 l 0 ((V 11 l 0) + (V 11 l 1))) 11 l 1 0) 11 l 4 (c + (if 0 < (V 11 l 3) then (V 11 l 3) - 0 else 0))) 11 l 5 (wr ((V 11 l 5) + (c + (if 0 < (V 11 l 3) then (V 11 l 3) - 0 else 0))))) 11 l 6 (c + (if 0 < (V 11 l 3) then (V 11 l 3) - 0 else 0))) ρ19 := by rw [e_ρ19, show ((22 * l) + 20) = 22 * l + 20 from by omega]; exact Sρ14.p11 (by first | assumption | decide | exact xs_ (by decide) | exact xc_ (by decide) | exact x31_ (by decide) | omega) (by first | assumption | decide | exact xs_ (by decide) | exact xc_ (by decide) | exact x31_ (by decide) | omega) (by first | assumption | decide | exact xs_ (by decide) | exact xc_ (by decide) | exact x31_ (by decide) | omega)
        have r16a_ρ19 : ρ19 31 0 (22 * l + 16) = 0 := by rw [e_ρ19]; exact (mu_ne (by first | assumption | decide | exact xs_ (by decide) | exact xc_ (by decide) | exact x31_ (by decide) | omega)).trans r16a_ρ14
        have r17b_ρ19 : ρ19 31 0 (22 * l + 17) = 0 := by rw [e_ρ19]; exact (mu_ne (by first | assumption | decide | exact xs_ (by decide) | exact xc_ (by decide) | exact x31_ (by decide) | omega)).trans r17b_ρ14
        have Xρ19 : KX t l (mu (mu (mu (mu (mu (mu V 11 l 3 0) 11 l 0 ((V 11 l 0) + (V 11 l 1))) 11 l 1 0) 11 l 4 (c + (if 0 < (V 11 l 3) then (V 11 l 3) - 0 else 0))) 11 l 5 (wr ((V 11 l 5) + (c + (if 0 < (V 11 l 3) then (V 11 l 3) - 0 else 0))))) 11 l 6 (c + (if 0 < (V 11 l 3) then (V 11 l 3) - 0 else 0))) ρ19 := (Xρ14).e (fun m a b c => by rw [e_ρ19]; exact ⟨mu_ne (by first | assumption | decide | exact xs_ (by decide) | exact xc_ (by decide) | exact x31_ (by decide) | omega), mu_ne (by first | assumption | decide | exact xs_ (by decide) | exact xc_ (by decide) | exact x31_ (by decide) | omega)⟩) (fun m c => mu_ne (by first | assumption | decide | exact xs_ (by decide) | exact xc_ (by decide) | exact x31_ (by decide) | omega))
        have Fρ19 : FB (mu (mu (mu (mu (mu (mu V 11 l 3 0) 11 l 0 ((V 11 l 0) + (V 11 l 1))) 11 l 1 0) 11 l 4 (c + (if 0 < (V 11 l 3) then (V 11 l 3) - 0 else 0))) 11 l 5 (wr ((V 11 l 5) + (c + (if 0 < (V 11 l 3) then (V 11 l 3) - 0 else 0))))) 11 l 6 (c + (if 0 < (V 11 l 3) then (V 11 l 3) - 0 else 0))) ρ19 := by rw [e_ρ19]; exact (Fρ14).e (fun l a b => mu_ne (by first | assumption | decide | exact xs_ (by decide) | exact xc_ (by decide) | exact x31_ (by decide) | omega)) |>.v (fun l y a b c => mu_ne (by first | assumption | decide | exact xs_ (by decide) | exact xc_ (by decide) | exact x31_ (by decide) | omega))
        refine r_aload_n hC dX6_endMove_143 rfl ?_
        refine r_iload_n hC dX6_endMove_144 rfl ?_
        refine z_inv1 hM dX6_endMove_145 vl_RX6_191 rfl rfl rfl (Nat.le_of_ble_eq_true rfl) (Nat.le_of_ble_eq_true rfl) ?_
        have hbeg : ¬ (V 11 l 1 = 0 ∧ V 11 l 2 > V 11 l 0) := by omega
        have HF : ¬ (V 11 l 1 = 0 ∧ V 11 l 2 > V 11 l 0) ∧ (0 ≤ (V 11 l 3) ∧ (V 11 l 3) ≤ 3) ∧ V 11 l 6 < (c + (if 0 < (V 11 l 3) then (V 11 l 3) - 0 else 0)) := by refine ⟨hbeg, ?_, ?_⟩ <;> omega
        obtain ⟨n0, n1, n2, n3, n4, n5, n6⟩ := em_3 (a0 := V 11 l 0) (a1 := V 11 l 1) (a2 := V 11 l 2) (a3 := V 11 l 3) (a4 := V 11 l 4) (a5 := V 11 l 5) (a6 := V 11 l 6) (c := c) (w0 := V 11 l 0) (w1 := V 11 l 1) (w2 := V 11 l 2) (w3 := V 11 l 3) (w4 := V 11 l 4) (w5 := V 11 l 5) (w6 := V 11 l 6) HF
        have m0 : (mu (mu (mu (mu (mu (mu V 11 l 3 0) 11 l 0 ((V 11 l 0) + (V 11 l 1))) 11 l 1 0) 11 l 4 (c + (if 0 < (V 11 l 3) then (V 11 l 3) - 0 else 0))) 11 l 5 (wr ((V 11 l 5) + (c + (if 0 < (V 11 l 3) then (V 11 l 3) - 0 else 0))))) 11 l 6 (c + (if 0 < (V 11 l 3) then (V 11 l 3) - 0 else 0))) 11 l 0 = (if (if (V 11 l 1) = 0 ∧ (V 11 l 2) > (V 11 l 0) then (V 11 l 2) + (V 11 l 0) else (V 11 l 3)) - min 3 (if (V 11 l 1) = 0 ∧ (V 11 l 2) > (V 11 l 0) then (V 11 l 2) + (V 11 l 0) else (V 11 l 3)) = 0 then (V 11 l 0) + (if (V 11 l 1) = 0 ∧ (V 11 l 2) > (V 11 l 0) then (V 11 l 2) else (V 11 l 1)) else (V 11 l 0)) := (show (mu (mu (mu (mu (mu (mu V 11 l 3 0) 11 l 0 ((V 11 l 0) + (V 11 l 1))) 11 l 1 0) 11 l 4 (c + (if 0 < (V 11 l 3) then (V 11 l 3) - 0 else 0))) 11 l 5 (wr ((V 11 l 5) + (c + (if 0 < (V 11 l 3) then (V 11 l 3) - 0 else 0))))) 11 l 6 (c + (if 0 < (V 11 l 3) then (V 11 l 3) - 0 else 0))) 11 l 0 = ((V 11 l 0) + (V 11 l 1)) from ((mu_ne (by first | assumption | decide | exact xs_ (by decide) | exact xc_ (by decide) | exact x31_ (by decide) | omega)).trans ((mu_ne (by first | assumption | decide | exact xs_ (by decide) | exact xc_ (by decide) | exact x31_ (by decide) | omega)).trans ((mu_ne (by first | assumption | decide | exact xs_ (by decide) | exact xc_ (by decide) | exact x31_ (by decide) | omega)).trans ((mu_ne (by first | assumption | decide | exact xs_ (by decide) | exact xc_ (by decide) | exact x31_ (by decide) | omega)).trans (mu_self _ _ _ _ _)))))).trans n0
        have m1 : (mu (mu (mu (mu (mu (mu V 11 l 3 0) 11 l 0 ((V 11 l 0) + (V 11 l 1))) 11 l 1 0) 11 l 4 (c + (if 0 < (V 11 l 3) then (V 11 l 3) - 0 else 0))) 11 l 5 (wr ((V 11 l 5) + (c + (if 0 < (V 11 l 3) then (V 11 l 3) - 0 else 0))))) 11 l 6 (c + (if 0 < (V 11 l 3) then (V 11 l 3) - 0 else 0))) 11 l 1 = (if (if (V 11 l 1) = 0 ∧ (V 11 l 2) > (V 11 l 0) then (V 11 l 2) + (V 11 l 0) else (V 11 l 3)) - min 3 (if (V 11 l 1) = 0 ∧ (V 11 l 2) > (V 11 l 0) then (V 11 l 2) + (V 11 l 0) else (V 11 l 3)) = 0 then 0 else (if (V 11 l 1) = 0 ∧ (V 11 l 2) > (V 11 l 0) then (V 11 l 2) else (V 11 l 1))) := (show (mu (mu (mu (mu (mu (mu V 11 l 3 0) 11 l 0 ((V 11 l 0) + (V 11 l 1))) 11 l 1 0) 11 l 4 (c + (if 0 < (V 11 l 3) then (V 11 l 3) - 0 else 0))) 11 l 5 (wr ((V 11 l 5) + (c + (if 0 < (V 11 l 3) then (V 11 l 3) - 0 else 0))))) 11 l 6 (c + (if 0 < (V 11 l 3) then (V 11 l 3) - 0 else 0))) 11 l 1 = 0 from ((mu_ne (by first | assumption | decide | exact xs_ (by decide) | exact xc_ (by decide) | exact x31_ (by decide) | omega)).trans ((mu_ne (by first | assumption | decide | exact xs_ (by decide) | exact xc_ (by decide) | exact x31_ (by decide) | omega)).trans ((mu_ne (by first | assumption | decide | exact xs_ (by decide) | exact xc_ (by decide) | exact x31_ (by decide) | omega)).trans (mu_self _ _ _ _ _))))).trans n1
        have m2 : (mu (mu (mu (mu (mu (mu V 11 l 3 0) 11 l 0 ((V 11 l 0) + (V 11 l 1))) 11 l 1 0) 11 l 4 (c + (if 0 < (V 11 l 3) then (V 11 l 3) - 0 else 0))) 11 l 5 (wr ((V 11 l 5) + (c + (if 0 < (V 11 l 3) then (V 11 l 3) - 0 else 0))))) 11 l 6 (c + (if 0 < (V 11 l 3) then (V 11 l 3) - 0 else 0))) 11 l 2 = (if (V 11 l 1) = 0 ∧ (V 11 l 2) > (V 11 l 0) then 0 else (V 11 l 2)) := (show (mu (mu (mu (mu (mu (mu V 11 l 3 0) 11 l 0 ((V 11 l 0) + (V 11 l 1))) 11 l 1 0) 11 l 4 (c + (if 0 < (V 11 l 3) then (V 11 l 3) - 0 else 0))) 11 l 5 (wr ((V 11 l 5) + (c + (if 0 < (V 11 l 3) then (V 11 l 3) - 0 else 0))))) 11 l 6 (c + (if 0 < (V 11 l 3) then (V 11 l 3) - 0 else 0))) 11 l 2 = (V 11 l 2) from ((mu_ne (by first | assumption | decide | exact xs_ (by decide) | exact xc_ (by decide) | exact x31_ (by decide) | omega)).trans ((mu_ne (by first | assumption | decide | exact xs_ (by decide) | exact xc_ (by decide) | exact x31_ (by decide) | omega)).trans ((mu_ne (by first | assumption | decide | exact xs_ (by decide) | exact xc_ (by decide) | exact x31_ (by decide) | omega)).trans ((mu_ne (by first | assumption | decide | exact xs_ (by decide) | exact xc_ (by decide) | exact x31_ (by decide) | omega)).trans ((mu_ne (by first | assumption | decide | exact xs_ (by decide) | exact xc_ (by decide) | exact x31_ (by decide) | omega)).trans ((mu_ne (by first | assumption | decide | exact xs_ (by decide) | exact xc_ (by decide) | exact x31_ (by decide) | omega)).trans (rfl)))))))).trans n2
        have m3 : (mu (mu (mu (mu (mu (mu V 11 l 3 0) 11 l 0 ((V 11 l 0) + (V 11 l 1))) 11 l 1 0) 11 l 4 (c + (if 0 < (V 11 l 3) then (V 11 l 3) - 0 else 0))) 11 l 5 (wr ((V 11 l 5) + (c + (if 0 < (V 11 l 3) then (V 11 l 3) - 0 else 0))))) 11 l 6 (c + (if 0 < (V 11 l 3) then (V 11 l 3) - 0 else 0))) 11 l 3 = ((if (V 11 l 1) = 0 ∧ (V 11 l 2) > (V 11 l 0) then (V 11 l 2) + (V 11 l 0) else (V 11 l 3)) - min 3 (if (V 11 l 1) = 0 ∧ (V 11 l 2) > (V 11 l 0) then (V 11 l 2) + (V 11 l 0) else (V 11 l 3))) := (show (mu (mu (mu (mu (mu (mu V 11 l 3 0) 11 l 0 ((V 11 l 0) + (V 11 l 1))) 11 l 1 0) 11 l 4 (c + (if 0 < (V 11 l 3) then (V 11 l 3) - 0 else 0))) 11 l 5 (wr ((V 11 l 5) + (c + (if 0 < (V 11 l 3) then (V 11 l 3) - 0 else 0))))) 11 l 6 (c + (if 0 < (V 11 l 3) then (V 11 l 3) - 0 else 0))) 11 l 3 = 0 from ((mu_ne (by first | assumption | decide | exact xs_ (by decide) | exact xc_ (by decide) | exact x31_ (by decide) | omega)).trans ((mu_ne (by first | assumption | decide | exact xs_ (by decide) | exact xc_ (by decide) | exact x31_ (by decide) | omega)).trans ((mu_ne (by first | assumption | decide | exact xs_ (by decide) | exact xc_ (by decide) | exact x31_ (by decide) | omega)).trans ((mu_ne (by first | assumption | decide | exact xs_ (by decide) | exact xc_ (by decide) | exact x31_ (by decide) | omega)).trans ((mu_ne (by first | assumption | decide | exact xs_ (by decide) | exact xc_ (by decide) | exact x31_ (by decide) | omega)).trans (mu_self _ _ _ _ _))))))).trans n3
        have m4 : (mu (mu (mu (mu (mu (mu V 11 l 3 0) 11 l 0 ((V 11 l 0) + (V 11 l 1))) 11 l 1 0) 11 l 4 (c + (if 0 < (V 11 l 3) then (V 11 l 3) - 0 else 0))) 11 l 5 (wr ((V 11 l 5) + (c + (if 0 < (V 11 l 3) then (V 11 l 3) - 0 else 0))))) 11 l 6 (c + (if 0 < (V 11 l 3) then (V 11 l 3) - 0 else 0))) 11 l 4 = (((if (V 11 l 1) = 0 ∧ (V 11 l 2) > (V 11 l 0) then c - 1 else c) + min 3 (if (V 11 l 1) = 0 ∧ (V 11 l 2) > (V 11 l 0) then (V 11 l 2) + (V 11 l 0) else (V 11 l 3)))) := (show (mu (mu (mu (mu (mu (mu V 11 l 3 0) 11 l 0 ((V 11 l 0) + (V 11 l 1))) 11 l 1 0) 11 l 4 (c + (if 0 < (V 11 l 3) then (V 11 l 3) - 0 else 0))) 11 l 5 (wr ((V 11 l 5) + (c + (if 0 < (V 11 l 3) then (V 11 l 3) - 0 else 0))))) 11 l 6 (c + (if 0 < (V 11 l 3) then (V 11 l 3) - 0 else 0))) 11 l 4 = (c + (if 0 < (V 11 l 3) then (V 11 l 3) - 0 else 0)) from ((mu_ne (by first | assumption | decide | exact xs_ (by decide) | exact xc_ (by decide) | exact x31_ (by decide) | omega)).trans ((mu_ne (by first | assumption | decide | exact xs_ (by decide) | exact xc_ (by decide) | exact x31_ (by decide) | omega)).trans (mu_self _ _ _ _ _)))).trans n4
        have m5 : (mu (mu (mu (mu (mu (mu V 11 l 3 0) 11 l 0 ((V 11 l 0) + (V 11 l 1))) 11 l 1 0) 11 l 4 (c + (if 0 < (V 11 l 3) then (V 11 l 3) - 0 else 0))) 11 l 5 (wr ((V 11 l 5) + (c + (if 0 < (V 11 l 3) then (V 11 l 3) - 0 else 0))))) 11 l 6 (c + (if 0 < (V 11 l 3) then (V 11 l 3) - 0 else 0))) 11 l 5 = (wr ((V 11 l 5) + ((if (V 11 l 1) = 0 ∧ (V 11 l 2) > (V 11 l 0) then c - 1 else c) + min 3 (if (V 11 l 1) = 0 ∧ (V 11 l 2) > (V 11 l 0) then (V 11 l 2) + (V 11 l 0) else (V 11 l 3))))) := (show (mu (mu (mu (mu (mu (mu V 11 l 3 0) 11 l 0 ((V 11 l 0) + (V 11 l 1))) 11 l 1 0) 11 l 4 (c + (if 0 < (V 11 l 3) then (V 11 l 3) - 0 else 0))) 11 l 5 (wr ((V 11 l 5) + (c + (if 0 < (V 11 l 3) then (V 11 l 3) - 0 else 0))))) 11 l 6 (c + (if 0 < (V 11 l 3) then (V 11 l 3) - 0 else 0))) 11 l 5 = wr ((V 11 l 5) + (c + (if 0 < (V 11 l 3) then (V 11 l 3) - 0 else 0))) from ((mu_ne (by first | assumption | decide | exact xs_ (by decide) | exact xc_ (by decide) | exact x31_ (by decide) | omega)).trans (mu_self _ _ _ _ _))).trans (congrArg wr n5)
        have m6 : (mu (mu (mu (mu (mu (mu V 11 l 3 0) 11 l 0 ((V 11 l 0) + (V 11 l 1))) 11 l 1 0) 11 l 4 (c + (if 0 < (V 11 l 3) then (V 11 l 3) - 0 else 0))) 11 l 5 (wr ((V 11 l 5) + (c + (if 0 < (V 11 l 3) then (V 11 l 3) - 0 else 0))))) 11 l 6 (c + (if 0 < (V 11 l 3) then (V 11 l 3) - 0 else 0))) 11 l 6 = (max (V 11 l 6) ((if (V 11 l 1) = 0 ∧ (V 11 l 2) > (V 11 l 0) then c - 1 else c) + min 3 (if (V 11 l 1) = 0 ∧ (V 11 l 2) > (V 11 l 0) then (V 11 l 2) + (V 11 l 0) else (V 11 l 3)))) := (show (mu (mu (mu (mu (mu (mu V 11 l 3 0) 11 l 0 ((V 11 l 0) + (V 11 l 1))) 11 l 1 0) 11 l 4 (c + (if 0 < (V 11 l 3) then (V 11 l 3) - 0 else 0))) 11 l 5 (wr ((V 11 l 5) + (c + (if 0 < (V 11 l 3) then (V 11 l 3) - 0 else 0))))) 11 l 6 (c + (if 0 < (V 11 l 3) then (V 11 l 3) - 0 else 0))) 11 l 6 = (c + (if 0 < (V 11 l 3) then (V 11 l 3) - 0 else 0)) from (mu_self _ _ _ _ _)).trans n6
        have hV : (mu (mu (mu (mu (mu (mu V 11 l 3 0) 11 l 0 ((V 11 l 0) + (V 11 l 1))) 11 l 1 0) 11 l 4 (c + (if 0 < (V 11 l 3) then (V 11 l 3) - 0 else 0))) 11 l 5 (wr ((V 11 l 5) + (c + (if 0 < (V 11 l 3) then (V 11 l 3) - 0 else 0))))) 11 l 6 (c + (if 0 < (V 11 l 3) then (V 11 l 3) - 0 else 0))) = (su V 11 l (emR c (V 11 l))) := mu7 (fun c2 x y h => (mu_ne (by first | assumption | decide | exact xs_ (by decide) | exact xc_ (by decide) | exact x31_ (by decide) | omega)).trans ((mu_ne (by first | assumption | decide | exact xs_ (by decide) | exact xc_ (by decide) | exact x31_ (by decide) | omega)).trans ((mu_ne (by first | assumption | decide | exact xs_ (by decide) | exact xc_ (by decide) | exact x31_ (by decide) | omega)).trans ((mu_ne (by first | assumption | decide | exact xs_ (by decide) | exact xc_ (by decide) | exact x31_ (by decide) | omega)).trans ((mu_ne (by first | assumption | decide | exact xs_ (by decide) | exact xc_ (by decide) | exact x31_ (by decide) | omega)).trans ((mu_ne (by first | assumption | decide | exact xs_ (by decide) | exact xc_ (by decide) | exact x31_ (by decide) | omega)).trans (rfl))))))) m0 m1 m2 m3 m4 m5 m6
        have qS := Sρ19
        have qX := Xρ19
        have qF := Fρ19
        rw [hV] at qS qX qF
        have q16 : 0 = (if (su V 11 l (emR c (V 11 l))) 11 l 3 = 0 then (0 : Int) else 1) := by rw [← hV, m3]; simp only [if_neg hbeg]; (repeat' split) <;> omega
        have qR : RS t σ0 (su V 11 l (emR c (V 11 l))) ρ19 := ⟨qS, qX.kf (r16a_ρ19.trans q16) r17b_ρ19, qF⟩
        have qL : LK (su V 11 l (emR c (V 11 l))) l := hL.to (fun c2 x y h => su_ne (by first | assumption | decide | exact xs_ (by decide) | exact xc_ (by decide) | exact x31_ (by decide) | omega))
        refine y_look (V := (su V 11 l (emR c (V 11 l)))) (by first | assumption | decide | exact xs_ (by decide) | exact xc_ (by decide) | exact x31_ (by decide) | omega) ht qR (by first | assumption | decide | exact xs_ (by decide) | exact xc_ (by decide) | exact x31_ (by decide) | omega) qL (fun ρ20 Rρ20 => ?_)
        refine y_vret hK rfl dX6_endMove_148 ?_
        exact k _ Rρ20
  · refine r_aload_n hC dX6_endMove_12 rfl ?_
    refine r_iload_n hC dX6_endMove_13 rfl ?_
    refine r_bipush hC dX6_endMove_14 rfl ?_
    refine z_inv2 hM dX6_endMove_16 vl_RX6_80 rfl rfl rfl (Nat.le_of_ble_eq_true rfl) (Nat.le_of_ble_eq_true rfl) ?_
    refine y_of (by first | assumption | decide | exact xs_ (by decide) | exact xc_ (by decide) | exact x31_ (by decide) | omega) (by first | assumption | decide | exact xs_ (by decide) | exact xc_ (by decide) | exact x31_ (by decide) | omega) (by first | assumption | decide | exact xs_ (by decide) | exact xc_ (by decide) | exact x31_ (by decide) | omega) (fun o21 => ?_)
    have e22 : σ 31 0 (22 * l + 14) = (V 11 l 2) := (hS.a11 (s := 2) (f := 14) (by first | assumption | decide | exact xs_ (by decide) | exact xc_ (by decide) | exact x31_ (by decide) | omega) (by first | assumption | decide | exact xs_ (by decide) | exact xc_ (by decide) | exact x31_ (by decide) | omega) (by first | assumption | decide | exact xs_ (by decide) | exact xc_ (by decide) | exact x31_ (by decide) | omega)).trans (rfl)
    rw [e22] at o21 ⊢
    refine r_aload_n hC dX6_endMove_19 rfl ?_
    refine r_iload_n hC dX6_endMove_20 rfl ?_
    refine r_bipush hC dX6_endMove_21 rfl ?_
    refine z_inv2 hM dX6_endMove_23 vl_RX6_80 rfl rfl rfl (Nat.le_of_ble_eq_true rfl) (Nat.le_of_ble_eq_true rfl) ?_
    refine y_of (by first | assumption | decide | exact xs_ (by decide) | exact xc_ (by decide) | exact x31_ (by decide) | omega) (by first | assumption | decide | exact xs_ (by decide) | exact xc_ (by decide) | exact x31_ (by decide) | omega) (by first | assumption | decide | exact xs_ (by decide) | exact xc_ (by decide) | exact x31_ (by decide) | omega) (fun o23 => ?_)
    have e24 : σ 31 0 (22 * l + 12) = (V 11 l 0) := (hS.a11 (s := 0) (f := 12) (by first | assumption | decide | exact xs_ (by decide) | exact xc_ (by decide) | exact x31_ (by decide) | omega) (by first | assumption | decide | exact xs_ (by decide) | exact xc_ (by decide) | exact x31_ (by decide) | omega) (by first | assumption | decide | exact xs_ (by decide) | exact xc_ (by decide) | exact x31_ (by decide) | omega)).trans (rfl)
    rw [e24] at o23 ⊢
    refine r_icmp_le (tgt := 89) hC dX6_endMove_26 rfl (fun h25 => ?_) (fun h25 => ?_)
    · refine r_aload_n hC dX6_endMove_89 rfl ?_
      refine r_iload_n hC dX6_endMove_90 rfl ?_
      refine r_bipush hC dX6_endMove_91 rfl ?_
      refine z_inv2 hM dX6_endMove_93 vl_RX6_80 rfl rfl rfl (Nat.le_of_ble_eq_true rfl) (Nat.le_of_ble_eq_true rfl) ?_
      refine y_of (by first | assumption | decide | exact xs_ (by decide) | exact xc_ (by decide) | exact x31_ (by decide) | omega) (by first | assumption | decide | exact xs_ (by decide) | exact xc_ (by decide) | exact x31_ (by decide) | omega) (by first | assumption | decide | exact xs_ (by decide) | exact xc_ (by decide) | exact x31_ (by decide) | omega) (fun o26 => ?_)
      rw [h16]
      refine r_iconst hC dX6_endMove_96 rfl ?_
      refine r_icmp_ne (tgt := 108) hC dX6_endMove_97 rfl (fun h27 => ?_) (fun h27 => by omega)
      refine r_aload_n hC dX6_endMove_108 rfl ?_
      refine r_iload_n hC dX6_endMove_109 rfl ?_
      refine r_bipush hC dX6_endMove_110 rfl ?_
      refine r_iload_n hC dX6_endMove_112 rfl ?_
      refine z_inv3 hM dX6_endMove_113 vl_RX6_173 rfl rfl rfl (Nat.le_of_ble_eq_true rfl) (Nat.le_of_ble_eq_true rfl) ?_
      refine y_set (by first | assumption | decide | exact xs_ (by decide) | exact xc_ (by decide) | exact x31_ (by decide) | omega) (by first | assumption | decide | exact xs_ (by decide) | exact xc_ (by decide) | exact x31_ (by decide) | omega) ⟨fun h => by omega, fun h => by omega⟩ ?_
      obtain ⟨ρ28, e_ρ28⟩ : ∃ zz_, zz_ = mu σ 31 0 ((22 * l) + 18) c := ⟨_, rfl⟩
      rw [← e_ρ28]
      have Sρ28 : SB t σ0 (mu V 11 l 4 c) ρ28 := by rw [e_ρ28, show ((22 * l) + 18) = 22 * l + 18 from by omega]; exact hS.p11 (by first | assumption | decide | exact xs_ (by decide) | exact xc_ (by decide) | exact x31_ (by decide) | omega) (by first | assumption | decide | exact xs_ (by decide) | exact xc_ (by decide) | exact x31_ (by decide) | omega) (by first | assumption | decide | exact xs_ (by decide) | exact xc_ (by decide) | exact x31_ (by decide) | omega)
      have r16a_ρ28 : ρ28 31 0 (22 * l + 16) = fl := by rw [e_ρ28]; exact (mu_ne (by first | assumption | decide | exact xs_ (by decide) | exact xc_ (by decide) | exact x31_ (by decide) | omega)).trans h16
      have r17b_ρ28 : ρ28 31 0 (22 * l + 17) = 0 := by rw [e_ρ28]; exact (mu_ne (by first | assumption | decide | exact xs_ (by decide) | exact xc_ (by decide) | exact x31_ (by decide) | omega)).trans h17
      have Xρ28 : KX t l (mu V 11 l 4 c) ρ28 := (hX).e (fun m a b c => by rw [e_ρ28]; exact ⟨mu_ne (by first | assumption | decide | exact xs_ (by decide) | exact xc_ (by decide) | exact x31_ (by decide) | omega), mu_ne (by first | assumption | decide | exact xs_ (by decide) | exact xc_ (by decide) | exact x31_ (by decide) | omega)⟩) (fun m c => mu_ne (by first | assumption | decide | exact xs_ (by decide) | exact xc_ (by decide) | exact x31_ (by decide) | omega))
      have Fρ28 : FB (mu V 11 l 4 c) ρ28 := by rw [e_ρ28]; exact (hFB).e (fun l a b => mu_ne (by first | assumption | decide | exact xs_ (by decide) | exact xc_ (by decide) | exact x31_ (by decide) | omega)) |>.v (fun l y a b c => mu_ne (by first | assumption | decide | exact xs_ (by decide) | exact xc_ (by decide) | exact x31_ (by decide) | omega))
      refine r_aload_n hC dX6_endMove_116 rfl ?_
      refine r_iload_n hC dX6_endMove_117 rfl ?_
      refine r_bipush hC dX6_endMove_118 rfl ?_
      refine r_iload_n hC dX6_endMove_120 rfl ?_
      refine z_inv3 hM dX6_endMove_121 vl_RX6_188 rfl rfl rfl (Nat.le_of_ble_eq_true rfl) (Nat.le_of_ble_eq_true rfl) ?_
      refine y_moreW (a := (V 11 l 5)) (by first | assumption | decide | exact xs_ (by decide) | exact xc_ (by decide) | exact x31_ (by decide) | omega) (by first | assumption | decide | exact xs_ (by decide) | exact xc_ (by decide) | exact x31_ (by decide) | omega) ⟨fun h => by omega, by omega⟩ ((Sρ28.a11 (s := 5) (f := 19) (by first | assumption | decide | exact xs_ (by decide) | exact xc_ (by decide) | exact x31_ (by decide) | omega) (by first | assumption | decide | exact xs_ (by decide) | exact xc_ (by decide) | exact x31_ (by decide) | omega) (by first | assumption | decide | exact xs_ (by decide) | exact xc_ (by decide) | exact x31_ (by decide) | omega)).trans ((mu_ne (by first | assumption | decide | exact xs_ (by decide) | exact xc_ (by decide) | exact x31_ (by decide) | omega)).trans (rfl))) (by first | assumption | decide | exact xs_ (by decide) | exact xc_ (by decide) | exact x31_ (by decide) | omega) ?_
      obtain ⟨ρ29, e_ρ29⟩ : ∃ zz_, zz_ = mu ρ28 31 0 ((22 * l) + 19) (wr ((V 11 l 5) + c)) := ⟨_, rfl⟩
      rw [← e_ρ29]
      have Sρ29 : SB t σ0 (mu (mu V 11 l 4 c) 11 l 5 (wr ((V 11 l 5) + c))) ρ29 := by rw [e_ρ29, show ((22 * l) + 19) = 22 * l + 19 from by omega]; exact Sρ28.p11 (by first | assumption | decide | exact xs_ (by decide) | exact xc_ (by decide) | exact x31_ (by decide) | omega) (by first | assumption | decide | exact xs_ (by decide) | exact xc_ (by decide) | exact x31_ (by decide) | omega) (by first | assumption | decide | exact xs_ (by decide) | exact xc_ (by decide) | exact x31_ (by decide) | omega)
      have r16a_ρ29 : ρ29 31 0 (22 * l + 16) = fl := by rw [e_ρ29]; exact (mu_ne (by first | assumption | decide | exact xs_ (by decide) | exact xc_ (by decide) | exact x31_ (by decide) | omega)).trans r16a_ρ28
      have r17b_ρ29 : ρ29 31 0 (22 * l + 17) = 0 := by rw [e_ρ29]; exact (mu_ne (by first | assumption | decide | exact xs_ (by decide) | exact xc_ (by decide) | exact x31_ (by decide) | omega)).trans r17b_ρ28
      have Xρ29 : KX t l (mu (mu V 11 l 4 c) 11 l 5 (wr ((V 11 l 5) + c))) ρ29 := (Xρ28).e (fun m a b c => by rw [e_ρ29]; exact ⟨mu_ne (by first | assumption | decide | exact xs_ (by decide) | exact xc_ (by decide) | exact x31_ (by decide) | omega), mu_ne (by first | assumption | decide | exact xs_ (by decide) | exact xc_ (by decide) | exact x31_ (by decide) | omega)⟩) (fun m c => mu_ne (by first | assumption | decide | exact xs_ (by decide) | exact xc_ (by decide) | exact x31_ (by decide) | omega))
      have Fρ29 : FB (mu (mu V 11 l 4 c) 11 l 5 (wr ((V 11 l 5) + c))) ρ29 := by rw [e_ρ29]; exact (Fρ28).e (fun l a b => mu_ne (by first | assumption | decide | exact xs_ (by decide) | exact xc_ (by decide) | exact x31_ (by decide) | omega)) |>.v (fun l y a b c => mu_ne (by first | assumption | decide | exact xs_ (by decide) | exact xc_ (by decide) | exact x31_ (by decide) | omega))
      refine r_iload_n hC dX6_endMove_124 rfl ?_
      refine r_aload_n hC dX6_endMove_125 rfl ?_
      refine r_iload_n hC dX6_endMove_126 rfl ?_
      refine r_bipush hC dX6_endMove_127 rfl ?_
      refine z_inv2 hM dX6_endMove_129 vl_RX6_80 rfl rfl rfl (Nat.le_of_ble_eq_true rfl) (Nat.le_of_ble_eq_true rfl) ?_
      refine y_of (by first | assumption | decide | exact xs_ (by decide) | exact xc_ (by decide) | exact x31_ (by decide) | omega) (by first | assumption | decide | exact xs_ (by decide) | exact xc_ (by decide) | exact x31_ (by decide) | omega) (by first | assumption | decide | exact xs_ (by decide) | exact xc_ (by decide) | exact x31_ (by decide) | omega) (fun o30 => ?_)
      have e31 : ρ29 31 0 (22 * l + 20) = (V 11 l 6) := (Sρ29.a11 (s := 6) (f := 20) (by first | assumption | decide | exact xs_ (by decide) | exact xc_ (by decide) | exact x31_ (by decide) | omega) (by first | assumption | decide | exact xs_ (by decide) | exact xc_ (by decide) | exact x31_ (by decide) | omega) (by first | assumption | decide | exact xs_ (by decide) | exact xc_ (by decide) | exact x31_ (by decide) | omega)).trans ((mu_ne (by first | assumption | decide | exact xs_ (by decide) | exact xc_ (by decide) | exact x31_ (by decide) | omega)).trans ((mu_ne (by first | assumption | decide | exact xs_ (by decide) | exact xc_ (by decide) | exact x31_ (by decide) | omega)).trans (rfl)))
      rw [e31] at o30 ⊢
      refine r_icmp_le (tgt := 143) hC dX6_endMove_132 rfl (fun h32 => ?_) (fun h32 => ?_)
      · refine r_aload_n hC dX6_endMove_143 rfl ?_
        refine r_iload_n hC dX6_endMove_144 rfl ?_
        refine z_inv1 hM dX6_endMove_145 vl_RX6_191 rfl rfl rfl (Nat.le_of_ble_eq_true rfl) (Nat.le_of_ble_eq_true rfl) ?_
        have hbeg : ¬ (V 11 l 1 = 0 ∧ V 11 l 2 > V 11 l 0) := by omega
        have HF : ¬ (V 11 l 1 = 0 ∧ V 11 l 2 > V 11 l 0) ∧ (V 11 l 1 = 0 ∧ V 11 l 3 = 0) ∧ c ≤ V 11 l 6 := by refine ⟨hbeg, ?_, ?_⟩ <;> omega
        obtain ⟨n0, n1, n2, n3, n4, n5, n6⟩ := em_4 (a0 := V 11 l 0) (a1 := V 11 l 1) (a2 := V 11 l 2) (a3 := V 11 l 3) (a4 := V 11 l 4) (a5 := V 11 l 5) (a6 := V 11 l 6) (c := c) (w0 := V 11 l 0) (w1 := V 11 l 1) (w2 := V 11 l 2) (w3 := V 11 l 3) (w4 := V 11 l 4) (w5 := V 11 l 5) (w6 := V 11 l 6) HF
        have m0 : (mu (mu V 11 l 4 c) 11 l 5 (wr ((V 11 l 5) + c))) 11 l 0 = (if (if (V 11 l 1) = 0 ∧ (V 11 l 2) > (V 11 l 0) then (V 11 l 2) + (V 11 l 0) else (V 11 l 3)) - min 3 (if (V 11 l 1) = 0 ∧ (V 11 l 2) > (V 11 l 0) then (V 11 l 2) + (V 11 l 0) else (V 11 l 3)) = 0 then (V 11 l 0) + (if (V 11 l 1) = 0 ∧ (V 11 l 2) > (V 11 l 0) then (V 11 l 2) else (V 11 l 1)) else (V 11 l 0)) := (show (mu (mu V 11 l 4 c) 11 l 5 (wr ((V 11 l 5) + c))) 11 l 0 = (V 11 l 0) from ((mu_ne (by first | assumption | decide | exact xs_ (by decide) | exact xc_ (by decide) | exact x31_ (by decide) | omega)).trans ((mu_ne (by first | assumption | decide | exact xs_ (by decide) | exact xc_ (by decide) | exact x31_ (by decide) | omega)).trans (rfl)))).trans n0
        have m1 : (mu (mu V 11 l 4 c) 11 l 5 (wr ((V 11 l 5) + c))) 11 l 1 = (if (if (V 11 l 1) = 0 ∧ (V 11 l 2) > (V 11 l 0) then (V 11 l 2) + (V 11 l 0) else (V 11 l 3)) - min 3 (if (V 11 l 1) = 0 ∧ (V 11 l 2) > (V 11 l 0) then (V 11 l 2) + (V 11 l 0) else (V 11 l 3)) = 0 then 0 else (if (V 11 l 1) = 0 ∧ (V 11 l 2) > (V 11 l 0) then (V 11 l 2) else (V 11 l 1))) := (show (mu (mu V 11 l 4 c) 11 l 5 (wr ((V 11 l 5) + c))) 11 l 1 = (V 11 l 1) from ((mu_ne (by first | assumption | decide | exact xs_ (by decide) | exact xc_ (by decide) | exact x31_ (by decide) | omega)).trans ((mu_ne (by first | assumption | decide | exact xs_ (by decide) | exact xc_ (by decide) | exact x31_ (by decide) | omega)).trans (rfl)))).trans n1
        have m2 : (mu (mu V 11 l 4 c) 11 l 5 (wr ((V 11 l 5) + c))) 11 l 2 = (if (V 11 l 1) = 0 ∧ (V 11 l 2) > (V 11 l 0) then 0 else (V 11 l 2)) := (show (mu (mu V 11 l 4 c) 11 l 5 (wr ((V 11 l 5) + c))) 11 l 2 = (V 11 l 2) from ((mu_ne (by first | assumption | decide | exact xs_ (by decide) | exact xc_ (by decide) | exact x31_ (by decide) | omega)).trans ((mu_ne (by first | assumption | decide | exact xs_ (by decide) | exact xc_ (by decide) | exact x31_ (by decide) | omega)).trans (rfl)))).trans n2
        have m3 : (mu (mu V 11 l 4 c) 11 l 5 (wr ((V 11 l 5) + c))) 11 l 3 = ((if (V 11 l 1) = 0 ∧ (V 11 l 2) > (V 11 l 0) then (V 11 l 2) + (V 11 l 0) else (V 11 l 3)) - min 3 (if (V 11 l 1) = 0 ∧ (V 11 l 2) > (V 11 l 0) then (V 11 l 2) + (V 11 l 0) else (V 11 l 3))) := (show (mu (mu V 11 l 4 c) 11 l 5 (wr ((V 11 l 5) + c))) 11 l 3 = (V 11 l 3) from ((mu_ne (by first | assumption | decide | exact xs_ (by decide) | exact xc_ (by decide) | exact x31_ (by decide) | omega)).trans ((mu_ne (by first | assumption | decide | exact xs_ (by decide) | exact xc_ (by decide) | exact x31_ (by decide) | omega)).trans (rfl)))).trans n3
        have m4 : (mu (mu V 11 l 4 c) 11 l 5 (wr ((V 11 l 5) + c))) 11 l 4 = (((if (V 11 l 1) = 0 ∧ (V 11 l 2) > (V 11 l 0) then c - 1 else c) + min 3 (if (V 11 l 1) = 0 ∧ (V 11 l 2) > (V 11 l 0) then (V 11 l 2) + (V 11 l 0) else (V 11 l 3)))) := (show (mu (mu V 11 l 4 c) 11 l 5 (wr ((V 11 l 5) + c))) 11 l 4 = c from ((mu_ne (by first | assumption | decide | exact xs_ (by decide) | exact xc_ (by decide) | exact x31_ (by decide) | omega)).trans (mu_self _ _ _ _ _))).trans n4
        have m5 : (mu (mu V 11 l 4 c) 11 l 5 (wr ((V 11 l 5) + c))) 11 l 5 = (wr ((V 11 l 5) + ((if (V 11 l 1) = 0 ∧ (V 11 l 2) > (V 11 l 0) then c - 1 else c) + min 3 (if (V 11 l 1) = 0 ∧ (V 11 l 2) > (V 11 l 0) then (V 11 l 2) + (V 11 l 0) else (V 11 l 3))))) := (show (mu (mu V 11 l 4 c) 11 l 5 (wr ((V 11 l 5) + c))) 11 l 5 = wr ((V 11 l 5) + c) from (mu_self _ _ _ _ _)).trans (congrArg wr n5)
        have m6 : (mu (mu V 11 l 4 c) 11 l 5 (wr ((V 11 l 5) + c))) 11 l 6 = (max (V 11 l 6) ((if (V 11 l 1) = 0 ∧ (V 11 l 2) > (V 11 l 0) then c - 1 else c) + min 3 (if (V 11 l 1) = 0 ∧ (V 11 l 2) > (V 11 l 0) then (V 11 l 2) + (V 11 l 0) else (V 11 l 3)))) := (show (mu (mu V 11 l 4 c) 11 l 5 (wr ((V 11 l 5) + c))) 11 l 6 = (V 11 l 6) from ((mu_ne (by first | assumption | decide | exact xs_ (by decide) | exact xc_ (by decide) | exact x31_ (by decide) | omega)).trans ((mu_ne (by first | assumption | decide | exact xs_ (by decide) | exact xc_ (by decide) | exact x31_ (by decide) | omega)).trans (rfl)))).trans n6
        have hV : (mu (mu V 11 l 4 c) 11 l 5 (wr ((V 11 l 5) + c))) = (su V 11 l (emR c (V 11 l))) := mu7 (fun c2 x y h => (mu_ne (by first | assumption | decide | exact xs_ (by decide) | exact xc_ (by decide) | exact x31_ (by decide) | omega)).trans ((mu_ne (by first | assumption | decide | exact xs_ (by decide) | exact xc_ (by decide) | exact x31_ (by decide) | omega)).trans (rfl))) m0 m1 m2 m3 m4 m5 m6
        have qS := Sρ29
        have qX := Xρ29
        have qF := Fρ29
        rw [hV] at qS qX qF
        have q16 : fl = (if (su V 11 l (emR c (V 11 l))) 11 l 3 = 0 then (0 : Int) else 1) := by rw [← hV, m3]; simp only [if_neg hbeg]; (repeat' split) <;> omega
        have qR : RS t σ0 (su V 11 l (emR c (V 11 l))) ρ29 := ⟨qS, qX.kf (r16a_ρ29.trans q16) r17b_ρ29, qF⟩
        have qL : LK (su V 11 l (emR c (V 11 l))) l := hL.to (fun c2 x y h => su_ne (by first | assumption | decide | exact xs_ (by decide) | exact xc_ (by decide) | exact x31_ (by decide) | omega))
        refine y_look (V := (su V 11 l (emR c (V 11 l)))) (by first | assumption | decide | exact xs_ (by decide) | exact xc_ (by decide) | exact x31_ (by decide) | omega) ht qR (by first | assumption | decide | exact xs_ (by decide) | exact xc_ (by decide) | exact x31_ (by decide) | omega) qL (fun ρ33 Rρ33 => ?_)
        refine y_vret hK rfl dX6_endMove_148 ?_
        exact k _ Rρ33
      · refine r_aload_n hC dX6_endMove_135 rfl ?_
        refine r_iload_n hC dX6_endMove_136 rfl ?_
        refine r_bipush hC dX6_endMove_137 rfl ?_
        refine r_iload_n hC dX6_endMove_139 rfl ?_
        refine z_inv3 hM dX6_endMove_140 vl_RX6_173 rfl rfl rfl (Nat.le_of_ble_eq_true rfl) (Nat.le_of_ble_eq_true rfl) ?_
        refine y_set (by first | assumption | decide | exact xs_ (by decide) | exact xc_ (by decide) | exact x31_ (by decide) | omega) (by first | assumption | decide | exact xs_ (by decide) | exact xc_ (by decide) | exact x31_ (by decide) | omega) ⟨fun h => by omega, fun h => by omega⟩ ?_
        obtain ⟨ρ34, e_ρ34⟩ : ∃ zz_, zz_ = mu ρ29 31 0 ((22 * l) + 20) c := ⟨_, rfl⟩
        rw [← e_ρ34]
        have Sρ34 : SB t σ0 (mu (mu (mu V 11 l 4 c) 11 l 5 (wr ((V 11 l 5) + c))) 11 l 6 c) ρ34 := by rw [e_ρ34, show ((22 * l) + 20) = 22 * l + 20 from by omega]; exact Sρ29.p11 (by first | assumption | decide | exact xs_ (by decide) | exact xc_ (by decide) | exact x31_ (by decide) | omega) (by first | assumption | decide | exact xs_ (by decide) | exact xc_ (by decide) | exact x31_ (by decide) | omega) (by first | assumption | decide | exact xs_ (by decide) | exact xc_ (by decide) | exact x31_ (by decide) | omega)
        have r16a_ρ34 : ρ34 31 0 (22 * l + 16) = fl := by rw [e_ρ34]; exact (mu_ne (by first | assumption | decide | exact xs_ (by decide) | exact xc_ (by decide) | exact x31_ (by decide) | omega)).trans r16a_ρ29
        have r17b_ρ34 : ρ34 31 0 (22 * l + 17) = 0 := by rw [e_ρ34]; exact (mu_ne (by first | assumption | decide | exact xs_ (by decide) | exact xc_ (by decide) | exact x31_ (by decide) | omega)).trans r17b_ρ29
        have Xρ34 : KX t l (mu (mu (mu V 11 l 4 c) 11 l 5 (wr ((V 11 l 5) + c))) 11 l 6 c) ρ34 := (Xρ29).e (fun m a b c => by rw [e_ρ34]; exact ⟨mu_ne (by first | assumption | decide | exact xs_ (by decide) | exact xc_ (by decide) | exact x31_ (by decide) | omega), mu_ne (by first | assumption | decide | exact xs_ (by decide) | exact xc_ (by decide) | exact x31_ (by decide) | omega)⟩) (fun m c => mu_ne (by first | assumption | decide | exact xs_ (by decide) | exact xc_ (by decide) | exact x31_ (by decide) | omega))
        have Fρ34 : FB (mu (mu (mu V 11 l 4 c) 11 l 5 (wr ((V 11 l 5) + c))) 11 l 6 c) ρ34 := by rw [e_ρ34]; exact (Fρ29).e (fun l a b => mu_ne (by first | assumption | decide | exact xs_ (by decide) | exact xc_ (by decide) | exact x31_ (by decide) | omega)) |>.v (fun l y a b c => mu_ne (by first | assumption | decide | exact xs_ (by decide) | exact xc_ (by decide) | exact x31_ (by decide) | omega))
        refine r_aload_n hC dX6_endMove_143 rfl ?_
        refine r_iload_n hC dX6_endMove_144 rfl ?_
        refine z_inv1 hM dX6_endMove_145 vl_RX6_191 rfl rfl rfl (Nat.le_of_ble_eq_true rfl) (Nat.le_of_ble_eq_true rfl) ?_
        have hbeg : ¬ (V 11 l 1 = 0 ∧ V 11 l 2 > V 11 l 0) := by omega
        have HF : ¬ (V 11 l 1 = 0 ∧ V 11 l 2 > V 11 l 0) ∧ (V 11 l 1 = 0 ∧ V 11 l 3 = 0) ∧ V 11 l 6 < c := by refine ⟨hbeg, ?_, ?_⟩ <;> omega
        obtain ⟨n0, n1, n2, n3, n4, n5, n6⟩ := em_5 (a0 := V 11 l 0) (a1 := V 11 l 1) (a2 := V 11 l 2) (a3 := V 11 l 3) (a4 := V 11 l 4) (a5 := V 11 l 5) (a6 := V 11 l 6) (c := c) (w0 := V 11 l 0) (w1 := V 11 l 1) (w2 := V 11 l 2) (w3 := V 11 l 3) (w4 := V 11 l 4) (w5 := V 11 l 5) (w6 := V 11 l 6) HF
        have m0 : (mu (mu (mu V 11 l 4 c) 11 l 5 (wr ((V 11 l 5) + c))) 11 l 6 c) 11 l 0 = (if (if (V 11 l 1) = 0 ∧ (V 11 l 2) > (V 11 l 0) then (V 11 l 2) + (V 11 l 0) else (V 11 l 3)) - min 3 (if (V 11 l 1) = 0 ∧ (V 11 l 2) > (V 11 l 0) then (V 11 l 2) + (V 11 l 0) else (V 11 l 3)) = 0 then (V 11 l 0) + (if (V 11 l 1) = 0 ∧ (V 11 l 2) > (V 11 l 0) then (V 11 l 2) else (V 11 l 1)) else (V 11 l 0)) := (show (mu (mu (mu V 11 l 4 c) 11 l 5 (wr ((V 11 l 5) + c))) 11 l 6 c) 11 l 0 = (V 11 l 0) from ((mu_ne (by first | assumption | decide | exact xs_ (by decide) | exact xc_ (by decide) | exact x31_ (by decide) | omega)).trans ((mu_ne (by first | assumption | decide | exact xs_ (by decide) | exact xc_ (by decide) | exact x31_ (by decide) | omega)).trans ((mu_ne (by first | assumption | decide | exact xs_ (by decide) | exact xc_ (by decide) | exact x31_ (by decide) | omega)).trans (rfl))))).trans n0
        have m1 : (mu (mu (mu V 11 l 4 c) 11 l 5 (wr ((V 11 l 5) + c))) 11 l 6 c) 11 l 1 = (if (if (V 11 l 1) = 0 ∧ (V 11 l 2) > (V 11 l 0) then (V 11 l 2) + (V 11 l 0) else (V 11 l 3)) - min 3 (if (V 11 l 1) = 0 ∧ (V 11 l 2) > (V 11 l 0) then (V 11 l 2) + (V 11 l 0) else (V 11 l 3)) = 0 then 0 else (if (V 11 l 1) = 0 ∧ (V 11 l 2) > (V 11 l 0) then (V 11 l 2) else (V 11 l 1))) := (show (mu (mu (mu V 11 l 4 c) 11 l 5 (wr ((V 11 l 5) + c))) 11 l 6 c) 11 l 1 = (V 11 l 1) from ((mu_ne (by first | assumption | decide | exact xs_ (by decide) | exact xc_ (by decide) | exact x31_ (by decide) | omega)).trans ((mu_ne (by first | assumption | decide | exact xs_ (by decide) | exact xc_ (by decide) | exact x31_ (by decide) | omega)).trans ((mu_ne (by first | assumption | decide | exact xs_ (by decide) | exact xc_ (by decide) | exact x31_ (by decide) | omega)).trans (rfl))))).trans n1
        have m2 : (mu (mu (mu V 11 l 4 c) 11 l 5 (wr ((V 11 l 5) + c))) 11 l 6 c) 11 l 2 = (if (V 11 l 1) = 0 ∧ (V 11 l 2) > (V 11 l 0) then 0 else (V 11 l 2)) := (show (mu (mu (mu V 11 l 4 c) 11 l 5 (wr ((V 11 l 5) + c))) 11 l 6 c) 11 l 2 = (V 11 l 2) from ((mu_ne (by first | assumption | decide | exact xs_ (by decide) | exact xc_ (by decide) | exact x31_ (by decide) | omega)).trans ((mu_ne (by first | assumption | decide | exact xs_ (by decide) | exact xc_ (by decide) | exact x31_ (by decide) | omega)).trans ((mu_ne (by first | assumption | decide | exact xs_ (by decide) | exact xc_ (by decide) | exact x31_ (by decide) | omega)).trans (rfl))))).trans n2
        have m3 : (mu (mu (mu V 11 l 4 c) 11 l 5 (wr ((V 11 l 5) + c))) 11 l 6 c) 11 l 3 = ((if (V 11 l 1) = 0 ∧ (V 11 l 2) > (V 11 l 0) then (V 11 l 2) + (V 11 l 0) else (V 11 l 3)) - min 3 (if (V 11 l 1) = 0 ∧ (V 11 l 2) > (V 11 l 0) then (V 11 l 2) + (V 11 l 0) else (V 11 l 3))) := (show (mu (mu (mu V 11 l 4 c) 11 l 5 (wr ((V 11 l 5) + c))) 11 l 6 c) 11 l 3 = (V 11 l 3) from ((mu_ne (by first | assumption | decide | exact xs_ (by decide) | exact xc_ (by decide) | exact x31_ (by decide) | omega)).trans ((mu_ne (by first | assumption | decide | exact xs_ (by decide) | exact xc_ (by decide) | exact x31_ (by decide) | omega)).trans ((mu_ne (by first | assumption | decide | exact xs_ (by decide) | exact xc_ (by decide) | exact x31_ (by decide) | omega)).trans (rfl))))).trans n3
        have m4 : (mu (mu (mu V 11 l 4 c) 11 l 5 (wr ((V 11 l 5) + c))) 11 l 6 c) 11 l 4 = (((if (V 11 l 1) = 0 ∧ (V 11 l 2) > (V 11 l 0) then c - 1 else c) + min 3 (if (V 11 l 1) = 0 ∧ (V 11 l 2) > (V 11 l 0) then (V 11 l 2) + (V 11 l 0) else (V 11 l 3)))) := (show (mu (mu (mu V 11 l 4 c) 11 l 5 (wr ((V 11 l 5) + c))) 11 l 6 c) 11 l 4 = c from ((mu_ne (by first | assumption | decide | exact xs_ (by decide) | exact xc_ (by decide) | exact x31_ (by decide) | omega)).trans ((mu_ne (by first | assumption | decide | exact xs_ (by decide) | exact xc_ (by decide) | exact x31_ (by decide) | omega)).trans (mu_self _ _ _ _ _)))).trans n4
        have m5 : (mu (mu (mu V 11 l 4 c) 11 l 5 (wr ((V 11 l 5) + c))) 11 l 6 c) 11 l 5 = (wr ((V 11 l 5) + ((if (V 11 l 1) = 0 ∧ (V 11 l 2) > (V 11 l 0) then c - 1 else c) + min 3 (if (V 11 l 1) = 0 ∧ (V 11 l 2) > (V 11 l 0) then (V 11 l 2) + (V 11 l 0) else (V 11 l 3))))) := (show (mu (mu (mu V 11 l 4 c) 11 l 5 (wr ((V 11 l 5) + c))) 11 l 6 c) 11 l 5 = wr ((V 11 l 5) + c) from ((mu_ne (by first | assumption | decide | exact xs_ (by decide) | exact xc_ (by decide) | exact x31_ (by decide) | omega)).trans (mu_self _ _ _ _ _))).trans (congrArg wr n5)
        have m6 : (mu (mu (mu V 11 l 4 c) 11 l 5 (wr ((V 11 l 5) + c))) 11 l 6 c) 11 l 6 = (max (V 11 l 6) ((if (V 11 l 1) = 0 ∧ (V 11 l 2) > (V 11 l 0) then c - 1 else c) + min 3 (if (V 11 l 1) = 0 ∧ (V 11 l 2) > (V 11 l 0) then (V 11 l 2) + (V 11 l 0) else (V 11 l 3)))) := (show (mu (mu (mu V 11 l 4 c) 11 l 5 (wr ((V 11 l 5) + c))) 11 l 6 c) 11 l 6 = c from (mu_self _ _ _ _ _)).trans n6
        have hV : (mu (mu (mu V 11 l 4 c) 11 l 5 (wr ((V 11 l 5) + c))) 11 l 6 c) = (su V 11 l (emR c (V 11 l))) := mu7 (fun c2 x y h => (mu_ne (by first | assumption | decide | exact xs_ (by decide) | exact xc_ (by decide) | exact x31_ (by decide) | omega)).trans ((mu_ne (by first | assumption | decide | exact xs_ (by decide) | exact xc_ (by decide) | exact x31_ (by decide) | omega)).trans ((mu_ne (by first | assumption | decide | exact xs_ (by decide) | exact xc_ (by decide) | exact x31_ (by decide) | omega)).trans (rfl)))) m0 m1 m2 m3 m4 m5 m6
        have qS := Sρ34
        have qX := Xρ34
        have qF := Fρ34
        rw [hV] at qS qX qF
        have q16 : fl = (if (su V 11 l (emR c (V 11 l))) 11 l 3 = 0 then (0 : Int) else 1) := by rw [← hV, m3]; simp only [if_neg hbeg]; (repeat' split) <;> omega
        have qR : RS t σ0 (su V 11 l (emR c (V 11 l))) ρ34 := ⟨qS, qX.kf (r16a_ρ34.trans q16) r17b_ρ34, qF⟩
        have qL : LK (su V 11 l (emR c (V 11 l))) l := hL.to (fun c2 x y h => su_ne (by first | assumption | decide | exact xs_ (by decide) | exact xc_ (by decide) | exact x31_ (by decide) | omega))
        refine y_look (V := (su V 11 l (emR c (V 11 l)))) (by first | assumption | decide | exact xs_ (by decide) | exact xc_ (by decide) | exact x31_ (by decide) | omega) ht qR (by first | assumption | decide | exact xs_ (by decide) | exact xc_ (by decide) | exact x31_ (by decide) | omega) qL (fun ρ35 Rρ35 => ?_)
        refine y_vret hK rfl dX6_endMove_148 ?_
        exact k _ Rρ35
    · refine r_aload_n hC dX6_endMove_29 rfl ?_
      refine r_iload_n hC dX6_endMove_30 rfl ?_
      refine r_bipush hC dX6_endMove_31 rfl ?_
      refine r_iconst hC dX6_endMove_33 rfl ?_
      refine z_inv3 hM dX6_endMove_34 vl_RX6_173 rfl rfl rfl (Nat.le_of_ble_eq_true rfl) (Nat.le_of_ble_eq_true rfl) ?_
      refine y_set (by first | assumption | decide | exact xs_ (by decide) | exact xc_ (by decide) | exact x31_ (by decide) | omega) (by first | assumption | decide | exact xs_ (by decide) | exact xc_ (by decide) | exact x31_ (by decide) | omega) ⟨fun h => by omega, fun h => by omega⟩ ?_
      obtain ⟨ρ36, e_ρ36⟩ : ∃ zz_, zz_ = mu σ 31 0 ((22 * l) + 16) 1 := ⟨_, rfl⟩
      rw [← e_ρ36]
      have Sρ36 : SB t σ0 V ρ36 := by rw [e_ρ36, show ((22 * l) + 16) = 22 * l + 16 from by omega]; exact hS.px (by first | assumption | decide | exact xs_ (by decide) | exact xc_ (by decide) | exact x31_ (by decide) | omega)
      have r16a_ρ36 : ρ36 31 0 (22 * l + 16) = 1 := by rw [e_ρ36, show ((22 * l) + 16) = 22 * l + 16 from by omega]; exact mu_self _ _ _ _ _
      have r17b_ρ36 : ρ36 31 0 (22 * l + 17) = 0 := by rw [e_ρ36]; exact (mu_ne (by first | assumption | decide | exact xs_ (by decide) | exact xc_ (by decide) | exact x31_ (by decide) | omega)).trans h17
      have Xρ36 : KX t l V ρ36 := (hX).e (fun m a b c => by rw [e_ρ36]; exact ⟨mu_ne (by first | assumption | decide | exact xs_ (by decide) | exact xc_ (by decide) | exact x31_ (by decide) | omega), mu_ne (by first | assumption | decide | exact xs_ (by decide) | exact xc_ (by decide) | exact x31_ (by decide) | omega)⟩) (fun m c => rfl)
      have Fρ36 : FB V ρ36 := by rw [e_ρ36]; exact (hFB).e (fun l a b => mu_ne (by first | assumption | decide | exact xs_ (by decide) | exact xc_ (by decide) | exact x31_ (by decide) | omega))
      refine r_aload_n hC dX6_endMove_37 rfl ?_
      refine r_iload_n hC dX6_endMove_38 rfl ?_
      refine r_bipush hC dX6_endMove_39 rfl ?_
      refine r_iconst hC dX6_endMove_41 rfl ?_
      refine z_inv3 hM dX6_endMove_42 vl_RX6_173 rfl rfl rfl (Nat.le_of_ble_eq_true rfl) (Nat.le_of_ble_eq_true rfl) ?_
      refine y_set (by first | assumption | decide | exact xs_ (by decide) | exact xc_ (by decide) | exact x31_ (by decide) | omega) (by first | assumption | decide | exact xs_ (by decide) | exact xc_ (by decide) | exact x31_ (by decide) | omega) ⟨fun h => by omega, fun h => by omega⟩ ?_
      obtain ⟨ρ37, e_ρ37⟩ : ∃ zz_, zz_ = mu ρ36 31 0 ((22 * l) + 17) 1 := ⟨_, rfl⟩
      rw [← e_ρ37]
      have Sρ37 : SB t σ0 V ρ37 := by rw [e_ρ37, show ((22 * l) + 17) = 22 * l + 17 from by omega]; exact Sρ36.px (by first | assumption | decide | exact xs_ (by decide) | exact xc_ (by decide) | exact x31_ (by decide) | omega)
      have r16a_ρ37 : ρ37 31 0 (22 * l + 16) = 1 := by rw [e_ρ37]; exact (mu_ne (by first | assumption | decide | exact xs_ (by decide) | exact xc_ (by decide) | exact x31_ (by decide) | omega)).trans r16a_ρ36
      have r17b_ρ37 : ρ37 31 0 (22 * l + 17) = 1 := by rw [e_ρ37, show ((22 * l) + 17) = 22 * l + 17 from by omega]; exact mu_self _ _ _ _ _
      have Xρ37 : KX t l V ρ37 := (Xρ36).e (fun m a b c => by rw [e_ρ37]; exact ⟨mu_ne (by first | assumption | decide | exact xs_ (by decide) | exact xc_ (by decide) | exact x31_ (by decide) | omega), mu_ne (by first | assumption | decide | exact xs_ (by decide) | exact xc_ (by decide) | exact x31_ (by decide) | omega)⟩) (fun m c => rfl)
      have Fρ37 : FB V ρ37 := by rw [e_ρ37]; exact (Fρ36).e (fun l a b => mu_ne (by first | assumption | decide | exact xs_ (by decide) | exact xc_ (by decide) | exact x31_ (by decide) | omega))
      refine r_aload_n hC dX6_endMove_45 rfl ?_
      refine r_iload_n hC dX6_endMove_46 rfl ?_
      refine r_bipush hC dX6_endMove_47 rfl ?_
      refine r_aload_n hC dX6_endMove_49 rfl ?_
      refine r_iload_n hC dX6_endMove_50 rfl ?_
      refine r_bipush hC dX6_endMove_51 rfl ?_
      refine z_inv2 hM dX6_endMove_53 vl_RX6_80 rfl rfl rfl (Nat.le_of_ble_eq_true rfl) (Nat.le_of_ble_eq_true rfl) ?_
      refine y_of (by first | assumption | decide | exact xs_ (by decide) | exact xc_ (by decide) | exact x31_ (by decide) | omega) (by first | assumption | decide | exact xs_ (by decide) | exact xc_ (by decide) | exact x31_ (by decide) | omega) (by first | assumption | decide | exact xs_ (by decide) | exact xc_ (by decide) | exact x31_ (by decide) | omega) (fun o38 => ?_)
      have e39 : ρ37 31 0 (22 * l + 14) = (V 11 l 2) := (Sρ37.a11 (s := 2) (f := 14) (by first | assumption | decide | exact xs_ (by decide) | exact xc_ (by decide) | exact x31_ (by decide) | omega) (by first | assumption | decide | exact xs_ (by decide) | exact xc_ (by decide) | exact x31_ (by decide) | omega) (by first | assumption | decide | exact xs_ (by decide) | exact xc_ (by decide) | exact x31_ (by decide) | omega)).trans (rfl)
      rw [e39] at o38 ⊢
      refine z_inv3 hM dX6_endMove_56 vl_RX6_173 rfl rfl rfl (Nat.le_of_ble_eq_true rfl) (Nat.le_of_ble_eq_true rfl) ?_
      refine y_set (by first | assumption | decide | exact xs_ (by decide) | exact xc_ (by decide) | exact x31_ (by decide) | omega) (by first | assumption | decide | exact xs_ (by decide) | exact xc_ (by decide) | exact x31_ (by decide) | omega) ⟨fun h => by omega, fun h => by omega⟩ ?_
      obtain ⟨ρ40, e_ρ40⟩ : ∃ zz_, zz_ = mu ρ37 31 0 ((22 * l) + 13) (V 11 l 2) := ⟨_, rfl⟩
      rw [← e_ρ40]
      have Sρ40 : SB t σ0 (mu V 11 l 1 (V 11 l 2)) ρ40 := by rw [e_ρ40, show ((22 * l) + 13) = 22 * l + 13 from by omega]; exact Sρ37.p11 (by first | assumption | decide | exact xs_ (by decide) | exact xc_ (by decide) | exact x31_ (by decide) | omega) (by first | assumption | decide | exact xs_ (by decide) | exact xc_ (by decide) | exact x31_ (by decide) | omega) (by first | assumption | decide | exact xs_ (by decide) | exact xc_ (by decide) | exact x31_ (by decide) | omega)
      have r16a_ρ40 : ρ40 31 0 (22 * l + 16) = 1 := by rw [e_ρ40]; exact (mu_ne (by first | assumption | decide | exact xs_ (by decide) | exact xc_ (by decide) | exact x31_ (by decide) | omega)).trans r16a_ρ37
      have r17b_ρ40 : ρ40 31 0 (22 * l + 17) = 1 := by rw [e_ρ40]; exact (mu_ne (by first | assumption | decide | exact xs_ (by decide) | exact xc_ (by decide) | exact x31_ (by decide) | omega)).trans r17b_ρ37
      have Xρ40 : KX t l (mu V 11 l 1 (V 11 l 2)) ρ40 := (Xρ37).e (fun m a b c => by rw [e_ρ40]; exact ⟨mu_ne (by first | assumption | decide | exact xs_ (by decide) | exact xc_ (by decide) | exact x31_ (by decide) | omega), mu_ne (by first | assumption | decide | exact xs_ (by decide) | exact xc_ (by decide) | exact x31_ (by decide) | omega)⟩) (fun m c => mu_ne (by first | assumption | decide | exact xs_ (by decide) | exact xc_ (by decide) | exact x31_ (by decide) | omega))
      have Fρ40 : FB (mu V 11 l 1 (V 11 l 2)) ρ40 := by rw [e_ρ40]; exact (Fρ37).e (fun l a b => mu_ne (by first | assumption | decide | exact xs_ (by decide) | exact xc_ (by decide) | exact x31_ (by decide) | omega)) |>.v (fun l y a b c => mu_ne (by first | assumption | decide | exact xs_ (by decide) | exact xc_ (by decide) | exact x31_ (by decide) | omega))
      refine r_aload_n hC dX6_endMove_59 rfl ?_
      refine r_iload_n hC dX6_endMove_60 rfl ?_
      refine r_bipush hC dX6_endMove_61 rfl ?_
      refine r_iconst hC dX6_endMove_63 rfl ?_
      refine z_inv3 hM dX6_endMove_64 vl_RX6_173 rfl rfl rfl (Nat.le_of_ble_eq_true rfl) (Nat.le_of_ble_eq_true rfl) ?_
      refine y_set (by first | assumption | decide | exact xs_ (by decide) | exact xc_ (by decide) | exact x31_ (by decide) | omega) (by first | assumption | decide | exact xs_ (by decide) | exact xc_ (by decide) | exact x31_ (by decide) | omega) ⟨fun h => by omega, fun h => by omega⟩ ?_
      obtain ⟨ρ41, e_ρ41⟩ : ∃ zz_, zz_ = mu ρ40 31 0 ((22 * l) + 14) 0 := ⟨_, rfl⟩
      rw [← e_ρ41]
      have Sρ41 : SB t σ0 (mu (mu V 11 l 1 (V 11 l 2)) 11 l 2 0) ρ41 := by rw [e_ρ41, show ((22 * l) + 14) = 22 * l + 14 from by omega]; exact Sρ40.p11 (by first | assumption | decide | exact xs_ (by decide) | exact xc_ (by decide) | exact x31_ (by decide) | omega) (by first | assumption | decide | exact xs_ (by decide) | exact xc_ (by decide) | exact x31_ (by decide) | omega) (by first | assumption | decide | exact xs_ (by decide) | exact xc_ (by decide) | exact x31_ (by decide) | omega)
      have r16a_ρ41 : ρ41 31 0 (22 * l + 16) = 1 := by rw [e_ρ41]; exact (mu_ne (by first | assumption | decide | exact xs_ (by decide) | exact xc_ (by decide) | exact x31_ (by decide) | omega)).trans r16a_ρ40
      have r17b_ρ41 : ρ41 31 0 (22 * l + 17) = 1 := by rw [e_ρ41]; exact (mu_ne (by first | assumption | decide | exact xs_ (by decide) | exact xc_ (by decide) | exact x31_ (by decide) | omega)).trans r17b_ρ40
      have Xρ41 : KX t l (mu (mu V 11 l 1 (V 11 l 2)) 11 l 2 0) ρ41 := (Xρ40).e (fun m a b c => by rw [e_ρ41]; exact ⟨mu_ne (by first | assumption | decide | exact xs_ (by decide) | exact xc_ (by decide) | exact x31_ (by decide) | omega), mu_ne (by first | assumption | decide | exact xs_ (by decide) | exact xc_ (by decide) | exact x31_ (by decide) | omega)⟩) (fun m c => mu_ne (by first | assumption | decide | exact xs_ (by decide) | exact xc_ (by decide) | exact x31_ (by decide) | omega))
      have Fρ41 : FB (mu (mu V 11 l 1 (V 11 l 2)) 11 l 2 0) ρ41 := by rw [e_ρ41]; exact (Fρ40).e (fun l a b => mu_ne (by first | assumption | decide | exact xs_ (by decide) | exact xc_ (by decide) | exact x31_ (by decide) | omega)) |>.v (fun l y a b c => mu_ne (by first | assumption | decide | exact xs_ (by decide) | exact xc_ (by decide) | exact x31_ (by decide) | omega))
      refine r_aload_n hC dX6_endMove_67 rfl ?_
      refine r_iload_n hC dX6_endMove_68 rfl ?_
      refine r_bipush hC dX6_endMove_69 rfl ?_
      refine r_aload_n hC dX6_endMove_71 rfl ?_
      refine r_iload_n hC dX6_endMove_72 rfl ?_
      refine r_bipush hC dX6_endMove_73 rfl ?_
      refine z_inv2 hM dX6_endMove_75 vl_RX6_80 rfl rfl rfl (Nat.le_of_ble_eq_true rfl) (Nat.le_of_ble_eq_true rfl) ?_
      refine y_of (by first | assumption | decide | exact xs_ (by decide) | exact xc_ (by decide) | exact x31_ (by decide) | omega) (by first | assumption | decide | exact xs_ (by decide) | exact xc_ (by decide) | exact x31_ (by decide) | omega) (by first | assumption | decide | exact xs_ (by decide) | exact xc_ (by decide) | exact x31_ (by decide) | omega) (fun o42 => ?_)
      have e43 : ρ41 31 0 (22 * l + 13) = (V 11 l 2) := (Sρ41.a11 (s := 1) (f := 13) (by first | assumption | decide | exact xs_ (by decide) | exact xc_ (by decide) | exact x31_ (by decide) | omega) (by first | assumption | decide | exact xs_ (by decide) | exact xc_ (by decide) | exact x31_ (by decide) | omega) (by first | assumption | decide | exact xs_ (by decide) | exact xc_ (by decide) | exact x31_ (by decide) | omega)).trans ((mu_ne (by first | assumption | decide | exact xs_ (by decide) | exact xc_ (by decide) | exact x31_ (by decide) | omega)).trans (mu_self _ _ _ _ _))
      rw [e43] at o42 ⊢
      refine r_aload_n hC dX6_endMove_78 rfl ?_
      refine r_iload_n hC dX6_endMove_79 rfl ?_
      refine r_bipush hC dX6_endMove_80 rfl ?_
      refine z_inv2 hM dX6_endMove_82 vl_RX6_80 rfl rfl rfl (Nat.le_of_ble_eq_true rfl) (Nat.le_of_ble_eq_true rfl) ?_
      refine y_of (by first | assumption | decide | exact xs_ (by decide) | exact xc_ (by decide) | exact x31_ (by decide) | omega) (by first | assumption | decide | exact xs_ (by decide) | exact xc_ (by decide) | exact x31_ (by decide) | omega) (by first | assumption | decide | exact xs_ (by decide) | exact xc_ (by decide) | exact x31_ (by decide) | omega) (fun o44 => ?_)
      have e45 : ρ41 31 0 (22 * l + 12) = (V 11 l 0) := (Sρ41.a11 (s := 0) (f := 12) (by first | assumption | decide | exact xs_ (by decide) | exact xc_ (by decide) | exact x31_ (by decide) | omega) (by first | assumption | decide | exact xs_ (by decide) | exact xc_ (by decide) | exact x31_ (by decide) | omega) (by first | assumption | decide | exact xs_ (by decide) | exact xc_ (by decide) | exact x31_ (by decide) | omega)).trans ((mu_ne (by first | assumption | decide | exact xs_ (by decide) | exact xc_ (by decide) | exact x31_ (by decide) | omega)).trans ((mu_ne (by first | assumption | decide | exact xs_ (by decide) | exact xc_ (by decide) | exact x31_ (by decide) | omega)).trans (rfl)))
      rw [e45] at o44 ⊢
      refine r_iaddE hC (((V 11 l 2) + (V 11 l 0))) dX6_endMove_85 (by first | assumption | decide | exact xs_ (by decide) | exact xc_ (by decide) | exact x31_ (by decide) | omega) (by unfold inR; omega) ?_
      refine z_inv3 hM dX6_endMove_86 vl_RX6_173 rfl rfl rfl (Nat.le_of_ble_eq_true rfl) (Nat.le_of_ble_eq_true rfl) ?_
      refine y_set (by first | assumption | decide | exact xs_ (by decide) | exact xc_ (by decide) | exact x31_ (by decide) | omega) (by first | assumption | decide | exact xs_ (by decide) | exact xc_ (by decide) | exact x31_ (by decide) | omega) ⟨fun h => by omega, fun h => by omega⟩ ?_
      obtain ⟨ρ46, e_ρ46⟩ : ∃ zz_, zz_ = mu ρ41 31 0 ((22 * l) + 15) ((V 11 l 2) + (V 11 l 0)) := ⟨_, rfl⟩
      rw [← e_ρ46]
      have Sρ46 : SB t σ0 (mu (mu (mu V 11 l 1 (V 11 l 2)) 11 l 2 0) 11 l 3 ((V 11 l 2) + (V 11 l 0))) ρ46 := by rw [e_ρ46, show ((22 * l) + 15) = 22 * l + 15 from by omega]; exact Sρ41.p11 (by first | assumption | decide | exact xs_ (by decide) | exact xc_ (by decide) | exact x31_ (by decide) | omega) (by first | assumption | decide | exact xs_ (by decide) | exact xc_ (by decide) | exact x31_ (by decide) | omega) (by first | assumption | decide | exact xs_ (by decide) | exact xc_ (by decide) | exact x31_ (by decide) | omega)
      have r16a_ρ46 : ρ46 31 0 (22 * l + 16) = 1 := by rw [e_ρ46]; exact (mu_ne (by first | assumption | decide | exact xs_ (by decide) | exact xc_ (by decide) | exact x31_ (by decide) | omega)).trans r16a_ρ41
      have r17b_ρ46 : ρ46 31 0 (22 * l + 17) = 1 := by rw [e_ρ46]; exact (mu_ne (by first | assumption | decide | exact xs_ (by decide) | exact xc_ (by decide) | exact x31_ (by decide) | omega)).trans r17b_ρ41
      have Xρ46 : KX t l (mu (mu (mu V 11 l 1 (V 11 l 2)) 11 l 2 0) 11 l 3 ((V 11 l 2) + (V 11 l 0))) ρ46 := (Xρ41).e (fun m a b c => by rw [e_ρ46]; exact ⟨mu_ne (by first | assumption | decide | exact xs_ (by decide) | exact xc_ (by decide) | exact x31_ (by decide) | omega), mu_ne (by first | assumption | decide | exact xs_ (by decide) | exact xc_ (by decide) | exact x31_ (by decide) | omega)⟩) (fun m c => mu_ne (by first | assumption | decide | exact xs_ (by decide) | exact xc_ (by decide) | exact x31_ (by decide) | omega))
      have Fρ46 : FB (mu (mu (mu V 11 l 1 (V 11 l 2)) 11 l 2 0) 11 l 3 ((V 11 l 2) + (V 11 l 0))) ρ46 := by rw [e_ρ46]; exact (Fρ41).e (fun l a b => mu_ne (by first | assumption | decide | exact xs_ (by decide) | exact xc_ (by decide) | exact x31_ (by decide) | omega)) |>.v (fun l y a b c => mu_ne (by first | assumption | decide | exact xs_ (by decide) | exact xc_ (by decide) | exact x31_ (by decide) | omega))
      refine r_aload_n hC dX6_endMove_89 rfl ?_
      refine r_iload_n hC dX6_endMove_90 rfl ?_
      refine r_bipush hC dX6_endMove_91 rfl ?_
      refine z_inv2 hM dX6_endMove_93 vl_RX6_80 rfl rfl rfl (Nat.le_of_ble_eq_true rfl) (Nat.le_of_ble_eq_true rfl) ?_
      refine y_of (by first | assumption | decide | exact xs_ (by decide) | exact xc_ (by decide) | exact x31_ (by decide) | omega) (by first | assumption | decide | exact xs_ (by decide) | exact xc_ (by decide) | exact x31_ (by decide) | omega) (by first | assumption | decide | exact xs_ (by decide) | exact xc_ (by decide) | exact x31_ (by decide) | omega) (fun o47 => ?_)
      rw [r16a_ρ46]
      refine r_iconst hC dX6_endMove_96 rfl ?_
      refine r_icmp_ne (tgt := 108) hC dX6_endMove_97 rfl (fun h48 => by omega) (fun h48 => ?_)
      refine r_iload_n hC dX6_endMove_100 rfl ?_
      refine r_aload_n hC dX6_endMove_101 rfl ?_
      refine r_iload_n hC dX6_endMove_102 rfl ?_
      refine z_inv1 hM dX6_endMove_103 vl_RX6_185 rfl rfl rfl (Nat.le_of_ble_eq_true rfl) (Nat.le_of_ble_eq_true rfl) ?_
      obtain ⟨W, hW⟩ : ∃ W : Mm, W = (mu (mu (mu V 11 l 1 (V 11 l 2)) 11 l 2 0) 11 l 3 ((V 11 l 2) + (V 11 l 0))) := ⟨_, rfl⟩
      have hWS : SB t σ0 W ρ46 := by rw [hW]; exact Sρ46
      have hWX : KX t l W ρ46 := by rw [hW]; exact Xρ46
      have hWF : FB W ρ46 := by rw [hW]; exact Fρ46
      have hWn : ∀ (c2 : Nat) (x y : Int), ¬ (c2 = 11 ∧ x = l ∧ 0 ≤ y ∧ y ≤ 6) → W c2 x y = V c2 x y := fun c2 x y h => by rw [hW]; exact (mu_ne (by first | assumption | decide | exact xs_ (by decide) | exact xc_ (by decide) | exact x31_ (by decide) | omega)).trans ((mu_ne (by first | assumption | decide | exact xs_ (by decide) | exact xc_ (by decide) | exact x31_ (by decide) | omega)).trans ((mu_ne (by first | assumption | decide | exact xs_ (by decide) | exact xc_ (by decide) | exact x31_ (by decide) | omega)).trans (rfl)))
      have z0 : W 11 l 0 = (V 11 l 0) := by rw [hW]; exact ((mu_ne (by first | assumption | decide | exact xs_ (by decide) | exact xc_ (by decide) | exact x31_ (by decide) | omega)).trans ((mu_ne (by first | assumption | decide | exact xs_ (by decide) | exact xc_ (by decide) | exact x31_ (by decide) | omega)).trans ((mu_ne (by first | assumption | decide | exact xs_ (by decide) | exact xc_ (by decide) | exact x31_ (by decide) | omega)).trans (rfl))))
      have z1 : W 11 l 1 = (V 11 l 2) := by rw [hW]; exact ((mu_ne (by first | assumption | decide | exact xs_ (by decide) | exact xc_ (by decide) | exact x31_ (by decide) | omega)).trans ((mu_ne (by first | assumption | decide | exact xs_ (by decide) | exact xc_ (by decide) | exact x31_ (by decide) | omega)).trans (mu_self _ _ _ _ _)))
      have z2 : W 11 l 2 = 0 := by rw [hW]; exact ((mu_ne (by first | assumption | decide | exact xs_ (by decide) | exact xc_ (by decide) | exact x31_ (by decide) | omega)).trans (mu_self _ _ _ _ _))
      have z3 : W 11 l 3 = ((V 11 l 2) + (V 11 l 0)) := by rw [hW]; exact (mu_self _ _ _ _ _)
      have z4 : W 11 l 4 = (V 11 l 4) := by rw [hW]; exact ((mu_ne (by first | assumption | decide | exact xs_ (by decide) | exact xc_ (by decide) | exact x31_ (by decide) | omega)).trans ((mu_ne (by first | assumption | decide | exact xs_ (by decide) | exact xc_ (by decide) | exact x31_ (by decide) | omega)).trans ((mu_ne (by first | assumption | decide | exact xs_ (by decide) | exact xc_ (by decide) | exact x31_ (by decide) | omega)).trans (rfl))))
      have z5 : W 11 l 5 = (V 11 l 5) := by rw [hW]; exact ((mu_ne (by first | assumption | decide | exact xs_ (by decide) | exact xc_ (by decide) | exact x31_ (by decide) | omega)).trans ((mu_ne (by first | assumption | decide | exact xs_ (by decide) | exact xc_ (by decide) | exact x31_ (by decide) | omega)).trans ((mu_ne (by first | assumption | decide | exact xs_ (by decide) | exact xc_ (by decide) | exact x31_ (by decide) | omega)).trans (rfl))))
      have z6 : W 11 l 6 = (V 11 l 6) := by rw [hW]; exact ((mu_ne (by first | assumption | decide | exact xs_ (by decide) | exact xc_ (by decide) | exact x31_ (by decide) | omega)).trans ((mu_ne (by first | assumption | decide | exact xs_ (by decide) | exact xc_ (by decide) | exact x31_ (by decide) | omega)).trans ((mu_ne (by first | assumption | decide | exact xs_ (by decide) | exact xc_ (by decide) | exact x31_ (by decide) | omega)).trans (rfl))))
      refine y_goFlipW (V := W) (fl := 1) (fr := 1) (by first | assumption | decide | exact xs_ (by decide) | exact xc_ (by decide) | exact x31_ (by decide) | omega) ht hWS hWX hWF (by first | assumption | decide | exact xs_ (by decide) | exact xc_ (by decide) | exact x31_ (by decide) | omega) (by first | assumption | decide | exact xs_ (by decide) | exact xc_ (by decide) | exact x31_ (by decide) | omega) (by first | assumption | decide | exact xs_ (by decide) | exact xc_ (by decide) | exact x31_ (by decide) | omega) r16a_ρ46 r17b_ρ46 (fun hgo ρg Sg Xg Fg r16g r17g => ?_) (fun hgo ρg Sg Xg Fg r16g r17g => ?_)
      · refine r_iaddE hC ((c + (3 - 1))) dX6_endMove_106 (by first | assumption | decide | exact xs_ (by decide) | exact xc_ (by decide) | exact x31_ (by decide) | omega) (by unfold inR; omega) ?_
        refine r_istore_n hC dX6_endMove_107 rfl ?_
        refine r_aload_n hC dX6_endMove_108 rfl ?_
        refine r_iload_n hC dX6_endMove_109 rfl ?_
        refine r_bipush hC dX6_endMove_110 rfl ?_
        refine r_iload_n hC dX6_endMove_112 rfl ?_
        refine z_inv3 hM dX6_endMove_113 vl_RX6_173 rfl rfl rfl (Nat.le_of_ble_eq_true rfl) (Nat.le_of_ble_eq_true rfl) ?_
        refine y_set (by first | assumption | decide | exact xs_ (by decide) | exact xc_ (by decide) | exact x31_ (by decide) | omega) (by first | assumption | decide | exact xs_ (by decide) | exact xc_ (by decide) | exact x31_ (by decide) | omega) ⟨fun h => by omega, fun h => by omega⟩ ?_
        obtain ⟨ρ49, e_ρ49⟩ : ∃ zz_, zz_ = mu ρg 31 0 ((22 * l) + 18) (c + (3 - 1)) := ⟨_, rfl⟩
        rw [← e_ρ49]
        have Sρ49 : SB t σ0 (mu (mu W 11 l 3 ((W 11 l 3) - 3)) 11 l 4 (c + (3 - 1))) ρ49 := by rw [e_ρ49, show ((22 * l) + 18) = 22 * l + 18 from by omega]; exact Sg.p11 (by first | assumption | decide | exact xs_ (by decide) | exact xc_ (by decide) | exact x31_ (by decide) | omega) (by first | assumption | decide | exact xs_ (by decide) | exact xc_ (by decide) | exact x31_ (by decide) | omega) (by first | assumption | decide | exact xs_ (by decide) | exact xc_ (by decide) | exact x31_ (by decide) | omega)
        have r16a_ρ49 : ρ49 31 0 (22 * l + 16) = 1 := by rw [e_ρ49]; exact (mu_ne (by first | assumption | decide | exact xs_ (by decide) | exact xc_ (by decide) | exact x31_ (by decide) | omega)).trans r16g
        have r17b_ρ49 : ρ49 31 0 (22 * l + 17) = 0 := by rw [e_ρ49]; exact (mu_ne (by first | assumption | decide | exact xs_ (by decide) | exact xc_ (by decide) | exact x31_ (by decide) | omega)).trans r17g
        have Xρ49 : KX t l (mu (mu W 11 l 3 ((W 11 l 3) - 3)) 11 l 4 (c + (3 - 1))) ρ49 := (Xg).e (fun m a b c => by rw [e_ρ49]; exact ⟨mu_ne (by first | assumption | decide | exact xs_ (by decide) | exact xc_ (by decide) | exact x31_ (by decide) | omega), mu_ne (by first | assumption | decide | exact xs_ (by decide) | exact xc_ (by decide) | exact x31_ (by decide) | omega)⟩) (fun m c => mu_ne (by first | assumption | decide | exact xs_ (by decide) | exact xc_ (by decide) | exact x31_ (by decide) | omega))
        have Fρ49 : FB (mu (mu W 11 l 3 ((W 11 l 3) - 3)) 11 l 4 (c + (3 - 1))) ρ49 := by rw [e_ρ49]; exact (Fg).e (fun l a b => mu_ne (by first | assumption | decide | exact xs_ (by decide) | exact xc_ (by decide) | exact x31_ (by decide) | omega)) |>.v (fun l y a b c => mu_ne (by first | assumption | decide | exact xs_ (by decide) | exact xc_ (by decide) | exact x31_ (by decide) | omega))
        refine r_aload_n hC dX6_endMove_116 rfl ?_
        refine r_iload_n hC dX6_endMove_117 rfl ?_
        refine r_bipush hC dX6_endMove_118 rfl ?_
        refine r_iload_n hC dX6_endMove_120 rfl ?_
        refine z_inv3 hM dX6_endMove_121 vl_RX6_188 rfl rfl rfl (Nat.le_of_ble_eq_true rfl) (Nat.le_of_ble_eq_true rfl) ?_
        refine y_moreW (a := (W 11 l 5)) (by first | assumption | decide | exact xs_ (by decide) | exact xc_ (by decide) | exact x31_ (by decide) | omega) (by first | assumption | decide | exact xs_ (by decide) | exact xc_ (by decide) | exact x31_ (by decide) | omega) ⟨fun h => by omega, by omega⟩ ((Sρ49.a11 (s := 5) (f := 19) (by first | assumption | decide | exact xs_ (by decide) | exact xc_ (by decide) | exact x31_ (by decide) | omega) (by first | assumption | decide | exact xs_ (by decide) | exact xc_ (by decide) | exact x31_ (by decide) | omega) (by first | assumption | decide | exact xs_ (by decide) | exact xc_ (by decide) | exact x31_ (by decide) | omega)).trans ((mu_ne (by first | assumption | decide | exact xs_ (by decide) | exact xc_ (by decide) | exact x31_ (by decide) | omega)).trans ((mu_ne (by first | assumption | decide | exact xs_ (by decide) | exact xc_ (by decide) | exact x31_ (by decide) | omega)).trans (rfl)))) (by first | assumption | decide | exact xs_ (by decide) | exact xc_ (by decide) | exact x31_ (by decide) | omega) ?_
        obtain ⟨ρ50, e_ρ50⟩ : ∃ zz_, zz_ = mu ρ49 31 0 ((22 * l) + 19) (wr ((W 11 l 5) + (c + (3 - 1)))) := ⟨_, rfl⟩
        rw [← e_ρ50]
        have Sρ50 : SB t σ0 (mu (mu (mu W 11 l 3 ((W 11 l 3) - 3)) 11 l 4 (c + (3 - 1))) 11 l 5 (wr ((W 11 l 5) + (c + (3 - 1))))) ρ50 := by rw [e_ρ50, show ((22 * l) + 19) = 22 * l + 19 from by omega]; exact Sρ49.p11 (by first | assumption | decide | exact xs_ (by decide) | exact xc_ (by decide) | exact x31_ (by decide) | omega) (by first | assumption | decide | exact xs_ (by decide) | exact xc_ (by decide) | exact x31_ (by decide) | omega) (by first | assumption | decide | exact xs_ (by decide) | exact xc_ (by decide) | exact x31_ (by decide) | omega)
        have r16a_ρ50 : ρ50 31 0 (22 * l + 16) = 1 := by rw [e_ρ50]; exact (mu_ne (by first | assumption | decide | exact xs_ (by decide) | exact xc_ (by decide) | exact x31_ (by decide) | omega)).trans r16a_ρ49
        have r17b_ρ50 : ρ50 31 0 (22 * l + 17) = 0 := by rw [e_ρ50]; exact (mu_ne (by first | assumption | decide | exact xs_ (by decide) | exact xc_ (by decide) | exact x31_ (by decide) | omega)).trans r17b_ρ49
        have Xρ50 : KX t l (mu (mu (mu W 11 l 3 ((W 11 l 3) - 3)) 11 l 4 (c + (3 - 1))) 11 l 5 (wr ((W 11 l 5) + (c + (3 - 1))))) ρ50 := (Xρ49).e (fun m a b c => by rw [e_ρ50]; exact ⟨mu_ne (by first | assumption | decide | exact xs_ (by decide) | exact xc_ (by decide) | exact x31_ (by decide) | omega), mu_ne (by first | assumption | decide | exact xs_ (by decide) | exact xc_ (by decide) | exact x31_ (by decide) | omega)⟩) (fun m c => mu_ne (by first | assumption | decide | exact xs_ (by decide) | exact xc_ (by decide) | exact x31_ (by decide) | omega))
        have Fρ50 : FB (mu (mu (mu W 11 l 3 ((W 11 l 3) - 3)) 11 l 4 (c + (3 - 1))) 11 l 5 (wr ((W 11 l 5) + (c + (3 - 1))))) ρ50 := by rw [e_ρ50]; exact (Fρ49).e (fun l a b => mu_ne (by first | assumption | decide | exact xs_ (by decide) | exact xc_ (by decide) | exact x31_ (by decide) | omega)) |>.v (fun l y a b c => mu_ne (by first | assumption | decide | exact xs_ (by decide) | exact xc_ (by decide) | exact x31_ (by decide) | omega))
        refine r_iload_n hC dX6_endMove_124 rfl ?_
        refine r_aload_n hC dX6_endMove_125 rfl ?_
        refine r_iload_n hC dX6_endMove_126 rfl ?_
        refine r_bipush hC dX6_endMove_127 rfl ?_
        refine z_inv2 hM dX6_endMove_129 vl_RX6_80 rfl rfl rfl (Nat.le_of_ble_eq_true rfl) (Nat.le_of_ble_eq_true rfl) ?_
        refine y_of (by first | assumption | decide | exact xs_ (by decide) | exact xc_ (by decide) | exact x31_ (by decide) | omega) (by first | assumption | decide | exact xs_ (by decide) | exact xc_ (by decide) | exact x31_ (by decide) | omega) (by first | assumption | decide | exact xs_ (by decide) | exact xc_ (by decide) | exact x31_ (by decide) | omega) (fun o51 => ?_)
        have e52 : ρ50 31 0 (22 * l + 20) = (W 11 l 6) := (Sρ50.a11 (s := 6) (f := 20) (by first | assumption | decide | exact xs_ (by decide) | exact xc_ (by decide) | exact x31_ (by decide) | omega) (by first | assumption | decide | exact xs_ (by decide) | exact xc_ (by decide) | exact x31_ (by decide) | omega) (by first | assumption | decide | exact xs_ (by decide) | exact xc_ (by decide) | exact x31_ (by decide) | omega)).trans ((mu_ne (by first | assumption | decide | exact xs_ (by decide) | exact xc_ (by decide) | exact x31_ (by decide) | omega)).trans ((mu_ne (by first | assumption | decide | exact xs_ (by decide) | exact xc_ (by decide) | exact x31_ (by decide) | omega)).trans ((mu_ne (by first | assumption | decide | exact xs_ (by decide) | exact xc_ (by decide) | exact x31_ (by decide) | omega)).trans (rfl))))
        rw [e52] at o51 ⊢
        refine r_icmp_le (tgt := 143) hC dX6_endMove_132 rfl (fun h53 => ?_) (fun h53 => ?_)
        · refine r_aload_n hC dX6_endMove_143 rfl ?_
          refine r_iload_n hC dX6_endMove_144 rfl ?_
          refine z_inv1 hM dX6_endMove_145 vl_RX6_191 rfl rfl rfl (Nat.le_of_ble_eq_true rfl) (Nat.le_of_ble_eq_true rfl) ?_
          have hbeg : (V 11 l 1 = 0 ∧ V 11 l 2 > V 11 l 0) := by omega
          have HF : (V 11 l 1 = 0 ∧ V 11 l 2 > V 11 l 0) ∧ W 11 l 0 = V 11 l 0 ∧ W 11 l 1 = V 11 l 2 ∧ W 11 l 2 = 0 ∧ W 11 l 3 = V 11 l 2 + V 11 l 0 ∧ W 11 l 4 = V 11 l 4 ∧ W 11 l 5 = V 11 l 5 ∧ W 11 l 6 = V 11 l 6 ∧ 0 ≤ V 11 l 0 ∧ 3 < (W 11 l 3) ∧ (c + (3 - 1)) ≤ V 11 l 6 := by refine ⟨hbeg, ?_, ?_, ?_, ?_⟩ <;> omega
          obtain ⟨n0, n1, n2, n3, n4, n5, n6⟩ := em_6 (a0 := V 11 l 0) (a1 := V 11 l 1) (a2 := V 11 l 2) (a3 := V 11 l 3) (a4 := V 11 l 4) (a5 := V 11 l 5) (a6 := V 11 l 6) (c := c) (w0 := W 11 l 0) (w1 := W 11 l 1) (w2 := W 11 l 2) (w3 := W 11 l 3) (w4 := W 11 l 4) (w5 := W 11 l 5) (w6 := W 11 l 6) HF
          have m0 : (mu (mu (mu W 11 l 3 ((W 11 l 3) - 3)) 11 l 4 (c + (3 - 1))) 11 l 5 (wr ((W 11 l 5) + (c + (3 - 1))))) 11 l 0 = (if (if (V 11 l 1) = 0 ∧ (V 11 l 2) > (V 11 l 0) then (V 11 l 2) + (V 11 l 0) else (V 11 l 3)) - min 3 (if (V 11 l 1) = 0 ∧ (V 11 l 2) > (V 11 l 0) then (V 11 l 2) + (V 11 l 0) else (V 11 l 3)) = 0 then (V 11 l 0) + (if (V 11 l 1) = 0 ∧ (V 11 l 2) > (V 11 l 0) then (V 11 l 2) else (V 11 l 1)) else (V 11 l 0)) := (show (mu (mu (mu W 11 l 3 ((W 11 l 3) - 3)) 11 l 4 (c + (3 - 1))) 11 l 5 (wr ((W 11 l 5) + (c + (3 - 1))))) 11 l 0 = (W 11 l 0) from ((mu_ne (by first | assumption | decide | exact xs_ (by decide) | exact xc_ (by decide) | exact x31_ (by decide) | omega)).trans ((mu_ne (by first | assumption | decide | exact xs_ (by decide) | exact xc_ (by decide) | exact x31_ (by decide) | omega)).trans ((mu_ne (by first | assumption | decide | exact xs_ (by decide) | exact xc_ (by decide) | exact x31_ (by decide) | omega)).trans (rfl))))).trans n0
          have m1 : (mu (mu (mu W 11 l 3 ((W 11 l 3) - 3)) 11 l 4 (c + (3 - 1))) 11 l 5 (wr ((W 11 l 5) + (c + (3 - 1))))) 11 l 1 = (if (if (V 11 l 1) = 0 ∧ (V 11 l 2) > (V 11 l 0) then (V 11 l 2) + (V 11 l 0) else (V 11 l 3)) - min 3 (if (V 11 l 1) = 0 ∧ (V 11 l 2) > (V 11 l 0) then (V 11 l 2) + (V 11 l 0) else (V 11 l 3)) = 0 then 0 else (if (V 11 l 1) = 0 ∧ (V 11 l 2) > (V 11 l 0) then (V 11 l 2) else (V 11 l 1))) := (show (mu (mu (mu W 11 l 3 ((W 11 l 3) - 3)) 11 l 4 (c + (3 - 1))) 11 l 5 (wr ((W 11 l 5) + (c + (3 - 1))))) 11 l 1 = (W 11 l 1) from ((mu_ne (by first | assumption | decide | exact xs_ (by decide) | exact xc_ (by decide) | exact x31_ (by decide) | omega)).trans ((mu_ne (by first | assumption | decide | exact xs_ (by decide) | exact xc_ (by decide) | exact x31_ (by decide) | omega)).trans ((mu_ne (by first | assumption | decide | exact xs_ (by decide) | exact xc_ (by decide) | exact x31_ (by decide) | omega)).trans (rfl))))).trans n1
          have m2 : (mu (mu (mu W 11 l 3 ((W 11 l 3) - 3)) 11 l 4 (c + (3 - 1))) 11 l 5 (wr ((W 11 l 5) + (c + (3 - 1))))) 11 l 2 = (if (V 11 l 1) = 0 ∧ (V 11 l 2) > (V 11 l 0) then 0 else (V 11 l 2)) := (show (mu (mu (mu W 11 l 3 ((W 11 l 3) - 3)) 11 l 4 (c + (3 - 1))) 11 l 5 (wr ((W 11 l 5) + (c + (3 - 1))))) 11 l 2 = (W 11 l 2) from ((mu_ne (by first | assumption | decide | exact xs_ (by decide) | exact xc_ (by decide) | exact x31_ (by decide) | omega)).trans ((mu_ne (by first | assumption | decide | exact xs_ (by decide) | exact xc_ (by decide) | exact x31_ (by decide) | omega)).trans ((mu_ne (by first | assumption | decide | exact xs_ (by decide) | exact xc_ (by decide) | exact x31_ (by decide) | omega)).trans (rfl))))).trans n2
          have m3 : (mu (mu (mu W 11 l 3 ((W 11 l 3) - 3)) 11 l 4 (c + (3 - 1))) 11 l 5 (wr ((W 11 l 5) + (c + (3 - 1))))) 11 l 3 = ((if (V 11 l 1) = 0 ∧ (V 11 l 2) > (V 11 l 0) then (V 11 l 2) + (V 11 l 0) else (V 11 l 3)) - min 3 (if (V 11 l 1) = 0 ∧ (V 11 l 2) > (V 11 l 0) then (V 11 l 2) + (V 11 l 0) else (V 11 l 3))) := (show (mu (mu (mu W 11 l 3 ((W 11 l 3) - 3)) 11 l 4 (c + (3 - 1))) 11 l 5 (wr ((W 11 l 5) + (c + (3 - 1))))) 11 l 3 = ((W 11 l 3) - 3) from ((mu_ne (by first | assumption | decide | exact xs_ (by decide) | exact xc_ (by decide) | exact x31_ (by decide) | omega)).trans ((mu_ne (by first | assumption | decide | exact xs_ (by decide) | exact xc_ (by decide) | exact x31_ (by decide) | omega)).trans (mu_self _ _ _ _ _)))).trans n3
          have m4 : (mu (mu (mu W 11 l 3 ((W 11 l 3) - 3)) 11 l 4 (c + (3 - 1))) 11 l 5 (wr ((W 11 l 5) + (c + (3 - 1))))) 11 l 4 = (((if (V 11 l 1) = 0 ∧ (V 11 l 2) > (V 11 l 0) then c - 1 else c) + min 3 (if (V 11 l 1) = 0 ∧ (V 11 l 2) > (V 11 l 0) then (V 11 l 2) + (V 11 l 0) else (V 11 l 3)))) := (show (mu (mu (mu W 11 l 3 ((W 11 l 3) - 3)) 11 l 4 (c + (3 - 1))) 11 l 5 (wr ((W 11 l 5) + (c + (3 - 1))))) 11 l 4 = (c + (3 - 1)) from ((mu_ne (by first | assumption | decide | exact xs_ (by decide) | exact xc_ (by decide) | exact x31_ (by decide) | omega)).trans (mu_self _ _ _ _ _))).trans n4
          have m5 : (mu (mu (mu W 11 l 3 ((W 11 l 3) - 3)) 11 l 4 (c + (3 - 1))) 11 l 5 (wr ((W 11 l 5) + (c + (3 - 1))))) 11 l 5 = (wr ((V 11 l 5) + ((if (V 11 l 1) = 0 ∧ (V 11 l 2) > (V 11 l 0) then c - 1 else c) + min 3 (if (V 11 l 1) = 0 ∧ (V 11 l 2) > (V 11 l 0) then (V 11 l 2) + (V 11 l 0) else (V 11 l 3))))) := (show (mu (mu (mu W 11 l 3 ((W 11 l 3) - 3)) 11 l 4 (c + (3 - 1))) 11 l 5 (wr ((W 11 l 5) + (c + (3 - 1))))) 11 l 5 = wr ((W 11 l 5) + (c + (3 - 1))) from (mu_self _ _ _ _ _)).trans (congrArg wr n5)
          have m6 : (mu (mu (mu W 11 l 3 ((W 11 l 3) - 3)) 11 l 4 (c + (3 - 1))) 11 l 5 (wr ((W 11 l 5) + (c + (3 - 1))))) 11 l 6 = (max (V 11 l 6) ((if (V 11 l 1) = 0 ∧ (V 11 l 2) > (V 11 l 0) then c - 1 else c) + min 3 (if (V 11 l 1) = 0 ∧ (V 11 l 2) > (V 11 l 0) then (V 11 l 2) + (V 11 l 0) else (V 11 l 3)))) := (show (mu (mu (mu W 11 l 3 ((W 11 l 3) - 3)) 11 l 4 (c + (3 - 1))) 11 l 5 (wr ((W 11 l 5) + (c + (3 - 1))))) 11 l 6 = (W 11 l 6) from ((mu_ne (by first | assumption | decide | exact xs_ (by decide) | exact xc_ (by decide) | exact x31_ (by decide) | omega)).trans ((mu_ne (by first | assumption | decide | exact xs_ (by decide) | exact xc_ (by decide) | exact x31_ (by decide) | omega)).trans ((mu_ne (by first | assumption | decide | exact xs_ (by decide) | exact xc_ (by decide) | exact x31_ (by decide) | omega)).trans (rfl))))).trans n6
          have hV : (mu (mu (mu W 11 l 3 ((W 11 l 3) - 3)) 11 l 4 (c + (3 - 1))) 11 l 5 (wr ((W 11 l 5) + (c + (3 - 1))))) = (su V 11 l (emR c (V 11 l))) := mu7 (fun c2 x y h => (mu_ne (by first | assumption | decide | exact xs_ (by decide) | exact xc_ (by decide) | exact x31_ (by decide) | omega)).trans ((mu_ne (by first | assumption | decide | exact xs_ (by decide) | exact xc_ (by decide) | exact x31_ (by decide) | omega)).trans ((mu_ne (by first | assumption | decide | exact xs_ (by decide) | exact xc_ (by decide) | exact x31_ (by decide) | omega)).trans ((hWn c2 x y (by first | assumption | decide | exact xs_ (by decide) | exact xc_ (by decide) | exact x31_ (by decide) | omega)))))) m0 m1 m2 m3 m4 m5 m6
          have qS := Sρ50
          have qX := Xρ50
          have qF := Fρ50
          rw [hV] at qS qX qF
          have q16 : 1 = (if (su V 11 l (emR c (V 11 l))) 11 l 3 = 0 then (0 : Int) else 1) := by rw [← hV, m3]; simp only [if_pos hbeg]; (repeat' split) <;> omega
          have qR : RS t σ0 (su V 11 l (emR c (V 11 l))) ρ50 := ⟨qS, qX.kf (r16a_ρ50.trans q16) r17b_ρ50, qF⟩
          have qL : LK (su V 11 l (emR c (V 11 l))) l := hL.to (fun c2 x y h => su_ne (by first | assumption | decide | exact xs_ (by decide) | exact xc_ (by decide) | exact x31_ (by decide) | omega))
          refine y_look (V := (su V 11 l (emR c (V 11 l)))) (by first | assumption | decide | exact xs_ (by decide) | exact xc_ (by decide) | exact x31_ (by decide) | omega) ht qR (by first | assumption | decide | exact xs_ (by decide) | exact xc_ (by decide) | exact x31_ (by decide) | omega) qL (fun ρ54 Rρ54 => ?_)
          refine y_vret hK rfl dX6_endMove_148 ?_
          exact k _ Rρ54
        · refine r_aload_n hC dX6_endMove_135 rfl ?_
          refine r_iload_n hC dX6_endMove_136 rfl ?_
          refine r_bipush hC dX6_endMove_137 rfl ?_
          refine r_iload_n hC dX6_endMove_139 rfl ?_
          refine z_inv3 hM dX6_endMove_140 vl_RX6_173 rfl rfl rfl (Nat.le_of_ble_eq_true rfl) (Nat.le_of_ble_eq_true rfl) ?_
          refine y_set (by first | assumption | decide | exact xs_ (by decide) | exact xc_ (by decide) | exact x31_ (by decide) | omega) (by first | assumption | decide | exact xs_ (by decide) | exact xc_ (by decide) | exact x31_ (by decide) | omega) ⟨fun h => by omega, fun h => by omega⟩ ?_
          obtain ⟨ρ55, e_ρ55⟩ : ∃ zz_, zz_ = mu ρ50 31 0 ((22 * l) + 20) (c + (3 - 1)) := ⟨_, rfl⟩
          rw [← e_ρ55]
          have Sρ55 : SB t σ0 (mu (mu (mu (mu W 11 l 3 ((W 11 l 3) - 3)) 11 l 4 (c + (3 - 1))) 11 l 5 (wr ((W 11 l 5) + (c + (3 - 1))))) 11 l 6 (c + (3 - 1))) ρ55 := by rw [e_ρ55, show ((22 * l) + 20) = 22 * l + 20 from by omega]; exact Sρ50.p11 (by first | assumption | decide | exact xs_ (by decide) | exact xc_ (by decide) | exact x31_ (by decide) | omega) (by first | assumption | decide | exact xs_ (by decide) | exact xc_ (by decide) | exact x31_ (by decide) | omega) (by first | assumption | decide | exact xs_ (by decide) | exact xc_ (by decide) | exact x31_ (by decide) | omega)
          have r16a_ρ55 : ρ55 31 0 (22 * l + 16) = 1 := by rw [e_ρ55]; exact (mu_ne (by first | assumption | decide | exact xs_ (by decide) | exact xc_ (by decide) | exact x31_ (by decide) | omega)).trans r16a_ρ50
          have r17b_ρ55 : ρ55 31 0 (22 * l + 17) = 0 := by rw [e_ρ55]; exact (mu_ne (by first | assumption | decide | exact xs_ (by decide) | exact xc_ (by decide) | exact x31_ (by decide) | omega)).trans r17b_ρ50
          have Xρ55 : KX t l (mu (mu (mu (mu W 11 l 3 ((W 11 l 3) - 3)) 11 l 4 (c + (3 - 1))) 11 l 5 (wr ((W 11 l 5) + (c + (3 - 1))))) 11 l 6 (c + (3 - 1))) ρ55 := (Xρ50).e (fun m a b c => by rw [e_ρ55]; exact ⟨mu_ne (by first | assumption | decide | exact xs_ (by decide) | exact xc_ (by decide) | exact x31_ (by decide) | omega), mu_ne (by first | assumption | decide | exact xs_ (by decide) | exact xc_ (by decide) | exact x31_ (by decide) | omega)⟩) (fun m c => mu_ne (by first | assumption | decide | exact xs_ (by decide) | exact xc_ (by decide) | exact x31_ (by decide) | omega))
          have Fρ55 : FB (mu (mu (mu (mu W 11 l 3 ((W 11 l 3) - 3)) 11 l 4 (c + (3 - 1))) 11 l 5 (wr ((W 11 l 5) + (c + (3 - 1))))) 11 l 6 (c + (3 - 1))) ρ55 := by rw [e_ρ55]; exact (Fρ50).e (fun l a b => mu_ne (by first | assumption | decide | exact xs_ (by decide) | exact xc_ (by decide) | exact x31_ (by decide) | omega)) |>.v (fun l y a b c => mu_ne (by first | assumption | decide | exact xs_ (by decide) | exact xc_ (by decide) | exact x31_ (by decide) | omega))
          refine r_aload_n hC dX6_endMove_143 rfl ?_
          refine r_iload_n hC dX6_endMove_144 rfl ?_
          refine z_inv1 hM dX6_endMove_145 vl_RX6_191 rfl rfl rfl (Nat.le_of_ble_eq_true rfl) (Nat.le_of_ble_eq_true rfl) ?_
          have hbeg : (V 11 l 1 = 0 ∧ V 11 l 2 > V 11 l 0) := by omega
          have HF : (V 11 l 1 = 0 ∧ V 11 l 2 > V 11 l 0) ∧ W 11 l 0 = V 11 l 0 ∧ W 11 l 1 = V 11 l 2 ∧ W 11 l 2 = 0 ∧ W 11 l 3 = V 11 l 2 + V 11 l 0 ∧ W 11 l 4 = V 11 l 4 ∧ W 11 l 5 = V 11 l 5 ∧ W 11 l 6 = V 11 l 6 ∧ 0 ≤ V 11 l 0 ∧ 3 < (W 11 l 3) ∧ V 11 l 6 < (c + (3 - 1)) := by refine ⟨hbeg, ?_, ?_, ?_, ?_⟩ <;> omega
          obtain ⟨n0, n1, n2, n3, n4, n5, n6⟩ := em_7 (a0 := V 11 l 0) (a1 := V 11 l 1) (a2 := V 11 l 2) (a3 := V 11 l 3) (a4 := V 11 l 4) (a5 := V 11 l 5) (a6 := V 11 l 6) (c := c) (w0 := W 11 l 0) (w1 := W 11 l 1) (w2 := W 11 l 2) (w3 := W 11 l 3) (w4 := W 11 l 4) (w5 := W 11 l 5) (w6 := W 11 l 6) HF
          have m0 : (mu (mu (mu (mu W 11 l 3 ((W 11 l 3) - 3)) 11 l 4 (c + (3 - 1))) 11 l 5 (wr ((W 11 l 5) + (c + (3 - 1))))) 11 l 6 (c + (3 - 1))) 11 l 0 = (if (if (V 11 l 1) = 0 ∧ (V 11 l 2) > (V 11 l 0) then (V 11 l 2) + (V 11 l 0) else (V 11 l 3)) - min 3 (if (V 11 l 1) = 0 ∧ (V 11 l 2) > (V 11 l 0) then (V 11 l 2) + (V 11 l 0) else (V 11 l 3)) = 0 then (V 11 l 0) + (if (V 11 l 1) = 0 ∧ (V 11 l 2) > (V 11 l 0) then (V 11 l 2) else (V 11 l 1)) else (V 11 l 0)) := (show (mu (mu (mu (mu W 11 l 3 ((W 11 l 3) - 3)) 11 l 4 (c + (3 - 1))) 11 l 5 (wr ((W 11 l 5) + (c + (3 - 1))))) 11 l 6 (c + (3 - 1))) 11 l 0 = (W 11 l 0) from ((mu_ne (by first | assumption | decide | exact xs_ (by decide) | exact xc_ (by decide) | exact x31_ (by decide) | omega)).trans ((mu_ne (by first | assumption | decide | exact xs_ (by decide) | exact xc_ (by decide) | exact x31_ (by decide) | omega)).trans ((mu_ne (by first | assumption | decide | exact xs_ (by decide) | exact xc_ (by decide) | exact x31_ (by decide) | omega)).trans ((mu_ne (by first | assumption | decide | exact xs_ (by decide) | exact xc_ (by decide) | exact x31_ (by decide) | omega)).trans (rfl)))))).trans n0
          have m1 : (mu (mu (mu (mu W 11 l 3 ((W 11 l 3) - 3)) 11 l 4 (c + (3 - 1))) 11 l 5 (wr ((W 11 l 5) + (c + (3 - 1))))) 11 l 6 (c + (3 - 1))) 11 l 1 = (if (if (V 11 l 1) = 0 ∧ (V 11 l 2) > (V 11 l 0) then (V 11 l 2) + (V 11 l 0) else (V 11 l 3)) - min 3 (if (V 11 l 1) = 0 ∧ (V 11 l 2) > (V 11 l 0) then (V 11 l 2) + (V 11 l 0) else (V 11 l 3)) = 0 then 0 else (if (V 11 l 1) = 0 ∧ (V 11 l 2) > (V 11 l 0) then (V 11 l 2) else (V 11 l 1))) := (show (mu (mu (mu (mu W 11 l 3 ((W 11 l 3) - 3)) 11 l 4 (c + (3 - 1))) 11 l 5 (wr ((W 11 l 5) + (c + (3 - 1))))) 11 l 6 (c + (3 - 1))) 11 l 1 = (W 11 l 1) from ((mu_ne (by first | assumption | decide | exact xs_ (by decide) | exact xc_ (by decide) | exact x31_ (by decide) | omega)).trans ((mu_ne (by first | assumption | decide | exact xs_ (by decide) | exact xc_ (by decide) | exact x31_ (by decide) | omega)).trans ((mu_ne (by first | assumption | decide | exact xs_ (by decide) | exact xc_ (by decide) | exact x31_ (by decide) | omega)).trans ((mu_ne (by first | assumption | decide | exact xs_ (by decide) | exact xc_ (by decide) | exact x31_ (by decide) | omega)).trans (rfl)))))).trans n1
          have m2 : (mu (mu (mu (mu W 11 l 3 ((W 11 l 3) - 3)) 11 l 4 (c + (3 - 1))) 11 l 5 (wr ((W 11 l 5) + (c + (3 - 1))))) 11 l 6 (c + (3 - 1))) 11 l 2 = (if (V 11 l 1) = 0 ∧ (V 11 l 2) > (V 11 l 0) then 0 else (V 11 l 2)) := (show (mu (mu (mu (mu W 11 l 3 ((W 11 l 3) - 3)) 11 l 4 (c + (3 - 1))) 11 l 5 (wr ((W 11 l 5) + (c + (3 - 1))))) 11 l 6 (c + (3 - 1))) 11 l 2 = (W 11 l 2) from ((mu_ne (by first | assumption | decide | exact xs_ (by decide) | exact xc_ (by decide) | exact x31_ (by decide) | omega)).trans ((mu_ne (by first | assumption | decide | exact xs_ (by decide) | exact xc_ (by decide) | exact x31_ (by decide) | omega)).trans ((mu_ne (by first | assumption | decide | exact xs_ (by decide) | exact xc_ (by decide) | exact x31_ (by decide) | omega)).trans ((mu_ne (by first | assumption | decide | exact xs_ (by decide) | exact xc_ (by decide) | exact x31_ (by decide) | omega)).trans (rfl)))))).trans n2
          have m3 : (mu (mu (mu (mu W 11 l 3 ((W 11 l 3) - 3)) 11 l 4 (c + (3 - 1))) 11 l 5 (wr ((W 11 l 5) + (c + (3 - 1))))) 11 l 6 (c + (3 - 1))) 11 l 3 = ((if (V 11 l 1) = 0 ∧ (V 11 l 2) > (V 11 l 0) then (V 11 l 2) + (V 11 l 0) else (V 11 l 3)) - min 3 (if (V 11 l 1) = 0 ∧ (V 11 l 2) > (V 11 l 0) then (V 11 l 2) + (V 11 l 0) else (V 11 l 3))) := (show (mu (mu (mu (mu W 11 l 3 ((W 11 l 3) - 3)) 11 l 4 (c + (3 - 1))) 11 l 5 (wr ((W 11 l 5) + (c + (3 - 1))))) 11 l 6 (c + (3 - 1))) 11 l 3 = ((W 11 l 3) - 3) from ((mu_ne (by first | assumption | decide | exact xs_ (by decide) | exact xc_ (by decide) | exact x31_ (by decide) | omega)).trans ((mu_ne (by first | assumption | decide | exact xs_ (by decide) | exact xc_ (by decide) | exact x31_ (by decide) | omega)).trans ((mu_ne (by first | assumption | decide | exact xs_ (by decide) | exact xc_ (by decide) | exact x31_ (by decide) | omega)).trans (mu_self _ _ _ _ _))))).trans n3
          have m4 : (mu (mu (mu (mu W 11 l 3 ((W 11 l 3) - 3)) 11 l 4 (c + (3 - 1))) 11 l 5 (wr ((W 11 l 5) + (c + (3 - 1))))) 11 l 6 (c + (3 - 1))) 11 l 4 = (((if (V 11 l 1) = 0 ∧ (V 11 l 2) > (V 11 l 0) then c - 1 else c) + min 3 (if (V 11 l 1) = 0 ∧ (V 11 l 2) > (V 11 l 0) then (V 11 l 2) + (V 11 l 0) else (V 11 l 3)))) := (show (mu (mu (mu (mu W 11 l 3 ((W 11 l 3) - 3)) 11 l 4 (c + (3 - 1))) 11 l 5 (wr ((W 11 l 5) + (c + (3 - 1))))) 11 l 6 (c + (3 - 1))) 11 l 4 = (c + (3 - 1)) from ((mu_ne (by first | assumption | decide | exact xs_ (by decide) | exact xc_ (by decide) | exact x31_ (by decide) | omega)).trans ((mu_ne (by first | assumption | decide | exact xs_ (by decide) | exact xc_ (by decide) | exact x31_ (by decide) | omega)).trans (mu_self _ _ _ _ _)))).trans n4
          have m5 : (mu (mu (mu (mu W 11 l 3 ((W 11 l 3) - 3)) 11 l 4 (c + (3 - 1))) 11 l 5 (wr ((W 11 l 5) + (c + (3 - 1))))) 11 l 6 (c + (3 - 1))) 11 l 5 = (wr ((V 11 l 5) + ((if (V 11 l 1) = 0 ∧ (V 11 l 2) > (V 11 l 0) then c - 1 else c) + min 3 (if (V 11 l 1) = 0 ∧ (V 11 l 2) > (V 11 l 0) then (V 11 l 2) + (V 11 l 0) else (V 11 l 3))))) := (show (mu (mu (mu (mu W 11 l 3 ((W 11 l 3) - 3)) 11 l 4 (c + (3 - 1))) 11 l 5 (wr ((W 11 l 5) + (c + (3 - 1))))) 11 l 6 (c + (3 - 1))) 11 l 5 = wr ((W 11 l 5) + (c + (3 - 1))) from ((mu_ne (by first | assumption | decide | exact xs_ (by decide) | exact xc_ (by decide) | exact x31_ (by decide) | omega)).trans (mu_self _ _ _ _ _))).trans (congrArg wr n5)
          have m6 : (mu (mu (mu (mu W 11 l 3 ((W 11 l 3) - 3)) 11 l 4 (c + (3 - 1))) 11 l 5 (wr ((W 11 l 5) + (c + (3 - 1))))) 11 l 6 (c + (3 - 1))) 11 l 6 = (max (V 11 l 6) ((if (V 11 l 1) = 0 ∧ (V 11 l 2) > (V 11 l 0) then c - 1 else c) + min 3 (if (V 11 l 1) = 0 ∧ (V 11 l 2) > (V 11 l 0) then (V 11 l 2) + (V 11 l 0) else (V 11 l 3)))) := (show (mu (mu (mu (mu W 11 l 3 ((W 11 l 3) - 3)) 11 l 4 (c + (3 - 1))) 11 l 5 (wr ((W 11 l 5) + (c + (3 - 1))))) 11 l 6 (c + (3 - 1))) 11 l 6 = (c + (3 - 1)) from (mu_self _ _ _ _ _)).trans n6
          have hV : (mu (mu (mu (mu W 11 l 3 ((W 11 l 3) - 3)) 11 l 4 (c + (3 - 1))) 11 l 5 (wr ((W 11 l 5) + (c + (3 - 1))))) 11 l 6 (c + (3 - 1))) = (su V 11 l (emR c (V 11 l))) := mu7 (fun c2 x y h => (mu_ne (by first | assumption | decide | exact xs_ (by decide) | exact xc_ (by decide) | exact x31_ (by decide) | omega)).trans ((mu_ne (by first | assumption | decide | exact xs_ (by decide) | exact xc_ (by decide) | exact x31_ (by decide) | omega)).trans ((mu_ne (by first | assumption | decide | exact xs_ (by decide) | exact xc_ (by decide) | exact x31_ (by decide) | omega)).trans ((mu_ne (by first | assumption | decide | exact xs_ (by decide) | exact xc_ (by decide) | exact x31_ (by decide) | omega)).trans ((hWn c2 x y (by first | assumption | decide | exact xs_ (by decide) | exact xc_ (by decide) | exact x31_ (by decide) | omega))))))) m0 m1 m2 m3 m4 m5 m6
          have qS := Sρ55
          have qX := Xρ55
          have qF := Fρ55
          rw [hV] at qS qX qF
          have q16 : 1 = (if (su V 11 l (emR c (V 11 l))) 11 l 3 = 0 then (0 : Int) else 1) := by rw [← hV, m3]; simp only [if_pos hbeg]; (repeat' split) <;> omega
          have qR : RS t σ0 (su V 11 l (emR c (V 11 l))) ρ55 := ⟨qS, qX.kf (r16a_ρ55.trans q16) r17b_ρ55, qF⟩
          have qL : LK (su V 11 l (emR c (V 11 l))) l := hL.to (fun c2 x y h => su_ne (by first | assumption | decide | exact xs_ (by decide) | exact xc_ (by decide) | exact x31_ (by decide) | omega))
          refine y_look (V := (su V 11 l (emR c (V 11 l)))) (by first | assumption | decide | exact xs_ (by decide) | exact xc_ (by decide) | exact x31_ (by decide) | omega) ht qR (by first | assumption | decide | exact xs_ (by decide) | exact xc_ (by decide) | exact x31_ (by decide) | omega) qL (fun ρ56 Rρ56 => ?_)
          refine y_vret hK rfl dX6_endMove_148 ?_
          exact k _ Rρ56
      · have hval : 0 ≤ (if 0 < (W 11 l 3) then (W 11 l 3) - 1 else 0) ∧ (if 0 < (W 11 l 3) then (W 11 l 3) - 1 else 0) ≤ 3 := by split <;> omega
        have r17z := r17g.trans (show (if 0 < (W 11 l 3) then (0 : Int) else 1) = 0 from by split <;> omega)
        refine r_iaddE hC ((c + (if 0 < (W 11 l 3) then (W 11 l 3) - 1 else 0))) dX6_endMove_106 (by first | assumption | decide | exact xs_ (by decide) | exact xc_ (by decide) | exact x31_ (by decide) | omega) (by unfold inR; omega) ?_
        refine r_istore_n hC dX6_endMove_107 rfl ?_
        refine r_aload_n hC dX6_endMove_108 rfl ?_
        refine r_iload_n hC dX6_endMove_109 rfl ?_
        refine r_bipush hC dX6_endMove_110 rfl ?_
        refine r_iload_n hC dX6_endMove_112 rfl ?_
        refine z_inv3 hM dX6_endMove_113 vl_RX6_173 rfl rfl rfl (Nat.le_of_ble_eq_true rfl) (Nat.le_of_ble_eq_true rfl) ?_
        refine y_set (by first | assumption | decide | exact xs_ (by decide) | exact xc_ (by decide) | exact x31_ (by decide) | omega) (by first | assumption | decide | exact xs_ (by decide) | exact xc_ (by decide) | exact x31_ (by decide) | omega) ⟨fun h => by omega, fun h => by omega⟩ ?_
        obtain ⟨ρ57, e_ρ57⟩ : ∃ zz_, zz_ = mu ρg 31 0 ((22 * l) + 18) (c + (if 0 < (W 11 l 3) then (W 11 l 3) - 1 else 0)) := ⟨_, rfl⟩
        rw [← e_ρ57]
        have Sρ57 : SB t σ0 (mu (mu (mu (mu W 11 l 3 0) 11 l 0 ((W 11 l 0) + (W 11 l 1))) 11 l 1 0) 11 l 4 (c + (if 0 < (W 11 l 3) then (W 11 l 3) - 1 else 0))) ρ57 := by rw [e_ρ57, show ((22 * l) + 18) = 22 * l + 18 from by omega]; exact Sg.p11 (by first | assumption | decide | exact xs_ (by decide) | exact xc_ (by decide) | exact x31_ (by decide) | omega) (by first | assumption | decide | exact xs_ (by decide) | exact xc_ (by decide) | exact x31_ (by decide) | omega) (by first | assumption | decide | exact xs_ (by decide) | exact xc_ (by decide) | exact x31_ (by decide) | omega)
        have r16a_ρ57 : ρ57 31 0 (22 * l + 16) = 0 := by rw [e_ρ57]; exact (mu_ne (by first | assumption | decide | exact xs_ (by decide) | exact xc_ (by decide) | exact x31_ (by decide) | omega)).trans r16g
        have r17b_ρ57 : ρ57 31 0 (22 * l + 17) = 0 := by rw [e_ρ57]; exact (mu_ne (by first | assumption | decide | exact xs_ (by decide) | exact xc_ (by decide) | exact x31_ (by decide) | omega)).trans r17z
        have Xρ57 : KX t l (mu (mu (mu (mu W 11 l 3 0) 11 l 0 ((W 11 l 0) + (W 11 l 1))) 11 l 1 0) 11 l 4 (c + (if 0 < (W 11 l 3) then (W 11 l 3) - 1 else 0))) ρ57 := (Xg).e (fun m a b c => by rw [e_ρ57]; exact ⟨mu_ne (by first | assumption | decide | exact xs_ (by decide) | exact xc_ (by decide) | exact x31_ (by decide) | omega), mu_ne (by first | assumption | decide | exact xs_ (by decide) | exact xc_ (by decide) | exact x31_ (by decide) | omega)⟩) (fun m c => mu_ne (by first | assumption | decide | exact xs_ (by decide) | exact xc_ (by decide) | exact x31_ (by decide) | omega))
        have Fρ57 : FB (mu (mu (mu (mu W 11 l 3 0) 11 l 0 ((W 11 l 0) + (W 11 l 1))) 11 l 1 0) 11 l 4 (c + (if 0 < (W 11 l 3) then (W 11 l 3) - 1 else 0))) ρ57 := by rw [e_ρ57]; exact (Fg).e (fun l a b => mu_ne (by first | assumption | decide | exact xs_ (by decide) | exact xc_ (by decide) | exact x31_ (by decide) | omega)) |>.v (fun l y a b c => mu_ne (by first | assumption | decide | exact xs_ (by decide) | exact xc_ (by decide) | exact x31_ (by decide) | omega))
        refine r_aload_n hC dX6_endMove_116 rfl ?_
        refine r_iload_n hC dX6_endMove_117 rfl ?_
        refine r_bipush hC dX6_endMove_118 rfl ?_
        refine r_iload_n hC dX6_endMove_120 rfl ?_
        refine z_inv3 hM dX6_endMove_121 vl_RX6_188 rfl rfl rfl (Nat.le_of_ble_eq_true rfl) (Nat.le_of_ble_eq_true rfl) ?_
        refine y_moreW (a := (W 11 l 5)) (by first | assumption | decide | exact xs_ (by decide) | exact xc_ (by decide) | exact x31_ (by decide) | omega) (by first | assumption | decide | exact xs_ (by decide) | exact xc_ (by decide) | exact x31_ (by decide) | omega) ⟨fun h => by omega, by omega⟩ ((Sρ57.a11 (s := 5) (f := 19) (by first | assumption | decide | exact xs_ (by decide) | exact xc_ (by decide) | exact x31_ (by decide) | omega) (by first | assumption | decide | exact xs_ (by decide) | exact xc_ (by decide) | exact x31_ (by decide) | omega) (by first | assumption | decide | exact xs_ (by decide) | exact xc_ (by decide) | exact x31_ (by decide) | omega)).trans ((mu_ne (by first | assumption | decide | exact xs_ (by decide) | exact xc_ (by decide) | exact x31_ (by decide) | omega)).trans ((mu_ne (by first | assumption | decide | exact xs_ (by decide) | exact xc_ (by decide) | exact x31_ (by decide) | omega)).trans ((mu_ne (by first | assumption | decide | exact xs_ (by decide) | exact xc_ (by decide) | exact x31_ (by decide) | omega)).trans ((mu_ne (by first | assumption | decide | exact xs_ (by decide) | exact xc_ (by decide) | exact x31_ (by decide) | omega)).trans (rfl)))))) (by first | assumption | decide | exact xs_ (by decide) | exact xc_ (by decide) | exact x31_ (by decide) | omega) ?_
        obtain ⟨ρ58, e_ρ58⟩ : ∃ zz_, zz_ = mu ρ57 31 0 ((22 * l) + 19) (wr ((W 11 l 5) + (c + (if 0 < (W 11 l 3) then (W 11 l 3) - 1 else 0)))) := ⟨_, rfl⟩
        rw [← e_ρ58]
        have Sρ58 : SB t σ0 (mu (mu (mu (mu (mu W 11 l 3 0) 11 l 0 ((W 11 l 0) + (W 11 l 1))) 11 l 1 0) 11 l 4 (c + (if 0 < (W 11 l 3) then (W 11 l 3) - 1 else 0))) 11 l 5 (wr ((W 11 l 5) + (c + (if 0 < (W 11 l 3) then (W 11 l 3) - 1 else 0))))) ρ58 := by rw [e_ρ58, show ((22 * l) + 19) = 22 * l + 19 from by omega]; exact Sρ57.p11 (by first | assumption | decide | exact xs_ (by decide) | exact xc_ (by decide) | exact x31_ (by decide) | omega) (by first | assumption | decide | exact xs_ (by decide) | exact xc_ (by decide) | exact x31_ (by decide) | omega) (by first | assumption | decide | exact xs_ (by decide) | exact xc_ (by decide) | exact x31_ (by decide) | omega)
        have r16a_ρ58 : ρ58 31 0 (22 * l + 16) = 0 := by rw [e_ρ58]; exact (mu_ne (by first | assumption | decide | exact xs_ (by decide) | exact xc_ (by decide) | exact x31_ (by decide) | omega)).trans r16a_ρ57
        have r17b_ρ58 : ρ58 31 0 (22 * l + 17) = 0 := by rw [e_ρ58]; exact (mu_ne (by first | assumption | decide | exact xs_ (by decide) | exact xc_ (by decide) | exact x31_ (by decide) | omega)).trans r17b_ρ57
        have Xρ58 : KX t l (mu (mu (mu (mu (mu W 11 l 3 0) 11 l 0 ((W 11 l 0) + (W 11 l 1))) 11 l 1 0) 11 l 4 (c + (if 0 < (W 11 l 3) then (W 11 l 3) - 1 else 0))) 11 l 5 (wr ((W 11 l 5) + (c + (if 0 < (W 11 l 3) then (W 11 l 3) - 1 else 0))))) ρ58 := (Xρ57).e (fun m a b c => by rw [e_ρ58]; exact ⟨mu_ne (by first | assumption | decide | exact xs_ (by decide) | exact xc_ (by decide) | exact x31_ (by decide) | omega), mu_ne (by first | assumption | decide | exact xs_ (by decide) | exact xc_ (by decide) | exact x31_ (by decide) | omega)⟩) (fun m c => mu_ne (by first | assumption | decide | exact xs_ (by decide) | exact xc_ (by decide) | exact x31_ (by decide) | omega))
        have Fρ58 : FB (mu (mu (mu (mu (mu W 11 l 3 0) 11 l 0 ((W 11 l 0) + (W 11 l 1))) 11 l 1 0) 11 l 4 (c + (if 0 < (W 11 l 3) then (W 11 l 3) - 1 else 0))) 11 l 5 (wr ((W 11 l 5) + (c + (if 0 < (W 11 l 3) then (W 11 l 3) - 1 else 0))))) ρ58 := by rw [e_ρ58]; exact (Fρ57).e (fun l a b => mu_ne (by first | assumption | decide | exact xs_ (by decide) | exact xc_ (by decide) | exact x31_ (by decide) | omega)) |>.v (fun l y a b c => mu_ne (by first | assumption | decide | exact xs_ (by decide) | exact xc_ (by decide) | exact x31_ (by decide) | omega))
        refine r_iload_n hC dX6_endMove_124 rfl ?_
        refine r_aload_n hC dX6_endMove_125 rfl ?_
        refine r_iload_n hC dX6_endMove_126 rfl ?_
        refine r_bipush hC dX6_endMove_127 rfl ?_
        refine z_inv2 hM dX6_endMove_129 vl_RX6_80 rfl rfl rfl (Nat.le_of_ble_eq_true rfl) (Nat.le_of_ble_eq_true rfl) ?_
        refine y_of (by first | assumption | decide | exact xs_ (by decide) | exact xc_ (by decide) | exact x31_ (by decide) | omega) (by first | assumption | decide | exact xs_ (by decide) | exact xc_ (by decide) | exact x31_ (by decide) | omega) (by first | assumption | decide | exact xs_ (by decide) | exact xc_ (by decide) | exact x31_ (by decide) | omega) (fun o59 => ?_)
        have e60 : ρ58 31 0 (22 * l + 20) = (W 11 l 6) := (Sρ58.a11 (s := 6) (f := 20) (by first | assumption | decide | exact xs_ (by decide) | exact xc_ (by decide) | exact x31_ (by decide) | omega) (by first | assumption | decide | exact xs_ (by decide) | exact xc_ (by decide) | exact x31_ (by decide) | omega) (by first | assumption | decide | exact xs_ (by decide) | exact xc_ (by decide) | exact x31_ (by decide) | omega)).trans ((mu_ne (by first | assumption | decide | exact xs_ (by decide) | exact xc_ (by decide) | exact x31_ (by decide) | omega)).trans ((mu_ne (by first | assumption | decide | exact xs_ (by decide) | exact xc_ (by decide) | exact x31_ (by decide) | omega)).trans ((mu_ne (by first | assumption | decide | exact xs_ (by decide) | exact xc_ (by decide) | exact x31_ (by decide) | omega)).trans ((mu_ne (by first | assumption | decide | exact xs_ (by decide) | exact xc_ (by decide) | exact x31_ (by decide) | omega)).trans ((mu_ne (by first | assumption | decide | exact xs_ (by decide) | exact xc_ (by decide) | exact x31_ (by decide) | omega)).trans (rfl))))))
        rw [e60] at o59 ⊢
        refine r_icmp_le (tgt := 143) hC dX6_endMove_132 rfl (fun h61 => ?_) (fun h61 => ?_)
        · refine r_aload_n hC dX6_endMove_143 rfl ?_
          refine r_iload_n hC dX6_endMove_144 rfl ?_
          refine z_inv1 hM dX6_endMove_145 vl_RX6_191 rfl rfl rfl (Nat.le_of_ble_eq_true rfl) (Nat.le_of_ble_eq_true rfl) ?_
          have hbeg : (V 11 l 1 = 0 ∧ V 11 l 2 > V 11 l 0) := by omega
          have HF : (V 11 l 1 = 0 ∧ V 11 l 2 > V 11 l 0) ∧ W 11 l 0 = V 11 l 0 ∧ W 11 l 1 = V 11 l 2 ∧ W 11 l 2 = 0 ∧ W 11 l 3 = V 11 l 2 + V 11 l 0 ∧ W 11 l 4 = V 11 l 4 ∧ W 11 l 5 = V 11 l 5 ∧ W 11 l 6 = V 11 l 6 ∧ 0 ≤ V 11 l 0 ∧ (0 ≤ (W 11 l 3) ∧ (W 11 l 3) ≤ 3) ∧ (c + (if 0 < (W 11 l 3) then (W 11 l 3) - 1 else 0)) ≤ V 11 l 6 := by refine ⟨hbeg, ?_, ?_, ?_, ?_⟩ <;> omega
          obtain ⟨n0, n1, n2, n3, n4, n5, n6⟩ := em_8 (a0 := V 11 l 0) (a1 := V 11 l 1) (a2 := V 11 l 2) (a3 := V 11 l 3) (a4 := V 11 l 4) (a5 := V 11 l 5) (a6 := V 11 l 6) (c := c) (w0 := W 11 l 0) (w1 := W 11 l 1) (w2 := W 11 l 2) (w3 := W 11 l 3) (w4 := W 11 l 4) (w5 := W 11 l 5) (w6 := W 11 l 6) HF
          have m0 : (mu (mu (mu (mu (mu W 11 l 3 0) 11 l 0 ((W 11 l 0) + (W 11 l 1))) 11 l 1 0) 11 l 4 (c + (if 0 < (W 11 l 3) then (W 11 l 3) - 1 else 0))) 11 l 5 (wr ((W 11 l 5) + (c + (if 0 < (W 11 l 3) then (W 11 l 3) - 1 else 0))))) 11 l 0 = (if (if (V 11 l 1) = 0 ∧ (V 11 l 2) > (V 11 l 0) then (V 11 l 2) + (V 11 l 0) else (V 11 l 3)) - min 3 (if (V 11 l 1) = 0 ∧ (V 11 l 2) > (V 11 l 0) then (V 11 l 2) + (V 11 l 0) else (V 11 l 3)) = 0 then (V 11 l 0) + (if (V 11 l 1) = 0 ∧ (V 11 l 2) > (V 11 l 0) then (V 11 l 2) else (V 11 l 1)) else (V 11 l 0)) := (show (mu (mu (mu (mu (mu W 11 l 3 0) 11 l 0 ((W 11 l 0) + (W 11 l 1))) 11 l 1 0) 11 l 4 (c + (if 0 < (W 11 l 3) then (W 11 l 3) - 1 else 0))) 11 l 5 (wr ((W 11 l 5) + (c + (if 0 < (W 11 l 3) then (W 11 l 3) - 1 else 0))))) 11 l 0 = ((W 11 l 0) + (W 11 l 1)) from ((mu_ne (by first | assumption | decide | exact xs_ (by decide) | exact xc_ (by decide) | exact x31_ (by decide) | omega)).trans ((mu_ne (by first | assumption | decide | exact xs_ (by decide) | exact xc_ (by decide) | exact x31_ (by decide) | omega)).trans ((mu_ne (by first | assumption | decide | exact xs_ (by decide) | exact xc_ (by decide) | exact x31_ (by decide) | omega)).trans (mu_self _ _ _ _ _))))).trans n0
          have m1 : (mu (mu (mu (mu (mu W 11 l 3 0) 11 l 0 ((W 11 l 0) + (W 11 l 1))) 11 l 1 0) 11 l 4 (c + (if 0 < (W 11 l 3) then (W 11 l 3) - 1 else 0))) 11 l 5 (wr ((W 11 l 5) + (c + (if 0 < (W 11 l 3) then (W 11 l 3) - 1 else 0))))) 11 l 1 = (if (if (V 11 l 1) = 0 ∧ (V 11 l 2) > (V 11 l 0) then (V 11 l 2) + (V 11 l 0) else (V 11 l 3)) - min 3 (if (V 11 l 1) = 0 ∧ (V 11 l 2) > (V 11 l 0) then (V 11 l 2) + (V 11 l 0) else (V 11 l 3)) = 0 then 0 else (if (V 11 l 1) = 0 ∧ (V 11 l 2) > (V 11 l 0) then (V 11 l 2) else (V 11 l 1))) := (show (mu (mu (mu (mu (mu W 11 l 3 0) 11 l 0 ((W 11 l 0) + (W 11 l 1))) 11 l 1 0) 11 l 4 (c + (if 0 < (W 11 l 3) then (W 11 l 3) - 1 else 0))) 11 l 5 (wr ((W 11 l 5) + (c + (if 0 < (W 11 l 3) then (W 11 l 3) - 1 else 0))))) 11 l 1 = 0 from ((mu_ne (by first | assumption | decide | exact xs_ (by decide) | exact xc_ (by decide) | exact x31_ (by decide) | omega)).trans ((mu_ne (by first | assumption | decide | exact xs_ (by decide) | exact xc_ (by decide) | exact x31_ (by decide) | omega)).trans (mu_self _ _ _ _ _)))).trans n1
          have m2 : (mu (mu (mu (mu (mu W 11 l 3 0) 11 l 0 ((W 11 l 0) + (W 11 l 1))) 11 l 1 0) 11 l 4 (c + (if 0 < (W 11 l 3) then (W 11 l 3) - 1 else 0))) 11 l 5 (wr ((W 11 l 5) + (c + (if 0 < (W 11 l 3) then (W 11 l 3) - 1 else 0))))) 11 l 2 = (if (V 11 l 1) = 0 ∧ (V 11 l 2) > (V 11 l 0) then 0 else (V 11 l 2)) := (show (mu (mu (mu (mu (mu W 11 l 3 0) 11 l 0 ((W 11 l 0) + (W 11 l 1))) 11 l 1 0) 11 l 4 (c + (if 0 < (W 11 l 3) then (W 11 l 3) - 1 else 0))) 11 l 5 (wr ((W 11 l 5) + (c + (if 0 < (W 11 l 3) then (W 11 l 3) - 1 else 0))))) 11 l 2 = (W 11 l 2) from ((mu_ne (by first | assumption | decide | exact xs_ (by decide) | exact xc_ (by decide) | exact x31_ (by decide) | omega)).trans ((mu_ne (by first | assumption | decide | exact xs_ (by decide) | exact xc_ (by decide) | exact x31_ (by decide) | omega)).trans ((mu_ne (by first | assumption | decide | exact xs_ (by decide) | exact xc_ (by decide) | exact x31_ (by decide) | omega)).trans ((mu_ne (by first | assumption | decide | exact xs_ (by decide) | exact xc_ (by decide) | exact x31_ (by decide) | omega)).trans ((mu_ne (by first | assumption | decide | exact xs_ (by decide) | exact xc_ (by decide) | exact x31_ (by decide) | omega)).trans (rfl))))))).trans n2
          have m3 : (mu (mu (mu (mu (mu W 11 l 3 0) 11 l 0 ((W 11 l 0) + (W 11 l 1))) 11 l 1 0) 11 l 4 (c + (if 0 < (W 11 l 3) then (W 11 l 3) - 1 else 0))) 11 l 5 (wr ((W 11 l 5) + (c + (if 0 < (W 11 l 3) then (W 11 l 3) - 1 else 0))))) 11 l 3 = ((if (V 11 l 1) = 0 ∧ (V 11 l 2) > (V 11 l 0) then (V 11 l 2) + (V 11 l 0) else (V 11 l 3)) - min 3 (if (V 11 l 1) = 0 ∧ (V 11 l 2) > (V 11 l 0) then (V 11 l 2) + (V 11 l 0) else (V 11 l 3))) := (show (mu (mu (mu (mu (mu W 11 l 3 0) 11 l 0 ((W 11 l 0) + (W 11 l 1))) 11 l 1 0) 11 l 4 (c + (if 0 < (W 11 l 3) then (W 11 l 3) - 1 else 0))) 11 l 5 (wr ((W 11 l 5) + (c + (if 0 < (W 11 l 3) then (W 11 l 3) - 1 else 0))))) 11 l 3 = 0 from ((mu_ne (by first | assumption | decide | exact xs_ (by decide) | exact xc_ (by decide) | exact x31_ (by decide) | omega)).trans ((mu_ne (by first | assumption | decide | exact xs_ (by decide) | exact xc_ (by decide) | exact x31_ (by decide) | omega)).trans ((mu_ne (by first | assumption | decide | exact xs_ (by decide) | exact xc_ (by decide) | exact x31_ (by decide) | omega)).trans ((mu_ne (by first | assumption | decide | exact xs_ (by decide) | exact xc_ (by decide) | exact x31_ (by decide) | omega)).trans (mu_self _ _ _ _ _)))))).trans n3
          have m4 : (mu (mu (mu (mu (mu W 11 l 3 0) 11 l 0 ((W 11 l 0) + (W 11 l 1))) 11 l 1 0) 11 l 4 (c + (if 0 < (W 11 l 3) then (W 11 l 3) - 1 else 0))) 11 l 5 (wr ((W 11 l 5) + (c + (if 0 < (W 11 l 3) then (W 11 l 3) - 1 else 0))))) 11 l 4 = (((if (V 11 l 1) = 0 ∧ (V 11 l 2) > (V 11 l 0) then c - 1 else c) + min 3 (if (V 11 l 1) = 0 ∧ (V 11 l 2) > (V 11 l 0) then (V 11 l 2) + (V 11 l 0) else (V 11 l 3)))) := (show (mu (mu (mu (mu (mu W 11 l 3 0) 11 l 0 ((W 11 l 0) + (W 11 l 1))) 11 l 1 0) 11 l 4 (c + (if 0 < (W 11 l 3) then (W 11 l 3) - 1 else 0))) 11 l 5 (wr ((W 11 l 5) + (c + (if 0 < (W 11 l 3) then (W 11 l 3) - 1 else 0))))) 11 l 4 = (c + (if 0 < (W 11 l 3) then (W 11 l 3) - 1 else 0)) from ((mu_ne (by first | assumption | decide | exact xs_ (by decide) | exact xc_ (by decide) | exact x31_ (by decide) | omega)).trans (mu_self _ _ _ _ _))).trans n4
          have m5 : (mu (mu (mu (mu (mu W 11 l 3 0) 11 l 0 ((W 11 l 0) + (W 11 l 1))) 11 l 1 0) 11 l 4 (c + (if 0 < (W 11 l 3) then (W 11 l 3) - 1 else 0))) 11 l 5 (wr ((W 11 l 5) + (c + (if 0 < (W 11 l 3) then (W 11 l 3) - 1 else 0))))) 11 l 5 = (wr ((V 11 l 5) + ((if (V 11 l 1) = 0 ∧ (V 11 l 2) > (V 11 l 0) then c - 1 else c) + min 3 (if (V 11 l 1) = 0 ∧ (V 11 l 2) > (V 11 l 0) then (V 11 l 2) + (V 11 l 0) else (V 11 l 3))))) := (show (mu (mu (mu (mu (mu W 11 l 3 0) 11 l 0 ((W 11 l 0) + (W 11 l 1))) 11 l 1 0) 11 l 4 (c + (if 0 < (W 11 l 3) then (W 11 l 3) - 1 else 0))) 11 l 5 (wr ((W 11 l 5) + (c + (if 0 < (W 11 l 3) then (W 11 l 3) - 1 else 0))))) 11 l 5 = wr ((W 11 l 5) + (c + (if 0 < (W 11 l 3) then (W 11 l 3) - 1 else 0))) from (mu_self _ _ _ _ _)).trans (congrArg wr n5)
          have m6 : (mu (mu (mu (mu (mu W 11 l 3 0) 11 l 0 ((W 11 l 0) + (W 11 l 1))) 11 l 1 0) 11 l 4 (c + (if 0 < (W 11 l 3) then (W 11 l 3) - 1 else 0))) 11 l 5 (wr ((W 11 l 5) + (c + (if 0 < (W 11 l 3) then (W 11 l 3) - 1 else 0))))) 11 l 6 = (max (V 11 l 6) ((if (V 11 l 1) = 0 ∧ (V 11 l 2) > (V 11 l 0) then c - 1 else c) + min 3 (if (V 11 l 1) = 0 ∧ (V 11 l 2) > (V 11 l 0) then (V 11 l 2) + (V 11 l 0) else (V 11 l 3)))) := (show (mu (mu (mu (mu (mu W 11 l 3 0) 11 l 0 ((W 11 l 0) + (W 11 l 1))) 11 l 1 0) 11 l 4 (c + (if 0 < (W 11 l 3) then (W 11 l 3) - 1 else 0))) 11 l 5 (wr ((W 11 l 5) + (c + (if 0 < (W 11 l 3) then (W 11 l 3) - 1 else 0))))) 11 l 6 = (W 11 l 6) from ((mu_ne (by first | assumption | decide | exact xs_ (by decide) | exact xc_ (by decide) | exact x31_ (by decide) | omega)).trans ((mu_ne (by first | assumption | decide | exact xs_ (by decide) | exact xc_ (by decide) | exact x31_ (by decide) | omega)).trans ((mu_ne (by first | assumption | decide | exact xs_ (by decide) | exact xc_ (by decide) | exact x31_ (by decide) | omega)).trans ((mu_ne (by first | assumption | decide | exact xs_ (by decide) | exact xc_ (by decide) | exact x31_ (by decide) | omega)).trans ((mu_ne (by first | assumption | decide | exact xs_ (by decide) | exact xc_ (by decide) | exact x31_ (by decide) | omega)).trans (rfl))))))).trans n6
          have hV : (mu (mu (mu (mu (mu W 11 l 3 0) 11 l 0 ((W 11 l 0) + (W 11 l 1))) 11 l 1 0) 11 l 4 (c + (if 0 < (W 11 l 3) then (W 11 l 3) - 1 else 0))) 11 l 5 (wr ((W 11 l 5) + (c + (if 0 < (W 11 l 3) then (W 11 l 3) - 1 else 0))))) = (su V 11 l (emR c (V 11 l))) := mu7 (fun c2 x y h => (mu_ne (by first | assumption | decide | exact xs_ (by decide) | exact xc_ (by decide) | exact x31_ (by decide) | omega)).trans ((mu_ne (by first | assumption | decide | exact xs_ (by decide) | exact xc_ (by decide) | exact x31_ (by decide) | omega)).trans ((mu_ne (by first | assumption | decide | exact xs_ (by decide) | exact xc_ (by decide) | exact x31_ (by decide) | omega)).trans ((mu_ne (by first | assumption | decide | exact xs_ (by decide) | exact xc_ (by decide) | exact x31_ (by decide) | omega)).trans ((mu_ne (by first | assumption | decide | exact xs_ (by decide) | exact xc_ (by decide) | exact x31_ (by decide) | omega)).trans ((hWn c2 x y (by first | assumption | decide | exact xs_ (by decide) | exact xc_ (by decide) | exact x31_ (by decide) | omega)))))))) m0 m1 m2 m3 m4 m5 m6
          have qS := Sρ58
          have qX := Xρ58
          have qF := Fρ58
          rw [hV] at qS qX qF
          have q16 : 0 = (if (su V 11 l (emR c (V 11 l))) 11 l 3 = 0 then (0 : Int) else 1) := by rw [← hV, m3]; simp only [if_pos hbeg]; (repeat' split) <;> omega
          have qR : RS t σ0 (su V 11 l (emR c (V 11 l))) ρ58 := ⟨qS, qX.kf (r16a_ρ58.trans q16) r17b_ρ58, qF⟩
          have qL : LK (su V 11 l (emR c (V 11 l))) l := hL.to (fun c2 x y h => su_ne (by first | assumption | decide | exact xs_ (by decide) | exact xc_ (by decide) | exact x31_ (by decide) | omega))
          refine y_look (V := (su V 11 l (emR c (V 11 l)))) (by first | assumption | decide | exact xs_ (by decide) | exact xc_ (by decide) | exact x31_ (by decide) | omega) ht qR (by first | assumption | decide | exact xs_ (by decide) | exact xc_ (by decide) | exact x31_ (by decide) | omega) qL (fun ρ62 Rρ62 => ?_)
          refine y_vret hK rfl dX6_endMove_148 ?_
          exact k _ Rρ62
        · refine r_aload_n hC dX6_endMove_135 rfl ?_
          refine r_iload_n hC dX6_endMove_136 rfl ?_
          refine r_bipush hC dX6_endMove_137 rfl ?_
          refine r_iload_n hC dX6_endMove_139 rfl ?_
          refine z_inv3 hM dX6_endMove_140 vl_RX6_173 rfl rfl rfl (Nat.le_of_ble_eq_true rfl) (Nat.le_of_ble_eq_true rfl) ?_
          refine y_set (by first | assumption | decide | exact xs_ (by decide) | exact xc_ (by decide) | exact x31_ (by decide) | omega) (by first | assumption | decide | exact xs_ (by decide) | exact xc_ (by decide) | exact x31_ (by decide) | omega) ⟨fun h => by omega, fun h => by omega⟩ ?_
          obtain ⟨ρ63, e_ρ63⟩ : ∃ zz_, zz_ = mu ρ58 31 0 ((22 * l) + 20) (c + (if 0 < (W 11 l 3) then (W 11 l 3) - 1 else 0)) := ⟨_, rfl⟩
          rw [← e_ρ63]
          have Sρ63 : SB t σ0 (mu (mu (mu (mu (mu (mu W 11 l 3 0) 11 l 0 ((W 11 l 0) + (W 11 l 1))) 11 l 1 0) 11 l 4 (c + (if 0 < (W 11 l 3) then (W 11 l 3) - 1 else 0))) 11 l 5 (wr ((W 11 l 5) + (c + (if 0 < (W 11 l 3) then (W 11 l 3) - 1 else 0))))) 11 l 6 (c + (if 0 < (W 11 l 3) then (W 11 l 3) - 1 else 0))) ρ63 := by rw [e_ρ63, show ((22 * l) + 20) = 22 * l + 20 from by omega]; exact Sρ58.p11 (by first | assumption | decide | exact xs_ (by decide) | exact xc_ (by decide) | exact x31_ (by decide) | omega) (by first | assumption | decide | exact xs_ (by decide) | exact xc_ (by decide) | exact x31_ (by decide) | omega) (by first | assumption | decide | exact xs_ (by decide) | exact xc_ (by decide) | exact x31_ (by decide) | omega)
          have r16a_ρ63 : ρ63 31 0 (22 * l + 16) = 0 := by rw [e_ρ63]; exact (mu_ne (by first | assumption | decide | exact xs_ (by decide) | exact xc_ (by decide) | exact x31_ (by decide) | omega)).trans r16a_ρ58
          have r17b_ρ63 : ρ63 31 0 (22 * l + 17) = 0 := by rw [e_ρ63]; exact (mu_ne (by first | assumption | decide | exact xs_ (by decide) | exact xc_ (by decide) | exact x31_ (by decide) | omega)).trans r17b_ρ58
          have Xρ63 : KX t l (mu (mu (mu (mu (mu (mu W 11 l 3 0) 11 l 0 ((W 11 l 0) + (W 11 l 1))) 11 l 1 0) 11 l 4 (c + (if 0 < (W 11 l 3) then (W 11 l 3) - 1 else 0))) 11 l 5 (wr ((W 11 l 5) + (c + (if 0 < (W 11 l 3) then (W 11 l 3) - 1 else 0))))) 11 l 6 (c + (if 0 < (W 11 l 3) then (W 11 l 3) - 1 else 0))) ρ63 := (Xρ58).e (fun m a b c => by rw [e_ρ63]; exact ⟨mu_ne (by first | assumption | decide | exact xs_ (by decide) | exact xc_ (by decide) | exact x31_ (by decide) | omega), mu_ne (by first | assumption | decide | exact xs_ (by decide) | exact xc_ (by decide) | exact x31_ (by decide) | omega)⟩) (fun m c => mu_ne (by first | assumption | decide | exact xs_ (by decide) | exact xc_ (by decide) | exact x31_ (by decide) | omega))
          have Fρ63 : FB (mu (mu (mu (mu (mu (mu W 11 l 3 0) 11 l 0 ((W 11 l 0) + (W 11 l 1))) 11 l 1 0) 11 l 4 (c + (if 0 < (W 11 l 3) then (W 11 l 3) - 1 else 0))) 11 l 5 (wr ((W 11 l 5) + (c + (if 0 < (W 11 l 3) then (W 11 l 3) - 1 else 0))))) 11 l 6 (c + (if 0 < (W 11 l 3) then (W 11 l 3) - 1 else 0))) ρ63 := by rw [e_ρ63]; exact (Fρ58).e (fun l a b => mu_ne (by first | assumption | decide | exact xs_ (by decide) | exact xc_ (by decide) | exact x31_ (by decide) | omega)) |>.v (fun l y a b c => mu_ne (by first | assumption | decide | exact xs_ (by decide) | exact xc_ (by decide) | exact x31_ (by decide) | omega))
          refine r_aload_n hC dX6_endMove_143 rfl ?_
          refine r_iload_n hC dX6_endMove_144 rfl ?_
          refine z_inv1 hM dX6_endMove_145 vl_RX6_191 rfl rfl rfl (Nat.le_of_ble_eq_true rfl) (Nat.le_of_ble_eq_true rfl) ?_
          have hbeg : (V 11 l 1 = 0 ∧ V 11 l 2 > V 11 l 0) := by omega
          have HF : (V 11 l 1 = 0 ∧ V 11 l 2 > V 11 l 0) ∧ W 11 l 0 = V 11 l 0 ∧ W 11 l 1 = V 11 l 2 ∧ W 11 l 2 = 0 ∧ W 11 l 3 = V 11 l 2 + V 11 l 0 ∧ W 11 l 4 = V 11 l 4 ∧ W 11 l 5 = V 11 l 5 ∧ W 11 l 6 = V 11 l 6 ∧ 0 ≤ V 11 l 0 ∧ (0 ≤ (W 11 l 3) ∧ (W 11 l 3) ≤ 3) ∧ V 11 l 6 < (c + (if 0 < (W 11 l 3) then (W 11 l 3) - 1 else 0)) := by refine ⟨hbeg, ?_, ?_, ?_, ?_⟩ <;> omega
          obtain ⟨n0, n1, n2, n3, n4, n5, n6⟩ := em_9 (a0 := V 11 l 0) (a1 := V 11 l 1) (a2 := V 11 l 2) (a3 := V 11 l 3) (a4 := V 11 l 4) (a5 := V 11 l 5) (a6 := V 11 l 6) (c := c) (w0 := W 11 l 0) (w1 := W 11 l 1) (w2 := W 11 l 2) (w3 := W 11 l 3) (w4 := W 11 l 4) (w5 := W 11 l 5) (w6 := W 11 l 6) HF
          have m0 : (mu (mu (mu (mu (mu (mu W 11 l 3 0) 11 l 0 ((W 11 l 0) + (W 11 l 1))) 11 l 1 0) 11 l 4 (c + (if 0 < (W 11 l 3) then (W 11 l 3) - 1 else 0))) 11 l 5 (wr ((W 11 l 5) + (c + (if 0 < (W 11 l 3) then (W 11 l 3) - 1 else 0))))) 11 l 6 (c + (if 0 < (W 11 l 3) then (W 11 l 3) - 1 else 0))) 11 l 0 = (if (if (V 11 l 1) = 0 ∧ (V 11 l 2) > (V 11 l 0) then (V 11 l 2) + (V 11 l 0) else (V 11 l 3)) - min 3 (if (V 11 l 1) = 0 ∧ (V 11 l 2) > (V 11 l 0) then (V 11 l 2) + (V 11 l 0) else (V 11 l 3)) = 0 then (V 11 l 0) + (if (V 11 l 1) = 0 ∧ (V 11 l 2) > (V 11 l 0) then (V 11 l 2) else (V 11 l 1)) else (V 11 l 0)) := (show (mu (mu (mu (mu (mu (mu W 11 l 3 0) 11 l 0 ((W 11 l 0) + (W 11 l 1))) 11 l 1 0) 11 l 4 (c + (if 0 < (W 11 l 3) then (W 11 l 3) - 1 else 0))) 11 l 5 (wr ((W 11 l 5) + (c + (if 0 < (W 11 l 3) then (W 11 l 3) - 1 else 0))))) 11 l 6 (c + (if 0 < (W 11 l 3) then (W 11 l 3) - 1 else 0))) 11 l 0 = ((W 11 l 0) + (W 11 l 1)) from ((mu_ne (by first | assumption | decide | exact xs_ (by decide) | exact xc_ (by decide) | exact x31_ (by decide) | omega)).trans ((mu_ne (by first | assumption | decide | exact xs_ (by decide) | exact xc_ (by decide) | exact x31_ (by decide) | omega)).trans ((mu_ne (by first | assumption | decide | exact xs_ (by decide) | exact xc_ (by decide) | exact x31_ (by decide) | omega)).trans ((mu_ne (by first | assumption | decide | exact xs_ (by decide) | exact xc_ (by decide) | exact x31_ (by decide) | omega)).trans (mu_self _ _ _ _ _)))))).trans n0
          have m1 : (mu (mu (mu (mu (mu (mu W 11 l 3 0) 11 l 0 ((W 11 l 0) + (W 11 l 1))) 11 l 1 0) 11 l 4 (c + (if 0 < (W 11 l 3) then (W 11 l 3) - 1 else 0))) 11 l 5 (wr ((W 11 l 5) + (c + (if 0 < (W 11 l 3) then (W 11 l 3) - 1 else 0))))) 11 l 6 (c + (if 0 < (W 11 l 3) then (W 11 l 3) - 1 else 0))) 11 l 1 = (if (if (V 11 l 1) = 0 ∧ (V 11 l 2) > (V 11 l 0) then (V 11 l 2) + (V 11 l 0) else (V 11 l 3)) - min 3 (if (V 11 l 1) = 0 ∧ (V 11 l 2) > (V 11 l 0) then (V 11 l 2) + (V 11 l 0) else (V 11 l 3)) = 0 then 0 else (if (V 11 l 1) = 0 ∧ (V 11 l 2) > (V 11 l 0) then (V 11 l 2) else (V 11 l 1))) := (show (mu (mu (mu (mu (mu (mu W 11 l 3 0) 11 l 0 ((W 11 l 0) + (W 11 l 1))) 11 l 1 0) 11 l 4 (c + (if 0 < (W 11 l 3) then (W 11 l 3) - 1 else 0))) 11 l 5 (wr ((W 11 l 5) + (c + (if 0 < (W 11 l 3) then (W 11 l 3) - 1 else 0))))) 11 l 6 (c + (if 0 < (W 11 l 3) then (W 11 l 3) - 1 else 0))) 11 l 1 = 0 from ((mu_ne (by first | assumption | decide | exact xs_ (by decide) | exact xc_ (by decide) | exact x31_ (by decide) | omega)).trans ((mu_ne (by first | assumption | decide | exact xs_ (by decide) | exact xc_ (by decide) | exact x31_ (by decide) | omega)).trans ((mu_ne (by first | assumption | decide | exact xs_ (by decide) | exact xc_ (by decide) | exact x31_ (by decide) | omega)).trans (mu_self _ _ _ _ _))))).trans n1
          have m2 : (mu (mu (mu (mu (mu (mu W 11 l 3 0) 11 l 0 ((W 11 l 0) + (W 11 l 1))) 11 l 1 0) 11 l 4 (c + (if 0 < (W 11 l 3) then (W 11 l 3) - 1 else 0))) 11 l 5 (wr ((W 11 l 5) + (c + (if 0 < (W 11 l 3) then (W 11 l 3) - 1 else 0))))) 11 l 6 (c + (if 0 < (W 11 l 3) then (W 11 l 3) - 1 else 0))) 11 l 2 = (if (V 11 l 1) = 0 ∧ (V 11 l 2) > (V 11 l 0) then 0 else (V 11 l 2)) := (show (mu (mu (mu (mu (mu (mu W 11 l 3 0) 11 l 0 ((W 11 l 0) + (W 11 l 1))) 11 l 1 0) 11 l 4 (c + (if 0 < (W 11 l 3) then (W 11 l 3) - 1 else 0))) 11 l 5 (wr ((W 11 l 5) + (c + (if 0 < (W 11 l 3) then (W 11 l 3) - 1 else 0))))) 11 l 6 (c + (if 0 < (W 11 l 3) then (W 11 l 3) - 1 else 0))) 11 l 2 = (W 11 l 2) from ((mu_ne (by first | assumption | decide | exact xs_ (by decide) | exact xc_ (by decide) | exact x31_ (by decide) | omega)).trans ((mu_ne (by first | assumption | decide | exact xs_ (by decide) | exact xc_ (by decide) | exact x31_ (by decide) | omega)).trans ((mu_ne (by first | assumption | decide | exact xs_ (by decide) | exact xc_ (by decide) | exact x31_ (by decide) | omega)).trans ((mu_ne (by first | assumption | decide | exact xs_ (by decide) | exact xc_ (by decide) | exact x31_ (by decide) | omega)).trans ((mu_ne (by first | assumption | decide | exact xs_ (by decide) | exact xc_ (by decide) | exact x31_ (by decide) | omega)).trans ((mu_ne (by first | assumption | decide | exact xs_ (by decide) | exact xc_ (by decide) | exact x31_ (by decide) | omega)).trans (rfl)))))))).trans n2
          have m3 : (mu (mu (mu (mu (mu (mu W 11 l 3 0) 11 l 0 ((W 11 l 0) + (W 11 l 1))) 11 l 1 0) 11 l 4 (c + (if 0 < (W 11 l 3) then (W 11 l 3) - 1 else 0))) 11 l 5 (wr ((W 11 l 5) + (c + (if 0 < (W 11 l 3) then (W 11 l 3) - 1 else 0))))) 11 l 6 (c + (if 0 < (W 11 l 3) then (W 11 l 3) - 1 else 0))) 11 l 3 = ((if (V 11 l 1) = 0 ∧ (V 11 l 2) > (V 11 l 0) then (V 11 l 2) + (V 11 l 0) else (V 11 l 3)) - min 3 (if (V 11 l 1) = 0 ∧ (V 11 l 2) > (V 11 l 0) then (V 11 l 2) + (V 11 l 0) else (V 11 l 3))) := (show (mu (mu (mu (mu (mu (mu W 11 l 3 0) 11 l 0 ((W 11 l 0) + (W 11 l 1))) 11 l 1 0) 11 l 4 (c + (if 0 < (W 11 l 3) then (W 11 l 3) - 1 else 0))) 11 l 5 (wr ((W 11 l 5) + (c + (if 0 < (W 11 l 3) then (W 11 l 3) - 1 else 0))))) 11 l 6 (c + (if 0 < (W 11 l 3) then (W 11 l 3) - 1 else 0))) 11 l 3 = 0 from ((mu_ne (by first | assumption | decide | exact xs_ (by decide) | exact xc_ (by decide) | exact x31_ (by decide) | omega)).trans ((mu_ne (by first | assumption | decide | exact xs_ (by decide) | exact xc_ (by decide) | exact x31_ (by decide) | omega)).trans ((mu_ne (by first | assumption | decide | exact xs_ (by decide) | exact xc_ (by decide) | exact x31_ (by decide) | omega)).trans ((mu_ne (by first | assumption | decide | exact xs_ (by decide) | exact xc_ (by decide) | exact x31_ (by decide) | omega)).trans ((mu_ne (by first | assumption | decide | exact xs_ (by decide) | exact xc_ (by decide) | exact x31_ (by decide) | omega)).trans (mu_self _ _ _ _ _))))))).trans n3
          have m4 : (mu (mu (mu (mu (mu (mu W 11 l 3 0) 11 l 0 ((W 11 l 0) + (W 11 l 1))) 11 l 1 0) 11 l 4 (c + (if 0 < (W 11 l 3) then (W 11 l 3) - 1 else 0))) 11 l 5 (wr ((W 11 l 5) + (c + (if 0 < (W 11 l 3) then (W 11 l 3) - 1 else 0))))) 11 l 6 (c + (if 0 < (W 11 l 3) then (W 11 l 3) - 1 else 0))) 11 l 4 = (((if (V 11 l 1) = 0 ∧ (V 11 l 2) > (V 11 l 0) then c - 1 else c) + min 3 (if (V 11 l 1) = 0 ∧ (V 11 l 2) > (V 11 l 0) then (V 11 l 2) + (V 11 l 0) else (V 11 l 3)))) := (show (mu (mu (mu (mu (mu (mu W 11 l 3 0) 11 l 0 ((W 11 l 0) + (W 11 l 1))) 11 l 1 0) 11 l 4 (c + (if 0 < (W 11 l 3) then (W 11 l 3) - 1 else 0))) 11 l 5 (wr ((W 11 l 5) + (c + (if 0 < (W 11 l 3) then (W 11 l 3) - 1 else 0))))) 11 l 6 (c + (if 0 < (W 11 l 3) then (W 11 l 3) - 1 else 0))) 11 l 4 = (c + (if 0 < (W 11 l 3) then (W 11 l 3) - 1 else 0)) from ((mu_ne (by first | assumption | decide | exact xs_ (by decide) | exact xc_ (by decide) | exact x31_ (by decide) | omega)).trans ((mu_ne (by first | assumption | decide | exact xs_ (by decide) | exact xc_ (by decide) | exact x31_ (by decide) | omega)).trans (mu_self _ _ _ _ _)))).trans n4
          have m5 : (mu (mu (mu (mu (mu (mu W 11 l 3 0) 11 l 0 ((W 11 l 0) + (W 11 l 1))) 11 l 1 0) 11 l 4 (c + (if 0 < (W 11 l 3) then (W 11 l 3) - 1 else 0))) 11 l 5 (wr ((W 11 l 5) + (c + (if 0 < (W 11 l 3) then (W 11 l 3) - 1 else 0))))) 11 l 6 (c + (if 0 < (W 11 l 3) then (W 11 l 3) - 1 else 0))) 11 l 5 = (wr ((V 11 l 5) + ((if (V 11 l 1) = 0 ∧ (V 11 l 2) > (V 11 l 0) then c - 1 else c) + min 3 (if (V 11 l 1) = 0 ∧ (V 11 l 2) > (V 11 l 0) then (V 11 l 2) + (V 11 l 0) else (V 11 l 3))))) := (show (mu (mu (mu (mu (mu (mu W 11 l 3 0) 11 l 0 ((W 11 l 0) + (W 11 l 1))) 11 l 1 0) 11 l 4 (c + (if 0 < (W 11 l 3) then (W 11 l 3) - 1 else 0))) 11 l 5 (wr ((W 11 l 5) + (c + (if 0 < (W 11 l 3) then (W 11 l 3) - 1 else 0))))) 11 l 6 (c + (if 0 < (W 11 l 3) then (W 11 l 3) - 1 else 0))) 11 l 5 = wr ((W 11 l 5) + (c + (if 0 < (W 11 l 3) then (W 11 l 3) - 1 else 0))) from ((mu_ne (by first | assumption | decide | exact xs_ (by decide) | exact xc_ (by decide) | exact x31_ (by decide) | omega)).trans (mu_self _ _ _ _ _))).trans (congrArg wr n5)
          have m6 : (mu (mu (mu (mu (mu (mu W 11 l 3 0) 11 l 0 ((W 11 l 0) + (W 11 l 1))) 11 l 1 0) 11 l 4 (c + (if 0 < (W 11 l 3) then (W 11 l 3) - 1 else 0))) 11 l 5 (wr ((W 11 l 5) + (c + (if 0 < (W 11 l 3) then (W 11 l 3) - 1 else 0))))) 11 l 6 (c + (if 0 < (W 11 l 3) then (W 11 l 3) - 1 else 0))) 11 l 6 = (max (V 11 l 6) ((if (V 11 l 1) = 0 ∧ (V 11 l 2) > (V 11 l 0) then c - 1 else c) + min 3 (if (V 11 l 1) = 0 ∧ (V 11 l 2) > (V 11 l 0) then (V 11 l 2) + (V 11 l 0) else (V 11 l 3)))) := (show (mu (mu (mu (mu (mu (mu W 11 l 3 0) 11 l 0 ((W 11 l 0) + (W 11 l 1))) 11 l 1 0) 11 l 4 (c + (if 0 < (W 11 l 3) then (W 11 l 3) - 1 else 0))) 11 l 5 (wr ((W 11 l 5) + (c + (if 0 < (W 11 l 3) then (W 11 l 3) - 1 else 0))))) 11 l 6 (c + (if 0 < (W 11 l 3) then (W 11 l 3) - 1 else 0))) 11 l 6 = (c + (if 0 < (W 11 l 3) then (W 11 l 3) - 1 else 0)) from (mu_self _ _ _ _ _)).trans n6
          have hV : (mu (mu (mu (mu (mu (mu W 11 l 3 0) 11 l 0 ((W 11 l 0) + (W 11 l 1))) 11 l 1 0) 11 l 4 (c + (if 0 < (W 11 l 3) then (W 11 l 3) - 1 else 0))) 11 l 5 (wr ((W 11 l 5) + (c + (if 0 < (W 11 l 3) then (W 11 l 3) - 1 else 0))))) 11 l 6 (c + (if 0 < (W 11 l 3) then (W 11 l 3) - 1 else 0))) = (su V 11 l (emR c (V 11 l))) := mu7 (fun c2 x y h => (mu_ne (by first | assumption | decide | exact xs_ (by decide) | exact xc_ (by decide) | exact x31_ (by decide) | omega)).trans ((mu_ne (by first | assumption | decide | exact xs_ (by decide) | exact xc_ (by decide) | exact x31_ (by decide) | omega)).trans ((mu_ne (by first | assumption | decide | exact xs_ (by decide) | exact xc_ (by decide) | exact x31_ (by decide) | omega)).trans ((mu_ne (by first | assumption | decide | exact xs_ (by decide) | exact xc_ (by decide) | exact x31_ (by decide) | omega)).trans ((mu_ne (by first | assumption | decide | exact xs_ (by decide) | exact xc_ (by decide) | exact x31_ (by decide) | omega)).trans ((mu_ne (by first | assumption | decide | exact xs_ (by decide) | exact xc_ (by decide) | exact x31_ (by decide) | omega)).trans ((hWn c2 x y (by first | assumption | decide | exact xs_ (by decide) | exact xc_ (by decide) | exact x31_ (by decide) | omega))))))))) m0 m1 m2 m3 m4 m5 m6
          have qS := Sρ63
          have qX := Xρ63
          have qF := Fρ63
          rw [hV] at qS qX qF
          have q16 : 0 = (if (su V 11 l (emR c (V 11 l))) 11 l 3 = 0 then (0 : Int) else 1) := by rw [← hV, m3]; simp only [if_pos hbeg]; (repeat' split) <;> omega
          have qR : RS t σ0 (su V 11 l (emR c (V 11 l))) ρ63 := ⟨qS, qX.kf (r16a_ρ63.trans q16) r17b_ρ63, qF⟩
          have qL : LK (su V 11 l (emR c (V 11 l))) l := hL.to (fun c2 x y h => su_ne (by first | assumption | decide | exact xs_ (by decide) | exact xc_ (by decide) | exact x31_ (by decide) | omega))
          refine y_look (V := (su V 11 l (emR c (V 11 l)))) (by first | assumption | decide | exact xs_ (by decide) | exact xc_ (by decide) | exact x31_ (by decide) | omega) ht qR (by first | assumption | decide | exact xs_ (by decide) | exact xc_ (by decide) | exact x31_ (by decide) | omega) qL (fun ρ64 Rρ64 => ?_)
          refine y_vret hK rfl dX6_endMove_148 ?_
          exact k _ Rρ64
theorem y_endMove {eb : Bool} {t : Int} {V : Mm} {d : Nat} {P : Option Vl → Mm → Prop} {σ : Mm} {l c : Int} (b_l : 0 ≤ l ∧ l ≤ 7) (b_c : 0 ≤ c ∧ c ≤ 1) {σ0 : Mm} {fl fr : Int} (ht : 6 ≤ t ∧ t ≤ 7) (hS : SB t σ0 V σ) (hX : KX t l V σ) (hFB : FB V σ) (hl : l ≤ t) (hL : LK V l) (hb : (0 ≤ V 11 l 0 ∧ V 11 l 0 ≤ 121) ∧ (0 ≤ V 11 l 1 ∧ V 11 l 1 ≤ 122) ∧ (0 ≤ V 11 l 2 ∧ V 11 l 2 ≤ 122) ∧ 0 ≤ V 11 l 3 ∧ V 11 l 3 ≤ 243) (hfl : (fl = 0 ∧ V 11 l 1 = 0 ∧ V 11 l 3 = 0) ∨ (fl = 1 ∧ V 11 l 1 ≠ 0)) (h16 : σ 31 0 (22 * l + 16) = fl) (h17 : σ 31 0 (22 * l + 17) = 0)  (k : ∀ ρ : Mm, RS t σ0 (rgM (su V 11 l (emR c (V 11 l))) l) ρ → P none ρ) : WT (true, eb, true) (d + 7) 177 [vR 30 0, vI l, vI c] σ P := y_endMoveW (fl := fl) (fr := fr) b_l b_c ht hS hX hFB hl hL (by first | assumption | decide | exact xs_ (by decide) | exact xc_ (by decide) | exact x31_ (by decide) | omega) hfl h16 h17 k
-- B: the reference: laid anew, drops
theorem emR_3 {c : Int} {f : Int → Int} : emR c f 3 = emL f - min 3 (emL f) := r7_3
theorem LK.su11 {V : Mm} {l i : Int} {f : Int → Int} (h : LK V l) : LK (su V 11 i f) l := h.to (fun c x y e => su_ne (by first | assumption | decide | exact xs_ (by decide) | exact xc_ (by decide) | exact x31_ (by decide) | omega))
theorem FIK {V : Mm} {l h : Int} (p : FI (V 11 l) h) (q : h ≤ 121) : (0 ≤ V 11 l 0 ∧ V 11 l 0 ≤ 121) ∧ (0 ≤ V 11 l 1 ∧ V 11 l 1 ≤ 121) ∧ (0 ≤ V 11 l 2 ∧ V 11 l 2 ≤ 121) ∧ (0 ≤ V 11 l 3 ∧ V 11 l 3 ≤ 242) ∧ (V 11 l 3 = 0 ↔ V 11 l 1 = 0) := by
  unfold FI at p
  omega
theorem y_layAnewX {eb : Bool} {t : Int} {V : Mm} {d : Nat} {P : Option Vl → Mm → Prop} {σ : Mm} {l : Int} (b_l : 0 ≤ l ∧ l ≤ 7) {σ0 : Mm} {fl : Int} (ht : 6 ≤ t ∧ t ≤ 7) (hS : SB t σ0 V σ) (hX : KX t l V σ) (hFB : FB V σ) (hl : l ≤ t) (hL : LK V l) (h16 : σ 31 0 (22 * l + 16) = fl) (h17 : σ 31 0 (22 * l + 17) = 0)  (k : ∀ ρ : Mm, RS t σ0 (rgM (lyM V l (V 7 l 6)) l) ρ → P none ρ) : WT (true, eb, true) (d + 7) 179 [vR 30 0, vI l] σ P := by
  refine WT_in fun K hK => ?_
  have hK : StpY (true, eb, true) cX6_layAnew RX6 (none) (WT (true, eb, true) (d + 6)) P K := hK
  have hM := hK.1
  have hC := hK.1.1
  show K 0 [some (vR 30 0), some (vI l), none] [] σ
  have hop := hL.1
  have h6 := hL.2.1
  refine r_aload_n hC dX6_layAnew_0 rfl ?_
  refine r_iload_n hC dX6_layAnew_1 rfl ?_
  refine r_bipush hC dX6_layAnew_2 rfl ?_
  refine r_aload_n hC dX6_layAnew_4 rfl ?_
  refine r_iload_n hC dX6_layAnew_5 rfl ?_
  refine z_inv1 hM dX6_layAnew_6 vl_RX6_116 rfl rfl rfl (Nat.le_of_ble_eq_true rfl) (Nat.le_of_ble_eq_true rfl) ?_
  refine y_heldOf (by first | assumption | decide | exact xs_ (by decide) | exact xc_ (by decide) | exact x31_ (by decide) | omega) (fun o1 => ?_)
  have e2 : σ 31 0 (22 * l + 5) = (V 7 l 6) := (hS.a7 (s := 6) (f := 5) (by first | assumption | decide | exact xs_ (by decide) | exact xc_ (by decide) | exact x31_ (by decide) | omega) (by first | assumption | decide | exact xs_ (by decide) | exact xc_ (by decide) | exact x31_ (by decide) | omega) (by first | assumption | decide | exact xs_ (by decide) | exact xc_ (by decide) | exact x31_ (by decide) | omega)).trans (rfl)
  rw [e2] at o1 ⊢
  have qo1 : 0 ≤ (V 7 l 6) ∧ (V 7 l 6) ≤ 121 := o1.1 (by first | assumption | decide | exact xs_ (by decide) | exact xc_ (by decide) | exact x31_ (by decide) | omega)
  refine z_inv3 hM dX6_layAnew_9 vl_RX6_173 rfl rfl rfl (Nat.le_of_ble_eq_true rfl) (Nat.le_of_ble_eq_true rfl) ?_
  refine y_set (by first | assumption | decide | exact xs_ (by decide) | exact xc_ (by decide) | exact x31_ (by decide) | omega) (by first | assumption | decide | exact xs_ (by decide) | exact xc_ (by decide) | exact x31_ (by decide) | omega) ⟨fun h => by omega, fun h => by omega⟩ ?_
  obtain ⟨ρ3, e_ρ3⟩ : ∃ zz_, zz_ = mu σ 31 0 ((22 * l) + 12) (V 7 l 6) := ⟨_, rfl⟩
  rw [← e_ρ3]
  have Sρ3 : SB t σ0 (mu V 11 l 0 (V 7 l 6)) ρ3 := by rw [e_ρ3, show ((22 * l) + 12) = 22 * l + 12 from by omega]; exact hS.p11 (by first | assumption | decide | exact xs_ (by decide) | exact xc_ (by decide) | exact x31_ (by decide) | omega) (by first | assumption | decide | exact xs_ (by decide) | exact xc_ (by decide) | exact x31_ (by decide) | omega) (by first | assumption | decide | exact xs_ (by decide) | exact xc_ (by decide) | exact x31_ (by decide) | omega)
  have r16_ρ3 : ρ3 31 0 (22 * l + 16) = fl := by rw [e_ρ3]; exact (mu_ne (by first | assumption | decide | exact xs_ (by decide) | exact xc_ (by decide) | exact x31_ (by decide) | omega)).trans h16
  have r17_ρ3 : ρ3 31 0 (22 * l + 17) = 0 := by rw [e_ρ3]; exact (mu_ne (by first | assumption | decide | exact xs_ (by decide) | exact xc_ (by decide) | exact x31_ (by decide) | omega)).trans h17
  have Xρ3 : KX t l (mu V 11 l 0 (V 7 l 6)) ρ3 := (hX).e (fun m a b c => by rw [e_ρ3]; exact ⟨mu_ne (by first | assumption | decide | exact xs_ (by decide) | exact xc_ (by decide) | exact x31_ (by decide) | omega), mu_ne (by first | assumption | decide | exact xs_ (by decide) | exact xc_ (by decide) | exact x31_ (by decide) | omega)⟩) (fun m c => mu_ne (by first | assumption | decide | exact xs_ (by decide) | exact xc_ (by decide) | exact x31_ (by decide) | omega))
  have Fρ3 : FB (mu V 11 l 0 (V 7 l 6)) ρ3 := by rw [e_ρ3]; exact (hFB).e (fun l a b => mu_ne (by first | assumption | decide | exact xs_ (by decide) | exact xc_ (by decide) | exact x31_ (by decide) | omega)) |>.v (fun l y a b c => mu_ne (by first | assumption | decide | exact xs_ (by decide) | exact xc_ (by decide) | exact x31_ (by decide) | omega))
  refine r_aload_n hC dX6_layAnew_12 rfl ?_
  refine r_iload_n hC dX6_layAnew_13 rfl ?_
  refine r_bipush hC dX6_layAnew_14 rfl ?_
  refine r_iconst hC dX6_layAnew_16 rfl ?_
  refine z_inv3 hM dX6_layAnew_17 vl_RX6_173 rfl rfl rfl (Nat.le_of_ble_eq_true rfl) (Nat.le_of_ble_eq_true rfl) ?_
  refine y_set (by first | assumption | decide | exact xs_ (by decide) | exact xc_ (by decide) | exact x31_ (by decide) | omega) (by first | assumption | decide | exact xs_ (by decide) | exact xc_ (by decide) | exact x31_ (by decide) | omega) ⟨fun h => by omega, fun h => by omega⟩ ?_
  obtain ⟨ρ4, e_ρ4⟩ : ∃ zz_, zz_ = mu ρ3 31 0 ((22 * l) + 13) 0 := ⟨_, rfl⟩
  rw [← e_ρ4]
  have Sρ4 : SB t σ0 (mu (mu V 11 l 0 (V 7 l 6)) 11 l 1 0) ρ4 := by rw [e_ρ4, show ((22 * l) + 13) = 22 * l + 13 from by omega]; exact Sρ3.p11 (by first | assumption | decide | exact xs_ (by decide) | exact xc_ (by decide) | exact x31_ (by decide) | omega) (by first | assumption | decide | exact xs_ (by decide) | exact xc_ (by decide) | exact x31_ (by decide) | omega) (by first | assumption | decide | exact xs_ (by decide) | exact xc_ (by decide) | exact x31_ (by decide) | omega)
  have r16_ρ4 : ρ4 31 0 (22 * l + 16) = fl := by rw [e_ρ4]; exact (mu_ne (by first | assumption | decide | exact xs_ (by decide) | exact xc_ (by decide) | exact x31_ (by decide) | omega)).trans r16_ρ3
  have r17_ρ4 : ρ4 31 0 (22 * l + 17) = 0 := by rw [e_ρ4]; exact (mu_ne (by first | assumption | decide | exact xs_ (by decide) | exact xc_ (by decide) | exact x31_ (by decide) | omega)).trans r17_ρ3
  have Xρ4 : KX t l (mu (mu V 11 l 0 (V 7 l 6)) 11 l 1 0) ρ4 := (Xρ3).e (fun m a b c => by rw [e_ρ4]; exact ⟨mu_ne (by first | assumption | decide | exact xs_ (by decide) | exact xc_ (by decide) | exact x31_ (by decide) | omega), mu_ne (by first | assumption | decide | exact xs_ (by decide) | exact xc_ (by decide) | exact x31_ (by decide) | omega)⟩) (fun m c => mu_ne (by first | assumption | decide | exact xs_ (by decide) | exact xc_ (by decide) | exact x31_ (by decide) | omega))
  have Fρ4 : FB (mu (mu V 11 l 0 (V 7 l 6)) 11 l 1 0) ρ4 := by rw [e_ρ4]; exact (Fρ3).e (fun l a b => mu_ne (by first | assumption | decide | exact xs_ (by decide) | exact xc_ (by decide) | exact x31_ (by decide) | omega)) |>.v (fun l y a b c => mu_ne (by first | assumption | decide | exact xs_ (by decide) | exact xc_ (by decide) | exact x31_ (by decide) | omega))
  refine r_aload_n hC dX6_layAnew_20 rfl ?_
  refine r_iload_n hC dX6_layAnew_21 rfl ?_
  refine r_bipush hC dX6_layAnew_22 rfl ?_
  refine r_iconst hC dX6_layAnew_24 rfl ?_
  refine z_inv3 hM dX6_layAnew_25 vl_RX6_173 rfl rfl rfl (Nat.le_of_ble_eq_true rfl) (Nat.le_of_ble_eq_true rfl) ?_
  refine y_set (by first | assumption | decide | exact xs_ (by decide) | exact xc_ (by decide) | exact x31_ (by decide) | omega) (by first | assumption | decide | exact xs_ (by decide) | exact xc_ (by decide) | exact x31_ (by decide) | omega) ⟨fun h => by omega, fun h => by omega⟩ ?_
  obtain ⟨ρ5, e_ρ5⟩ : ∃ zz_, zz_ = mu ρ4 31 0 ((22 * l) + 14) 0 := ⟨_, rfl⟩
  rw [← e_ρ5]
  have Sρ5 : SB t σ0 (mu (mu (mu V 11 l 0 (V 7 l 6)) 11 l 1 0) 11 l 2 0) ρ5 := by rw [e_ρ5, show ((22 * l) + 14) = 22 * l + 14 from by omega]; exact Sρ4.p11 (by first | assumption | decide | exact xs_ (by decide) | exact xc_ (by decide) | exact x31_ (by decide) | omega) (by first | assumption | decide | exact xs_ (by decide) | exact xc_ (by decide) | exact x31_ (by decide) | omega) (by first | assumption | decide | exact xs_ (by decide) | exact xc_ (by decide) | exact x31_ (by decide) | omega)
  have r16_ρ5 : ρ5 31 0 (22 * l + 16) = fl := by rw [e_ρ5]; exact (mu_ne (by first | assumption | decide | exact xs_ (by decide) | exact xc_ (by decide) | exact x31_ (by decide) | omega)).trans r16_ρ4
  have r17_ρ5 : ρ5 31 0 (22 * l + 17) = 0 := by rw [e_ρ5]; exact (mu_ne (by first | assumption | decide | exact xs_ (by decide) | exact xc_ (by decide) | exact x31_ (by decide) | omega)).trans r17_ρ4
  have Xρ5 : KX t l (mu (mu (mu V 11 l 0 (V 7 l 6)) 11 l 1 0) 11 l 2 0) ρ5 := (Xρ4).e (fun m a b c => by rw [e_ρ5]; exact ⟨mu_ne (by first | assumption | decide | exact xs_ (by decide) | exact xc_ (by decide) | exact x31_ (by decide) | omega), mu_ne (by first | assumption | decide | exact xs_ (by decide) | exact xc_ (by decide) | exact x31_ (by decide) | omega)⟩) (fun m c => mu_ne (by first | assumption | decide | exact xs_ (by decide) | exact xc_ (by decide) | exact x31_ (by decide) | omega))
  have Fρ5 : FB (mu (mu (mu V 11 l 0 (V 7 l 6)) 11 l 1 0) 11 l 2 0) ρ5 := by rw [e_ρ5]; exact (Fρ4).e (fun l a b => mu_ne (by first | assumption | decide | exact xs_ (by decide) | exact xc_ (by decide) | exact x31_ (by decide) | omega)) |>.v (fun l y a b c => mu_ne (by first | assumption | decide | exact xs_ (by decide) | exact xc_ (by decide) | exact x31_ (by decide) | omega))
  refine r_aload_n hC dX6_layAnew_28 rfl ?_
  refine r_iload_n hC dX6_layAnew_29 rfl ?_
  refine r_bipush hC dX6_layAnew_30 rfl ?_
  refine r_iconst hC dX6_layAnew_32 rfl ?_
  refine z_inv3 hM dX6_layAnew_33 vl_RX6_173 rfl rfl rfl (Nat.le_of_ble_eq_true rfl) (Nat.le_of_ble_eq_true rfl) ?_
  refine y_set (by first | assumption | decide | exact xs_ (by decide) | exact xc_ (by decide) | exact x31_ (by decide) | omega) (by first | assumption | decide | exact xs_ (by decide) | exact xc_ (by decide) | exact x31_ (by decide) | omega) ⟨fun h => by omega, fun h => by omega⟩ ?_
  obtain ⟨ρ6, e_ρ6⟩ : ∃ zz_, zz_ = mu ρ5 31 0 ((22 * l) + 15) 0 := ⟨_, rfl⟩
  rw [← e_ρ6]
  have Sρ6 : SB t σ0 (mu (mu (mu (mu V 11 l 0 (V 7 l 6)) 11 l 1 0) 11 l 2 0) 11 l 3 0) ρ6 := by rw [e_ρ6, show ((22 * l) + 15) = 22 * l + 15 from by omega]; exact Sρ5.p11 (by first | assumption | decide | exact xs_ (by decide) | exact xc_ (by decide) | exact x31_ (by decide) | omega) (by first | assumption | decide | exact xs_ (by decide) | exact xc_ (by decide) | exact x31_ (by decide) | omega) (by first | assumption | decide | exact xs_ (by decide) | exact xc_ (by decide) | exact x31_ (by decide) | omega)
  have r16_ρ6 : ρ6 31 0 (22 * l + 16) = fl := by rw [e_ρ6]; exact (mu_ne (by first | assumption | decide | exact xs_ (by decide) | exact xc_ (by decide) | exact x31_ (by decide) | omega)).trans r16_ρ5
  have r17_ρ6 : ρ6 31 0 (22 * l + 17) = 0 := by rw [e_ρ6]; exact (mu_ne (by first | assumption | decide | exact xs_ (by decide) | exact xc_ (by decide) | exact x31_ (by decide) | omega)).trans r17_ρ5
  have Xρ6 : KX t l (mu (mu (mu (mu V 11 l 0 (V 7 l 6)) 11 l 1 0) 11 l 2 0) 11 l 3 0) ρ6 := (Xρ5).e (fun m a b c => by rw [e_ρ6]; exact ⟨mu_ne (by first | assumption | decide | exact xs_ (by decide) | exact xc_ (by decide) | exact x31_ (by decide) | omega), mu_ne (by first | assumption | decide | exact xs_ (by decide) | exact xc_ (by decide) | exact x31_ (by decide) | omega)⟩) (fun m c => mu_ne (by first | assumption | decide | exact xs_ (by decide) | exact xc_ (by decide) | exact x31_ (by decide) | omega))
  have Fρ6 : FB (mu (mu (mu (mu V 11 l 0 (V 7 l 6)) 11 l 1 0) 11 l 2 0) 11 l 3 0) ρ6 := by rw [e_ρ6]; exact (Fρ5).e (fun l a b => mu_ne (by first | assumption | decide | exact xs_ (by decide) | exact xc_ (by decide) | exact x31_ (by decide) | omega)) |>.v (fun l y a b c => mu_ne (by first | assumption | decide | exact xs_ (by decide) | exact xc_ (by decide) | exact x31_ (by decide) | omega))
  refine r_aload_n hC dX6_layAnew_36 rfl ?_
  refine r_iload_n hC dX6_layAnew_37 rfl ?_
  refine r_bipush hC dX6_layAnew_38 rfl ?_
  refine r_iconst hC dX6_layAnew_40 rfl ?_
  refine z_inv3 hM dX6_layAnew_41 vl_RX6_173 rfl rfl rfl (Nat.le_of_ble_eq_true rfl) (Nat.le_of_ble_eq_true rfl) ?_
  refine y_set (by first | assumption | decide | exact xs_ (by decide) | exact xc_ (by decide) | exact x31_ (by decide) | omega) (by first | assumption | decide | exact xs_ (by decide) | exact xc_ (by decide) | exact x31_ (by decide) | omega) ⟨fun h => by omega, fun h => by omega⟩ ?_
  obtain ⟨ρ7, e_ρ7⟩ : ∃ zz_, zz_ = mu ρ6 31 0 ((22 * l) + 16) 0 := ⟨_, rfl⟩
  rw [← e_ρ7]
  have Sρ7 : SB t σ0 (mu (mu (mu (mu V 11 l 0 (V 7 l 6)) 11 l 1 0) 11 l 2 0) 11 l 3 0) ρ7 := by rw [e_ρ7, show ((22 * l) + 16) = 22 * l + 16 from by omega]; exact Sρ6.px (by first | assumption | decide | exact xs_ (by decide) | exact xc_ (by decide) | exact x31_ (by decide) | omega)
  have r16_ρ7 : ρ7 31 0 (22 * l + 16) = 0 := by rw [e_ρ7, show ((22 * l) + 16) = 22 * l + 16 from by omega]; exact mu_self _ _ _ _ _
  have r17_ρ7 : ρ7 31 0 (22 * l + 17) = 0 := by rw [e_ρ7]; exact (mu_ne (by first | assumption | decide | exact xs_ (by decide) | exact xc_ (by decide) | exact x31_ (by decide) | omega)).trans r17_ρ6
  have Xρ7 : KX t l (mu (mu (mu (mu V 11 l 0 (V 7 l 6)) 11 l 1 0) 11 l 2 0) 11 l 3 0) ρ7 := (Xρ6).e (fun m a b c => by rw [e_ρ7]; exact ⟨mu_ne (by first | assumption | decide | exact xs_ (by decide) | exact xc_ (by decide) | exact x31_ (by decide) | omega), mu_ne (by first | assumption | decide | exact xs_ (by decide) | exact xc_ (by decide) | exact x31_ (by decide) | omega)⟩) (fun m c => rfl)
  have Fρ7 : FB (mu (mu (mu (mu V 11 l 0 (V 7 l 6)) 11 l 1 0) 11 l 2 0) 11 l 3 0) ρ7 := by rw [e_ρ7]; exact (Fρ6).e (fun l a b => mu_ne (by first | assumption | decide | exact xs_ (by decide) | exact xc_ (by decide) | exact x31_ (by decide) | omega))
  refine r_aload_n hC dX6_layAnew_44 rfl ?_
  refine r_iload_n hC dX6_layAnew_45 rfl ?_
  refine z_inv1 hM dX6_layAnew_46 vl_RX6_116 rfl rfl rfl (Nat.le_of_ble_eq_true rfl) (Nat.le_of_ble_eq_true rfl) ?_
  refine y_heldOf (by first | assumption | decide | exact xs_ (by decide) | exact xc_ (by decide) | exact x31_ (by decide) | omega) (fun o8 => ?_)
  have e9 : ρ7 31 0 (22 * l + 5) = (V 7 l 6) := (Sρ7.a7 (s := 6) (f := 5) (by first | assumption | decide | exact xs_ (by decide) | exact xc_ (by decide) | exact x31_ (by decide) | omega) (by first | assumption | decide | exact xs_ (by decide) | exact xc_ (by decide) | exact x31_ (by decide) | omega) (by first | assumption | decide | exact xs_ (by decide) | exact xc_ (by decide) | exact x31_ (by decide) | omega)).trans ((mu_ne (by first | assumption | decide | exact xs_ (by decide) | exact xc_ (by decide) | exact x31_ (by decide) | omega)).trans ((mu_ne (by first | assumption | decide | exact xs_ (by decide) | exact xc_ (by decide) | exact x31_ (by decide) | omega)).trans ((mu_ne (by first | assumption | decide | exact xs_ (by decide) | exact xc_ (by decide) | exact x31_ (by decide) | omega)).trans ((mu_ne (by first | assumption | decide | exact xs_ (by decide) | exact xc_ (by decide) | exact x31_ (by decide) | omega)).trans (rfl)))))
  rw [e9] at o8 ⊢
  have qo8 : 0 ≤ (V 7 l 6) ∧ (V 7 l 6) ≤ 121 := o8.1 (by first | assumption | decide | exact xs_ (by decide) | exact xc_ (by decide) | exact x31_ (by decide) | omega)
  refine r_if_le (tgt := 62) hC dX6_layAnew_49 rfl (fun h10 => ?_) (fun h10 => ?_)
  · refine r_iconst hC dX6_layAnew_62 rfl ?_
    refine r_istore_n hC dX6_layAnew_63 rfl ?_
    refine r_aload_n hC dX6_layAnew_64 rfl ?_
    refine r_iload_n hC dX6_layAnew_65 rfl ?_
    refine r_bipush hC dX6_layAnew_66 rfl ?_
    refine r_iload_n hC dX6_layAnew_68 rfl ?_
    refine z_inv3 hM dX6_layAnew_69 vl_RX6_173 rfl rfl rfl (Nat.le_of_ble_eq_true rfl) (Nat.le_of_ble_eq_true rfl) ?_
    refine y_set (by first | assumption | decide | exact xs_ (by decide) | exact xc_ (by decide) | exact x31_ (by decide) | omega) (by first | assumption | decide | exact xs_ (by decide) | exact xc_ (by decide) | exact x31_ (by decide) | omega) ⟨fun h => by omega, fun h => by omega⟩ ?_
    obtain ⟨ρ11, e_ρ11⟩ : ∃ zz_, zz_ = mu ρ7 31 0 ((22 * l) + 18) 0 := ⟨_, rfl⟩
    rw [← e_ρ11]
    have Sρ11 : SB t σ0 (mu (mu (mu (mu (mu V 11 l 0 (V 7 l 6)) 11 l 1 0) 11 l 2 0) 11 l 3 0) 11 l 4 0) ρ11 := by rw [e_ρ11, show ((22 * l) + 18) = 22 * l + 18 from by omega]; exact Sρ7.p11 (by first | assumption | decide | exact xs_ (by decide) | exact xc_ (by decide) | exact x31_ (by decide) | omega) (by first | assumption | decide | exact xs_ (by decide) | exact xc_ (by decide) | exact x31_ (by decide) | omega) (by first | assumption | decide | exact xs_ (by decide) | exact xc_ (by decide) | exact x31_ (by decide) | omega)
    have r16_ρ11 : ρ11 31 0 (22 * l + 16) = 0 := by rw [e_ρ11]; exact (mu_ne (by first | assumption | decide | exact xs_ (by decide) | exact xc_ (by decide) | exact x31_ (by decide) | omega)).trans r16_ρ7
    have r17_ρ11 : ρ11 31 0 (22 * l + 17) = 0 := by rw [e_ρ11]; exact (mu_ne (by first | assumption | decide | exact xs_ (by decide) | exact xc_ (by decide) | exact x31_ (by decide) | omega)).trans r17_ρ7
    have Xρ11 : KX t l (mu (mu (mu (mu (mu V 11 l 0 (V 7 l 6)) 11 l 1 0) 11 l 2 0) 11 l 3 0) 11 l 4 0) ρ11 := (Xρ7).e (fun m a b c => by rw [e_ρ11]; exact ⟨mu_ne (by first | assumption | decide | exact xs_ (by decide) | exact xc_ (by decide) | exact x31_ (by decide) | omega), mu_ne (by first | assumption | decide | exact xs_ (by decide) | exact xc_ (by decide) | exact x31_ (by decide) | omega)⟩) (fun m c => mu_ne (by first | assumption | decide | exact xs_ (by decide) | exact xc_ (by decide) | exact x31_ (by decide) | omega))
    have Fρ11 : FB (mu (mu (mu (mu (mu V 11 l 0 (V 7 l 6)) 11 l 1 0) 11 l 2 0) 11 l 3 0) 11 l 4 0) ρ11 := by rw [e_ρ11]; exact (Fρ7).e (fun l a b => mu_ne (by first | assumption | decide | exact xs_ (by decide) | exact xc_ (by decide) | exact x31_ (by decide) | omega)) |>.v (fun l y a b c => mu_ne (by first | assumption | decide | exact xs_ (by decide) | exact xc_ (by decide) | exact x31_ (by decide) | omega))
    refine r_aload_n hC dX6_layAnew_72 rfl ?_
    refine r_iload_n hC dX6_layAnew_73 rfl ?_
    refine r_bipush hC dX6_layAnew_74 rfl ?_
    refine r_iload_n hC dX6_layAnew_76 rfl ?_
    refine z_inv3 hM dX6_layAnew_77 vl_RX6_188 rfl rfl rfl (Nat.le_of_ble_eq_true rfl) (Nat.le_of_ble_eq_true rfl) ?_
    refine y_moreW (a := (V 11 l 5)) (by first | assumption | decide | exact xs_ (by decide) | exact xc_ (by decide) | exact x31_ (by decide) | omega) (by first | assumption | decide | exact xs_ (by decide) | exact xc_ (by decide) | exact x31_ (by decide) | omega) ⟨fun h => by omega, by omega⟩ ((Sρ11.a11 (s := 5) (f := 19) (by first | assumption | decide | exact xs_ (by decide) | exact xc_ (by decide) | exact x31_ (by decide) | omega) (by first | assumption | decide | exact xs_ (by decide) | exact xc_ (by decide) | exact x31_ (by decide) | omega) (by first | assumption | decide | exact xs_ (by decide) | exact xc_ (by decide) | exact x31_ (by decide) | omega)).trans ((mu_ne (by first | assumption | decide | exact xs_ (by decide) | exact xc_ (by decide) | exact x31_ (by decide) | omega)).trans ((mu_ne (by first | assumption | decide | exact xs_ (by decide) | exact xc_ (by decide) | exact x31_ (by decide) | omega)).trans ((mu_ne (by first | assumption | decide | exact xs_ (by decide) | exact xc_ (by decide) | exact x31_ (by decide) | omega)).trans ((mu_ne (by first | assumption | decide | exact xs_ (by decide) | exact xc_ (by decide) | exact x31_ (by decide) | omega)).trans ((mu_ne (by first | assumption | decide | exact xs_ (by decide) | exact xc_ (by decide) | exact x31_ (by decide) | omega)).trans (rfl))))))) (by first | assumption | decide | exact xs_ (by decide) | exact xc_ (by decide) | exact x31_ (by decide) | omega) ?_
    obtain ⟨ρ12, e_ρ12⟩ : ∃ zz_, zz_ = mu ρ11 31 0 ((22 * l) + 19) (wr ((V 11 l 5) + 0)) := ⟨_, rfl⟩
    rw [← e_ρ12]
    have Sρ12 : SB t σ0 (mu (mu (mu (mu (mu (mu V 11 l 0 (V 7 l 6)) 11 l 1 0) 11 l 2 0) 11 l 3 0) 11 l 4 0) 11 l 5 (wr ((V 11 l 5) + 0))) ρ12 := by rw [e_ρ12, show ((22 * l) + 19) = 22 * l + 19 from by omega]; exact Sρ11.p11 (by first | assumption | decide | exact xs_ (by decide) | exact xc_ (by decide) | exact x31_ (by decide) | omega) (by first | assumption | decide | exact xs_ (by decide) | exact xc_ (by decide) | exact x31_ (by decide) | omega) (by first | assumption | decide | exact xs_ (by decide) | exact xc_ (by decide) | exact x31_ (by decide) | omega)
    have r16_ρ12 : ρ12 31 0 (22 * l + 16) = 0 := by rw [e_ρ12]; exact (mu_ne (by first | assumption | decide | exact xs_ (by decide) | exact xc_ (by decide) | exact x31_ (by decide) | omega)).trans r16_ρ11
    have r17_ρ12 : ρ12 31 0 (22 * l + 17) = 0 := by rw [e_ρ12]; exact (mu_ne (by first | assumption | decide | exact xs_ (by decide) | exact xc_ (by decide) | exact x31_ (by decide) | omega)).trans r17_ρ11
    have Xρ12 : KX t l (mu (mu (mu (mu (mu (mu V 11 l 0 (V 7 l 6)) 11 l 1 0) 11 l 2 0) 11 l 3 0) 11 l 4 0) 11 l 5 (wr ((V 11 l 5) + 0))) ρ12 := (Xρ11).e (fun m a b c => by rw [e_ρ12]; exact ⟨mu_ne (by first | assumption | decide | exact xs_ (by decide) | exact xc_ (by decide) | exact x31_ (by decide) | omega), mu_ne (by first | assumption | decide | exact xs_ (by decide) | exact xc_ (by decide) | exact x31_ (by decide) | omega)⟩) (fun m c => mu_ne (by first | assumption | decide | exact xs_ (by decide) | exact xc_ (by decide) | exact x31_ (by decide) | omega))
    have Fρ12 : FB (mu (mu (mu (mu (mu (mu V 11 l 0 (V 7 l 6)) 11 l 1 0) 11 l 2 0) 11 l 3 0) 11 l 4 0) 11 l 5 (wr ((V 11 l 5) + 0))) ρ12 := by rw [e_ρ12]; exact (Fρ11).e (fun l a b => mu_ne (by first | assumption | decide | exact xs_ (by decide) | exact xc_ (by decide) | exact x31_ (by decide) | omega)) |>.v (fun l y a b c => mu_ne (by first | assumption | decide | exact xs_ (by decide) | exact xc_ (by decide) | exact x31_ (by decide) | omega))
    refine r_aload_n hC dX6_layAnew_80 rfl ?_
    refine r_iload_n hC dX6_layAnew_81 rfl ?_
    refine z_inv1 hM dX6_layAnew_82 vl_RX6_191 rfl rfl rfl (Nat.le_of_ble_eq_true rfl) (Nat.le_of_ble_eq_true rfl) ?_
    have m0 : (mu (mu (mu (mu (mu (mu V 11 l 0 (V 7 l 6)) 11 l 1 0) 11 l 2 0) 11 l 3 0) 11 l 4 0) 11 l 5 (wr ((V 11 l 5) + 0))) 11 l 0 = V 7 l 6 := (show (mu (mu (mu (mu (mu (mu V 11 l 0 (V 7 l 6)) 11 l 1 0) 11 l 2 0) 11 l 3 0) 11 l 4 0) 11 l 5 (wr ((V 11 l 5) + 0))) 11 l 0 = (V 7 l 6) from ((mu_ne (by first | assumption | decide | exact xs_ (by decide) | exact xc_ (by decide) | exact x31_ (by decide) | omega)).trans ((mu_ne (by first | assumption | decide | exact xs_ (by decide) | exact xc_ (by decide) | exact x31_ (by decide) | omega)).trans ((mu_ne (by first | assumption | decide | exact xs_ (by decide) | exact xc_ (by decide) | exact x31_ (by decide) | omega)).trans ((mu_ne (by first | assumption | decide | exact xs_ (by decide) | exact xc_ (by decide) | exact x31_ (by decide) | omega)).trans ((mu_ne (by first | assumption | decide | exact xs_ (by decide) | exact xc_ (by decide) | exact x31_ (by decide) | omega)).trans (mu_self _ _ _ _ _))))))).trans (by first | assumption | decide | exact xs_ (by decide) | exact xc_ (by decide) | exact x31_ (by decide) | omega)
    have m1 : (mu (mu (mu (mu (mu (mu V 11 l 0 (V 7 l 6)) 11 l 1 0) 11 l 2 0) 11 l 3 0) 11 l 4 0) 11 l 5 (wr ((V 11 l 5) + 0))) 11 l 1 = 0 := (show (mu (mu (mu (mu (mu (mu V 11 l 0 (V 7 l 6)) 11 l 1 0) 11 l 2 0) 11 l 3 0) 11 l 4 0) 11 l 5 (wr ((V 11 l 5) + 0))) 11 l 1 = 0 from ((mu_ne (by first | assumption | decide | exact xs_ (by decide) | exact xc_ (by decide) | exact x31_ (by decide) | omega)).trans ((mu_ne (by first | assumption | decide | exact xs_ (by decide) | exact xc_ (by decide) | exact x31_ (by decide) | omega)).trans ((mu_ne (by first | assumption | decide | exact xs_ (by decide) | exact xc_ (by decide) | exact x31_ (by decide) | omega)).trans ((mu_ne (by first | assumption | decide | exact xs_ (by decide) | exact xc_ (by decide) | exact x31_ (by decide) | omega)).trans (mu_self _ _ _ _ _)))))).trans (by first | assumption | decide | exact xs_ (by decide) | exact xc_ (by decide) | exact x31_ (by decide) | omega)
    have m2 : (mu (mu (mu (mu (mu (mu V 11 l 0 (V 7 l 6)) 11 l 1 0) 11 l 2 0) 11 l 3 0) 11 l 4 0) 11 l 5 (wr ((V 11 l 5) + 0))) 11 l 2 = 0 := (show (mu (mu (mu (mu (mu (mu V 11 l 0 (V 7 l 6)) 11 l 1 0) 11 l 2 0) 11 l 3 0) 11 l 4 0) 11 l 5 (wr ((V 11 l 5) + 0))) 11 l 2 = 0 from ((mu_ne (by first | assumption | decide | exact xs_ (by decide) | exact xc_ (by decide) | exact x31_ (by decide) | omega)).trans ((mu_ne (by first | assumption | decide | exact xs_ (by decide) | exact xc_ (by decide) | exact x31_ (by decide) | omega)).trans ((mu_ne (by first | assumption | decide | exact xs_ (by decide) | exact xc_ (by decide) | exact x31_ (by decide) | omega)).trans (mu_self _ _ _ _ _))))).trans (by first | assumption | decide | exact xs_ (by decide) | exact xc_ (by decide) | exact x31_ (by decide) | omega)
    have m3 : (mu (mu (mu (mu (mu (mu V 11 l 0 (V 7 l 6)) 11 l 1 0) 11 l 2 0) 11 l 3 0) 11 l 4 0) 11 l 5 (wr ((V 11 l 5) + 0))) 11 l 3 = 0 := (show (mu (mu (mu (mu (mu (mu V 11 l 0 (V 7 l 6)) 11 l 1 0) 11 l 2 0) 11 l 3 0) 11 l 4 0) 11 l 5 (wr ((V 11 l 5) + 0))) 11 l 3 = 0 from ((mu_ne (by first | assumption | decide | exact xs_ (by decide) | exact xc_ (by decide) | exact x31_ (by decide) | omega)).trans ((mu_ne (by first | assumption | decide | exact xs_ (by decide) | exact xc_ (by decide) | exact x31_ (by decide) | omega)).trans (mu_self _ _ _ _ _)))).trans (by first | assumption | decide | exact xs_ (by decide) | exact xc_ (by decide) | exact x31_ (by decide) | omega)
    have m4 : (mu (mu (mu (mu (mu (mu V 11 l 0 (V 7 l 6)) 11 l 1 0) 11 l 2 0) 11 l 3 0) 11 l 4 0) 11 l 5 (wr ((V 11 l 5) + 0))) 11 l 4 = max 0 (V 7 l 6 - 1) := (show (mu (mu (mu (mu (mu (mu V 11 l 0 (V 7 l 6)) 11 l 1 0) 11 l 2 0) 11 l 3 0) 11 l 4 0) 11 l 5 (wr ((V 11 l 5) + 0))) 11 l 4 = 0 from ((mu_ne (by first | assumption | decide | exact xs_ (by decide) | exact xc_ (by decide) | exact x31_ (by decide) | omega)).trans (mu_self _ _ _ _ _))).trans (by first | assumption | decide | exact xs_ (by decide) | exact xc_ (by decide) | exact x31_ (by decide) | omega)
    have m5 : (mu (mu (mu (mu (mu (mu V 11 l 0 (V 7 l 6)) 11 l 1 0) 11 l 2 0) 11 l 3 0) 11 l 4 0) 11 l 5 (wr ((V 11 l 5) + 0))) 11 l 5 = wr (V 11 l 5 + max 0 (V 7 l 6 - 1)) := (show (mu (mu (mu (mu (mu (mu V 11 l 0 (V 7 l 6)) 11 l 1 0) 11 l 2 0) 11 l 3 0) 11 l 4 0) 11 l 5 (wr ((V 11 l 5) + 0))) 11 l 5 = wr ((V 11 l 5) + 0) from (mu_self _ _ _ _ _)).trans (congrArg wr (by first | assumption | decide | exact xs_ (by decide) | exact xc_ (by decide) | exact x31_ (by decide) | omega))
    have m6 : (mu (mu (mu (mu (mu (mu V 11 l 0 (V 7 l 6)) 11 l 1 0) 11 l 2 0) 11 l 3 0) 11 l 4 0) 11 l 5 (wr ((V 11 l 5) + 0))) 11 l 6 = V 11 l 6 := (show (mu (mu (mu (mu (mu (mu V 11 l 0 (V 7 l 6)) 11 l 1 0) 11 l 2 0) 11 l 3 0) 11 l 4 0) 11 l 5 (wr ((V 11 l 5) + 0))) 11 l 6 = (V 11 l 6) from ((mu_ne (by first | assumption | decide | exact xs_ (by decide) | exact xc_ (by decide) | exact x31_ (by decide) | omega)).trans ((mu_ne (by first | assumption | decide | exact xs_ (by decide) | exact xc_ (by decide) | exact x31_ (by decide) | omega)).trans ((mu_ne (by first | assumption | decide | exact xs_ (by decide) | exact xc_ (by decide) | exact x31_ (by decide) | omega)).trans ((mu_ne (by first | assumption | decide | exact xs_ (by decide) | exact xc_ (by decide) | exact x31_ (by decide) | omega)).trans ((mu_ne (by first | assumption | decide | exact xs_ (by decide) | exact xc_ (by decide) | exact x31_ (by decide) | omega)).trans ((mu_ne (by first | assumption | decide | exact xs_ (by decide) | exact xc_ (by decide) | exact x31_ (by decide) | omega)).trans (rfl)))))))).trans (by first | assumption | decide | exact xs_ (by decide) | exact xc_ (by decide) | exact x31_ (by decide) | omega)
    have hV : (mu (mu (mu (mu (mu (mu V 11 l 0 (V 7 l 6)) 11 l 1 0) 11 l 2 0) 11 l 3 0) 11 l 4 0) 11 l 5 (wr ((V 11 l 5) + 0))) = (lyM V l (V 7 l 6)) := mu7 (fun c2 x y h => (mu_ne (by first | assumption | decide | exact xs_ (by decide) | exact xc_ (by decide) | exact x31_ (by decide) | omega)).trans ((mu_ne (by first | assumption | decide | exact xs_ (by decide) | exact xc_ (by decide) | exact x31_ (by decide) | omega)).trans ((mu_ne (by first | assumption | decide | exact xs_ (by decide) | exact xc_ (by decide) | exact x31_ (by decide) | omega)).trans ((mu_ne (by first | assumption | decide | exact xs_ (by decide) | exact xc_ (by decide) | exact x31_ (by decide) | omega)).trans ((mu_ne (by first | assumption | decide | exact xs_ (by decide) | exact xc_ (by decide) | exact x31_ (by decide) | omega)).trans ((mu_ne (by first | assumption | decide | exact xs_ (by decide) | exact xc_ (by decide) | exact x31_ (by decide) | omega)).trans (rfl))))))) m0 m1 m2 m3 m4 m5 m6
    have qS := Sρ12
    have qX := Xρ12
    have qF := Fρ12
    rw [hV] at qS qX qF
    have q16 : 0 = (if (lyM V l (V 7 l 6)) 11 l 3 = 0 then (0 : Int) else 1) := by rw [← hV, m3]; rfl
    have qR : RS t σ0 (lyM V l (V 7 l 6)) ρ12 := ⟨qS, qX.kf (r16_ρ12.trans q16) r17_ρ12, qF⟩
    have qL : LK (lyM V l (V 7 l 6)) l := hL.to (fun c2 x y h => lyM_ne (by first | assumption | decide | exact xs_ (by decide) | exact xc_ (by decide) | exact x31_ (by decide) | omega))
    refine y_look (V := (lyM V l (V 7 l 6))) (by first | assumption | decide | exact xs_ (by decide) | exact xc_ (by decide) | exact x31_ (by decide) | omega) ht qR (by first | assumption | decide | exact xs_ (by decide) | exact xc_ (by decide) | exact x31_ (by decide) | omega) qL (fun ρ13 Rρ13 => ?_)
    refine y_vret hK rfl dX6_layAnew_85 ?_
    exact k _ Rρ13
  · refine r_aload_n hC dX6_layAnew_52 rfl ?_
    refine r_iload_n hC dX6_layAnew_53 rfl ?_
    refine z_inv1 hM dX6_layAnew_54 vl_RX6_116 rfl rfl rfl (Nat.le_of_ble_eq_true rfl) (Nat.le_of_ble_eq_true rfl) ?_
    refine y_heldOf (by first | assumption | decide | exact xs_ (by decide) | exact xc_ (by decide) | exact x31_ (by decide) | omega) (fun o14 => ?_)
    have e15 : ρ7 31 0 (22 * l + 5) = (V 7 l 6) := (Sρ7.a7 (s := 6) (f := 5) (by first | assumption | decide | exact xs_ (by decide) | exact xc_ (by decide) | exact x31_ (by decide) | omega) (by first | assumption | decide | exact xs_ (by decide) | exact xc_ (by decide) | exact x31_ (by decide) | omega) (by first | assumption | decide | exact xs_ (by decide) | exact xc_ (by decide) | exact x31_ (by decide) | omega)).trans ((mu_ne (by first | assumption | decide | exact xs_ (by decide) | exact xc_ (by decide) | exact x31_ (by decide) | omega)).trans ((mu_ne (by first | assumption | decide | exact xs_ (by decide) | exact xc_ (by decide) | exact x31_ (by decide) | omega)).trans ((mu_ne (by first | assumption | decide | exact xs_ (by decide) | exact xc_ (by decide) | exact x31_ (by decide) | omega)).trans ((mu_ne (by first | assumption | decide | exact xs_ (by decide) | exact xc_ (by decide) | exact x31_ (by decide) | omega)).trans (rfl)))))
    rw [e15] at o14 ⊢
    have qo14 : 0 ≤ (V 7 l 6) ∧ (V 7 l 6) ≤ 121 := o14.1 (by first | assumption | decide | exact xs_ (by decide) | exact xc_ (by decide) | exact x31_ (by decide) | omega)
    refine r_iconst hC dX6_layAnew_57 rfl ?_
    refine r_isubE hC (((V 7 l 6) - 1)) dX6_layAnew_58 (by first | assumption | decide | exact xs_ (by decide) | exact xc_ (by decide) | exact x31_ (by decide) | omega) (by unfold inR; omega) ?_
    refine r_goto (tgt := 63) hC dX6_layAnew_59 rfl ?_
    refine r_istore_n hC dX6_layAnew_63 rfl ?_
    refine r_aload_n hC dX6_layAnew_64 rfl ?_
    refine r_iload_n hC dX6_layAnew_65 rfl ?_
    refine r_bipush hC dX6_layAnew_66 rfl ?_
    refine r_iload_n hC dX6_layAnew_68 rfl ?_
    refine z_inv3 hM dX6_layAnew_69 vl_RX6_173 rfl rfl rfl (Nat.le_of_ble_eq_true rfl) (Nat.le_of_ble_eq_true rfl) ?_
    refine y_set (by first | assumption | decide | exact xs_ (by decide) | exact xc_ (by decide) | exact x31_ (by decide) | omega) (by first | assumption | decide | exact xs_ (by decide) | exact xc_ (by decide) | exact x31_ (by decide) | omega) ⟨fun h => by omega, fun h => by omega⟩ ?_
    obtain ⟨ρ16, e_ρ16⟩ : ∃ zz_, zz_ = mu ρ7 31 0 ((22 * l) + 18) ((V 7 l 6) - 1) := ⟨_, rfl⟩
    rw [← e_ρ16]
    have Sρ16 : SB t σ0 (mu (mu (mu (mu (mu V 11 l 0 (V 7 l 6)) 11 l 1 0) 11 l 2 0) 11 l 3 0) 11 l 4 ((V 7 l 6) - 1)) ρ16 := by rw [e_ρ16, show ((22 * l) + 18) = 22 * l + 18 from by omega]; exact Sρ7.p11 (by first | assumption | decide | exact xs_ (by decide) | exact xc_ (by decide) | exact x31_ (by decide) | omega) (by first | assumption | decide | exact xs_ (by decide) | exact xc_ (by decide) | exact x31_ (by decide) | omega) (by first | assumption | decide | exact xs_ (by decide) | exact xc_ (by decide) | exact x31_ (by decide) | omega)
    have r16_ρ16 : ρ16 31 0 (22 * l + 16) = 0 := by rw [e_ρ16]; exact (mu_ne (by first | assumption | decide | exact xs_ (by decide) | exact xc_ (by decide) | exact x31_ (by decide) | omega)).trans r16_ρ7
    have r17_ρ16 : ρ16 31 0 (22 * l + 17) = 0 := by rw [e_ρ16]; exact (mu_ne (by first | assumption | decide | exact xs_ (by decide) | exact xc_ (by decide) | exact x31_ (by decide) | omega)).trans r17_ρ7
    have Xρ16 : KX t l (mu (mu (mu (mu (mu V 11 l 0 (V 7 l 6)) 11 l 1 0) 11 l 2 0) 11 l 3 0) 11 l 4 ((V 7 l 6) - 1)) ρ16 := (Xρ7).e (fun m a b c => by rw [e_ρ16]; exact ⟨mu_ne (by first | assumption | decide | exact xs_ (by decide) | exact xc_ (by decide) | exact x31_ (by decide) | omega), mu_ne (by first | assumption | decide | exact xs_ (by decide) | exact xc_ (by decide) | exact x31_ (by decide) | omega)⟩) (fun m c => mu_ne (by first | assumption | decide | exact xs_ (by decide) | exact xc_ (by decide) | exact x31_ (by decide) | omega))
    have Fρ16 : FB (mu (mu (mu (mu (mu V 11 l 0 (V 7 l 6)) 11 l 1 0) 11 l 2 0) 11 l 3 0) 11 l 4 ((V 7 l 6) - 1)) ρ16 := by rw [e_ρ16]; exact (Fρ7).e (fun l a b => mu_ne (by first | assumption | decide | exact xs_ (by decide) | exact xc_ (by decide) | exact x31_ (by decide) | omega)) |>.v (fun l y a b c => mu_ne (by first | assumption | decide | exact xs_ (by decide) | exact xc_ (by decide) | exact x31_ (by decide) | omega))
    refine r_aload_n hC dX6_layAnew_72 rfl ?_
    refine r_iload_n hC dX6_layAnew_73 rfl ?_
    refine r_bipush hC dX6_layAnew_74 rfl ?_
    refine r_iload_n hC dX6_layAnew_76 rfl ?_
    refine z_inv3 hM dX6_layAnew_77 vl_RX6_188 rfl rfl rfl (Nat.le_of_ble_eq_true rfl) (Nat.le_of_ble_eq_true rfl) ?_
    refine y_moreW (a := (V 11 l 5)) (by first | assumption | decide | exact xs_ (by decide) | exact xc_ (by decide) | exact x31_ (by decide) | omega) (by first | assumption | decide | exact xs_ (by decide) | exact xc_ (by decide) | exact x31_ (by decide) | omega) ⟨fun h => by omega, by omega⟩ ((Sρ16.a11 (s := 5) (f := 19) (by first | assumption | decide | exact xs_ (by decide) | exact xc_ (by decide) | exact x31_ (by decide) | omega) (by first | assumption | decide | exact xs_ (by decide) | exact xc_ (by decide) | exact x31_ (by decide) | omega) (by first | assumption | decide | exact xs_ (by decide) | exact xc_ (by decide) | exact x31_ (by decide) | omega)).trans ((mu_ne (by first | assumption | decide | exact xs_ (by decide) | exact xc_ (by decide) | exact x31_ (by decide) | omega)).trans ((mu_ne (by first | assumption | decide | exact xs_ (by decide) | exact xc_ (by decide) | exact x31_ (by decide) | omega)).trans ((mu_ne (by first | assumption | decide | exact xs_ (by decide) | exact xc_ (by decide) | exact x31_ (by decide) | omega)).trans ((mu_ne (by first | assumption | decide | exact xs_ (by decide) | exact xc_ (by decide) | exact x31_ (by decide) | omega)).trans ((mu_ne (by first | assumption | decide | exact xs_ (by decide) | exact xc_ (by decide) | exact x31_ (by decide) | omega)).trans (rfl))))))) (by first | assumption | decide | exact xs_ (by decide) | exact xc_ (by decide) | exact x31_ (by decide) | omega) ?_
    obtain ⟨ρ17, e_ρ17⟩ : ∃ zz_, zz_ = mu ρ16 31 0 ((22 * l) + 19) (wr ((V 11 l 5) + ((V 7 l 6) - 1))) := ⟨_, rfl⟩
    rw [← e_ρ17]
    have Sρ17 : SB t σ0 (mu (mu (mu (mu (mu (mu V 11 l 0 (V 7 l 6)) 11 l 1 0) 11 l 2 0) 11 l 3 0) 11 l 4 ((V 7 l 6) - 1)) 11 l 5 (wr ((V 11 l 5) + ((V 7 l 6) - 1)))) ρ17 := by rw [e_ρ17, show ((22 * l) + 19) = 22 * l + 19 from by omega]; exact Sρ16.p11 (by first | assumption | decide | exact xs_ (by decide) | exact xc_ (by decide) | exact x31_ (by decide) | omega) (by first | assumption | decide | exact xs_ (by decide) | exact xc_ (by decide) | exact x31_ (by decide) | omega) (by first | assumption | decide | exact xs_ (by decide) | exact xc_ (by decide) | exact x31_ (by decide) | omega)
    have r16_ρ17 : ρ17 31 0 (22 * l + 16) = 0 := by rw [e_ρ17]; exact (mu_ne (by first | assumption | decide | exact xs_ (by decide) | exact xc_ (by decide) | exact x31_ (by decide) | omega)).trans r16_ρ16
    have r17_ρ17 : ρ17 31 0 (22 * l + 17) = 0 := by rw [e_ρ17]; exact (mu_ne (by first | assumption | decide | exact xs_ (by decide) | exact xc_ (by decide) | exact x31_ (by decide) | omega)).trans r17_ρ16
    have Xρ17 : KX t l (mu (mu (mu (mu (mu (mu V 11 l 0 (V 7 l 6)) 11 l 1 0) 11 l 2 0) 11 l 3 0) 11 l 4 ((V 7 l 6) - 1)) 11 l 5 (wr ((V 11 l 5) + ((V 7 l 6) - 1)))) ρ17 := (Xρ16).e (fun m a b c => by rw [e_ρ17]; exact ⟨mu_ne (by first | assumption | decide | exact xs_ (by decide) | exact xc_ (by decide) | exact x31_ (by decide) | omega), mu_ne (by first | assumption | decide | exact xs_ (by decide) | exact xc_ (by decide) | exact x31_ (by decide) | omega)⟩) (fun m c => mu_ne (by first | assumption | decide | exact xs_ (by decide) | exact xc_ (by decide) | exact x31_ (by decide) | omega))
    have Fρ17 : FB (mu (mu (mu (mu (mu (mu V 11 l 0 (V 7 l 6)) 11 l 1 0) 11 l 2 0) 11 l 3 0) 11 l 4 ((V 7 l 6) - 1)) 11 l 5 (wr ((V 11 l 5) + ((V 7 l 6) - 1)))) ρ17 := by rw [e_ρ17]; exact (Fρ16).e (fun l a b => mu_ne (by first | assumption | decide | exact xs_ (by decide) | exact xc_ (by decide) | exact x31_ (by decide) | omega)) |>.v (fun l y a b c => mu_ne (by first | assumption | decide | exact xs_ (by decide) | exact xc_ (by decide) | exact x31_ (by decide) | omega))
    refine r_aload_n hC dX6_layAnew_80 rfl ?_
    refine r_iload_n hC dX6_layAnew_81 rfl ?_
    refine z_inv1 hM dX6_layAnew_82 vl_RX6_191 rfl rfl rfl (Nat.le_of_ble_eq_true rfl) (Nat.le_of_ble_eq_true rfl) ?_
    have m0 : (mu (mu (mu (mu (mu (mu V 11 l 0 (V 7 l 6)) 11 l 1 0) 11 l 2 0) 11 l 3 0) 11 l 4 ((V 7 l 6) - 1)) 11 l 5 (wr ((V 11 l 5) + ((V 7 l 6) - 1)))) 11 l 0 = V 7 l 6 := (show (mu (mu (mu (mu (mu (mu V 11 l 0 (V 7 l 6)) 11 l 1 0) 11 l 2 0) 11 l 3 0) 11 l 4 ((V 7 l 6) - 1)) 11 l 5 (wr ((V 11 l 5) + ((V 7 l 6) - 1)))) 11 l 0 = (V 7 l 6) from ((mu_ne (by first | assumption | decide | exact xs_ (by decide) | exact xc_ (by decide) | exact x31_ (by decide) | omega)).trans ((mu_ne (by first | assumption | decide | exact xs_ (by decide) | exact xc_ (by decide) | exact x31_ (by decide) | omega)).trans ((mu_ne (by first | assumption | decide | exact xs_ (by decide) | exact xc_ (by decide) | exact x31_ (by decide) | omega)).trans ((mu_ne (by first | assumption | decide | exact xs_ (by decide) | exact xc_ (by decide) | exact x31_ (by decide) | omega)).trans ((mu_ne (by first | assumption | decide | exact xs_ (by decide) | exact xc_ (by decide) | exact x31_ (by decide) | omega)).trans (mu_self _ _ _ _ _))))))).trans (by first | assumption | decide | exact xs_ (by decide) | exact xc_ (by decide) | exact x31_ (by decide) | omega)
    have m1 : (mu (mu (mu (mu (mu (mu V 11 l 0 (V 7 l 6)) 11 l 1 0) 11 l 2 0) 11 l 3 0) 11 l 4 ((V 7 l 6) - 1)) 11 l 5 (wr ((V 11 l 5) + ((V 7 l 6) - 1)))) 11 l 1 = 0 := (show (mu (mu (mu (mu (mu (mu V 11 l 0 (V 7 l 6)) 11 l 1 0) 11 l 2 0) 11 l 3 0) 11 l 4 ((V 7 l 6) - 1)) 11 l 5 (wr ((V 11 l 5) + ((V 7 l 6) - 1)))) 11 l 1 = 0 from ((mu_ne (by first | assumption | decide | exact xs_ (by decide) | exact xc_ (by decide) | exact x31_ (by decide) | omega)).trans ((mu_ne (by first | assumption | decide | exact xs_ (by decide) | exact xc_ (by decide) | exact x31_ (by decide) | omega)).trans ((mu_ne (by first | assumption | decide | exact xs_ (by decide) | exact xc_ (by decide) | exact x31_ (by decide) | omega)).trans ((mu_ne (by first | assumption | decide | exact xs_ (by decide) | exact xc_ (by decide) | exact x31_ (by decide) | omega)).trans (mu_self _ _ _ _ _)))))).trans (by first | assumption | decide | exact xs_ (by decide) | exact xc_ (by decide) | exact x31_ (by decide) | omega)
    have m2 : (mu (mu (mu (mu (mu (mu V 11 l 0 (V 7 l 6)) 11 l 1 0) 11 l 2 0) 11 l 3 0) 11 l 4 ((V 7 l 6) - 1)) 11 l 5 (wr ((V 11 l 5) + ((V 7 l 6) - 1)))) 11 l 2 = 0 := (show (mu (mu (mu (mu (mu (mu V 11 l 0 (V 7 l 6)) 11 l 1 0) 11 l 2 0) 11 l 3 0) 11 l 4 ((V 7 l 6) - 1)) 11 l 5 (wr ((V 11 l 5) + ((V 7 l 6) - 1)))) 11 l 2 = 0 from ((mu_ne (by first | assumption | decide | exact xs_ (by decide) | exact xc_ (by decide) | exact x31_ (by decide) | omega)).trans ((mu_ne (by first | assumption | decide | exact xs_ (by decide) | exact xc_ (by decide) | exact x31_ (by decide) | omega)).trans ((mu_ne (by first | assumption | decide | exact xs_ (by decide) | exact xc_ (by decide) | exact x31_ (by decide) | omega)).trans (mu_self _ _ _ _ _))))).trans (by first | assumption | decide | exact xs_ (by decide) | exact xc_ (by decide) | exact x31_ (by decide) | omega)
    have m3 : (mu (mu (mu (mu (mu (mu V 11 l 0 (V 7 l 6)) 11 l 1 0) 11 l 2 0) 11 l 3 0) 11 l 4 ((V 7 l 6) - 1)) 11 l 5 (wr ((V 11 l 5) + ((V 7 l 6) - 1)))) 11 l 3 = 0 := (show (mu (mu (mu (mu (mu (mu V 11 l 0 (V 7 l 6)) 11 l 1 0) 11 l 2 0) 11 l 3 0) 11 l 4 ((V 7 l 6) - 1)) 11 l 5 (wr ((V 11 l 5) + ((V 7 l 6) - 1)))) 11 l 3 = 0 from ((mu_ne (by first | assumption | decide | exact xs_ (by decide) | exact xc_ (by decide) | exact x31_ (by decide) | omega)).trans ((mu_ne (by first | assumption | decide | exact xs_ (by decide) | exact xc_ (by decide) | exact x31_ (by decide) | omega)).trans (mu_self _ _ _ _ _)))).trans (by first | assumption | decide | exact xs_ (by decide) | exact xc_ (by decide) | exact x31_ (by decide) | omega)
    have m4 : (mu (mu (mu (mu (mu (mu V 11 l 0 (V 7 l 6)) 11 l 1 0) 11 l 2 0) 11 l 3 0) 11 l 4 ((V 7 l 6) - 1)) 11 l 5 (wr ((V 11 l 5) + ((V 7 l 6) - 1)))) 11 l 4 = max 0 (V 7 l 6 - 1) := (show (mu (mu (mu (mu (mu (mu V 11 l 0 (V 7 l 6)) 11 l 1 0) 11 l 2 0) 11 l 3 0) 11 l 4 ((V 7 l 6) - 1)) 11 l 5 (wr ((V 11 l 5) + ((V 7 l 6) - 1)))) 11 l 4 = ((V 7 l 6) - 1) from ((mu_ne (by first | assumption | decide | exact xs_ (by decide) | exact xc_ (by decide) | exact x31_ (by decide) | omega)).trans (mu_self _ _ _ _ _))).trans (by first | assumption | decide | exact xs_ (by decide) | exact xc_ (by decide) | exact x31_ (by decide) | omega)
    have m5 : (mu (mu (mu (mu (mu (mu V 11 l 0 (V 7 l 6)) 11 l 1 0) 11 l 2 0) 11 l 3 0) 11 l 4 ((V 7 l 6) - 1)) 11 l 5 (wr ((V 11 l 5) + ((V 7 l 6) - 1)))) 11 l 5 = wr (V 11 l 5 + max 0 (V 7 l 6 - 1)) := (show (mu (mu (mu (mu (mu (mu V 11 l 0 (V 7 l 6)) 11 l 1 0) 11 l 2 0) 11 l 3 0) 11 l 4 ((V 7 l 6) - 1)) 11 l 5 (wr ((V 11 l 5) + ((V 7 l 6) - 1)))) 11 l 5 = wr ((V 11 l 5) + ((V 7 l 6) - 1)) from (mu_self _ _ _ _ _)).trans (congrArg wr (by first | assumption | decide | exact xs_ (by decide) | exact xc_ (by decide) | exact x31_ (by decide) | omega))
    have m6 : (mu (mu (mu (mu (mu (mu V 11 l 0 (V 7 l 6)) 11 l 1 0) 11 l 2 0) 11 l 3 0) 11 l 4 ((V 7 l 6) - 1)) 11 l 5 (wr ((V 11 l 5) + ((V 7 l 6) - 1)))) 11 l 6 = V 11 l 6 := (show (mu (mu (mu (mu (mu (mu V 11 l 0 (V 7 l 6)) 11 l 1 0) 11 l 2 0) 11 l 3 0) 11 l 4 ((V 7 l 6) - 1)) 11 l 5 (wr ((V 11 l 5) + ((V 7 l 6) - 1)))) 11 l 6 = (V 11 l 6) from ((mu_ne (by first | assumption | decide | exact xs_ (by decide) | exact xc_ (by decide) | exact x31_ (by decide) | omega)).trans ((mu_ne (by first | assumption | decide | exact xs_ (by decide) | exact xc_ (by decide) | exact x31_ (by decide) | omega)).trans ((mu_ne (by first | assumption | decide | exact xs_ (by decide) | exact xc_ (by decide) | exact x31_ (by decide) | omega)).trans ((mu_ne (by first | assumption | decide | exact xs_ (by decide) | exact xc_ (by decide) | exact x31_ (by decide) | omega)).trans ((mu_ne (by first | assumption | decide | exact xs_ (by decide) | exact xc_ (by decide) | exact x31_ (by decide) | omega)).trans ((mu_ne (by first | assumption | decide | exact xs_ (by decide) | exact xc_ (by decide) | exact x31_ (by decide) | omega)).trans (rfl)))))))).trans (by first | assumption | decide | exact xs_ (by decide) | exact xc_ (by decide) | exact x31_ (by decide) | omega)
    have hV : (mu (mu (mu (mu (mu (mu V 11 l 0 (V 7 l 6)) 11 l 1 0) 11 l 2 0) 11 l 3 0) 11 l 4 ((V 7 l 6) - 1)) 11 l 5 (wr ((V 11 l 5) + ((V 7 l 6) - 1)))) = (lyM V l (V 7 l 6)) := mu7 (fun c2 x y h => (mu_ne (by first | assumption | decide | exact xs_ (by decide) | exact xc_ (by decide) | exact x31_ (by decide) | omega)).trans ((mu_ne (by first | assumption | decide | exact xs_ (by decide) | exact xc_ (by decide) | exact x31_ (by decide) | omega)).trans ((mu_ne (by first | assumption | decide | exact xs_ (by decide) | exact xc_ (by decide) | exact x31_ (by decide) | omega)).trans ((mu_ne (by first | assumption | decide | exact xs_ (by decide) | exact xc_ (by decide) | exact x31_ (by decide) | omega)).trans ((mu_ne (by first | assumption | decide | exact xs_ (by decide) | exact xc_ (by decide) | exact x31_ (by decide) | omega)).trans ((mu_ne (by first | assumption | decide | exact xs_ (by decide) | exact xc_ (by decide) | exact x31_ (by decide) | omega)).trans (rfl))))))) m0 m1 m2 m3 m4 m5 m6
    have qS := Sρ17
    have qX := Xρ17
    have qF := Fρ17
    rw [hV] at qS qX qF
    have q16 : 0 = (if (lyM V l (V 7 l 6)) 11 l 3 = 0 then (0 : Int) else 1) := by rw [← hV, m3]; rfl
    have qR : RS t σ0 (lyM V l (V 7 l 6)) ρ17 := ⟨qS, qX.kf (r16_ρ17.trans q16) r17_ρ17, qF⟩
    have qL : LK (lyM V l (V 7 l 6)) l := hL.to (fun c2 x y h => lyM_ne (by first | assumption | decide | exact xs_ (by decide) | exact xc_ (by decide) | exact x31_ (by decide) | omega))
    refine y_look (V := (lyM V l (V 7 l 6))) (by first | assumption | decide | exact xs_ (by decide) | exact xc_ (by decide) | exact x31_ (by decide) | omega) ht qR (by first | assumption | decide | exact xs_ (by decide) | exact xc_ (by decide) | exact x31_ (by decide) | omega) qL (fun ρ18 Rρ18 => ?_)
    refine y_vret hK rfl dX6_layAnew_85 ?_
    exact k _ Rρ18
theorem y_layAnew {eb : Bool} {t : Int} {V : Mm} {d : Nat} {P : Option Vl → Mm → Prop} {σ : Mm} {l : Int} {σ0 : Mm} (b_l : 0 ≤ l ∧ l ≤ 7) (ht : 6 ≤ t ∧ t ≤ 7) (hR : RS t σ0 V σ) (hl : l ≤ t) (hL : LK V l) (k : ∀ ρ : Mm, RS t σ0 (rgM (lyM V l (V 7 l 6)) l) ρ → P none ρ) : WT (true, eb, true) (d + 7) 179 [vR 30 0, vI l] σ P := y_layAnewX b_l ht hR.1 (hR.2.1.kx l) hR.2.2 hl hL (hR.2.1 l b_l.1 hl).1 (hR.2.1 l b_l.1 hl).2 k
theorem LK_6 {V W : Mm} {l : Int} (h : LK V l) (h6 : 0 ≤ W 7 l 6 ∧ W 7 l 6 ≤ 121) (h9 : ∀ j : Int, 0 ≤ j → j ≤ 120 → -1000 ≤ W 9 l j ∧ W 9 l j ≤ 1000) (e : ∀ (c : Nat) (x y : Int), (c = 7 ∧ x = l ∧ y = 2) ∨ c = 15 ∨ (c = 12 ∧ (y = 0 ∨ y = 1 ∨ y = 3)) → W c x y = V c x y) : LK W l := by
  obtain ⟨q1, q2, q3, q4, q5, q6⟩ := h
  refine ⟨?_, h6, h9, fun j a b => ?_, fun w a b c => ?_, fun w a b => ?_⟩
  · rw [e _ _ _ (by first | assumption | decide | exact xs_ (by decide) | exact xc_ (by decide) | exact x31_ (by decide) | omega)]; exact q1
  · rw [e _ _ _ (by first | assumption | decide | exact xs_ (by decide) | exact xc_ (by decide) | exact x31_ (by decide) | omega)]; exact q4 j a b
  · rw [e _ _ _ (by first | assumption | decide | exact xs_ (by decide) | exact xc_ (by decide) | exact x31_ (by decide) | omega)] at c
    rw [e _ _ _ (by first | assumption | decide | exact xs_ (by decide) | exact xc_ (by decide) | exact x31_ (by decide) | omega), e _ _ _ (by first | assumption | decide | exact xs_ (by decide) | exact xc_ (by decide) | exact x31_ (by decide) | omega)]; exact q5 w a b c
  · rw [e _ _ _ (by first | assumption | decide | exact xs_ (by decide) | exact xc_ (by decide) | exact x31_ (by decide) | omega)]; exact q6 w a b
theorem sd_9 {V : Mm} {l a h : Int} (q : ∀ j : Int, 0 ≤ j → j ≤ 120 → -1000 ≤ V 9 l j ∧ V 9 l j ≤ 1000) (hh : h ≤ 120) (j : Int) (j0 : 0 ≤ j) (j1 : j ≤ 120) : -1000 ≤ sdM V l a h 9 l j ∧ sdM V l a h 9 l j ≤ 1000 := by
  by_cases e : a ≤ j ∧ j < h
  · rw [sdM_in ⟨rfl, by omega, e⟩]; exact q _ (by first | assumption | decide | exact xs_ (by decide) | exact xc_ (by decide) | exact x31_ (by decide) | omega) (by first | assumption | decide | exact xs_ (by decide) | exact xc_ (by decide) | exact x31_ (by decide) | omega)
  · rw [sdM_ne (fun z => e z.2.2)]; exact q j j0 j1
theorem su_9 {V : Mm} {l a h : Int} (q : ∀ j : Int, 0 ≤ j → j ≤ 120 → -1000 ≤ V 9 l j ∧ V 9 l j ≤ 1000) (ha : 0 ≤ a) (j : Int) (j0 : 0 ≤ j) (j1 : j ≤ 120) : -1000 ≤ suM V l a h 9 l j ∧ suM V l a h 9 l j ≤ 1000 := by
  by_cases e : a < j ∧ j ≤ h
  · rw [suM_in ⟨rfl, by omega, e⟩]; exact q _ (by first | assumption | decide | exact xs_ (by decide) | exact xc_ (by decide) | exact x31_ (by decide) | omega) (by first | assumption | decide | exact xs_ (by decide) | exact xc_ (by decide) | exact x31_ (by decide) | omega)
  · rw [suM_ne (fun z => e z.2.2)]; exact q j j0 j1
theorem y_drop {eb : Bool} {t : Int} {V : Mm} {d : Nat} {P : Option Vl → Mm → Prop} {σ : Mm} {l : Int} (b_l : 0 ≤ l ∧ l ≤ 7) {σ0 : Mm} (ht : 6 ≤ t ∧ t ≤ 7) (hR : RS t σ0 V σ) (hl : l ≤ t) (hL : LK V l) (hF : FI (V 11 l) (V 7 l 6)) (h1 : 1 ≤ V 7 l 6)  (k : ∀ ρ : Mm, RS t σ0 (dpM V l) ρ → P none ρ) : WT (true, eb, true) (d + 8) 192 [vR 30 0, vI l] σ P := by
  refine WT_in fun K hK => ?_
  have hK : StpY (true, eb, true) cX6_drop RX6 (none) (WT (true, eb, true) (d + 7)) P K := hK
  have hM := hK.1
  have hC := hK.1.1
  show K 0 [some (vR 30 0), some (vI l)] [] σ
  have hop := hL.1
  have h6 := hL.2.1
  have hB := FIK hF (by first | assumption | decide | exact xs_ (by decide) | exact xc_ (by decide) | exact x31_ (by decide) | omega)
  have hFI := hF
  unfold FI at hFI
  refine r_aload_n hC dX6_drop_0 rfl ?_
  refine r_iload_n hC dX6_drop_1 rfl ?_
  refine r_iconst hC dX6_drop_2 rfl ?_
  refine r_iconst hC dX6_drop_3 rfl ?_
  refine z_inv3 hM dX6_drop_4 vl_RX6_217 rfl rfl rfl (Nat.le_of_ble_eq_true rfl) (Nat.le_of_ble_eq_true rfl) ?_
  have z6_4 : V 7 l 6 = (V 7 l 6) := (rfl)
  refine y_shiftDn (V := V) (by first | assumption | decide | exact xs_ (by decide) | exact xc_ (by decide) | exact x31_ (by decide) | omega) (by first | assumption | decide | exact xs_ (by decide) | exact xc_ (by decide) | exact x31_ (by decide) | omega) ht ⟨hR.1, hR.2.1, hR.2.2⟩ (by first | assumption | decide | exact xs_ (by decide) | exact xc_ (by decide) | exact x31_ (by decide) | omega) (by first | assumption | decide | exact xs_ (by decide) | exact xc_ (by decide) | exact x31_ (by decide) | omega) (by first | assumption | decide | exact xs_ (by decide) | exact xc_ (by decide) | exact x31_ (by decide) | omega) (fun ρ1 Rρ1 => ?_)
  have k16 : ρ1 31 0 (22 * l + 16) = (if V 11 l 3 = 0 then 0 else 1) := ((Rρ1.2.1 l (by first | assumption | decide | exact xs_ (by decide) | exact xc_ (by decide) | exact x31_ (by decide) | omega) (by first | assumption | decide | exact xs_ (by decide) | exact xc_ (by decide) | exact x31_ (by decide) | omega)).1).trans (by rw [sdM_ne (by first | assumption | decide | exact xs_ (by decide) | exact xc_ (by decide) | exact x31_ (by decide) | omega)])
  have k17 : ρ1 31 0 (22 * l + 17) = 0 := (Rρ1.2.1 l (by first | assumption | decide | exact xs_ (by decide) | exact xc_ (by decide) | exact x31_ (by decide) | omega) (by first | assumption | decide | exact xs_ (by decide) | exact xc_ (by decide) | exact x31_ (by decide) | omega)).2
  have kxx : KX t l (sdM V l 0 (V 7 l 6 - 1)) ρ1 := (Rρ1.2.1).kx l
  obtain ⟨fl, hfl⟩ : ∃ fl : Int, fl = (if V 11 l 3 = 0 then 0 else 1) := ⟨_, rfl⟩
  rw [← hfl] at k16
  have hfl2 : (fl = 0 ∧ V 11 l 3 = 0) ∨ (fl = 1 ∧ V 11 l 3 ≠ 0) := by rw [hfl]; split <;> omega
  refine r_aload_n hC dX6_drop_7 rfl ?_
  refine r_iload_n hC dX6_drop_8 rfl ?_
  refine r_iconst hC dX6_drop_9 rfl ?_
  refine r_iconst hC dX6_drop_10 rfl ?_
  refine z_inv3 hM dX6_drop_11 vl_RX6_188 rfl rfl rfl (Nat.le_of_ble_eq_true rfl) (Nat.le_of_ble_eq_true rfl) ?_
  refine y_moreE (a := (V 7 l 6)) (by first | assumption | decide | exact xs_ (by decide) | exact xc_ (by decide) | exact x31_ (by decide) | omega) (by first | assumption | decide | exact xs_ (by decide) | exact xc_ (by decide) | exact x31_ (by decide) | omega) (by first | assumption | decide | exact xs_ (by decide) | exact xc_ (by decide) | exact x31_ (by decide) | omega) ⟨fun h => by omega, by omega⟩ ((Rρ1.1.a7 (s := 6) (f := 5) (by first | assumption | decide | exact xs_ (by decide) | exact xc_ (by decide) | exact x31_ (by decide) | omega) (by first | assumption | decide | exact xs_ (by decide) | exact xc_ (by decide) | exact x31_ (by decide) | omega) (by first | assumption | decide | exact xs_ (by decide) | exact xc_ (by decide) | exact x31_ (by decide) | omega)).trans ((sdM_ne (by first | assumption | decide | exact xs_ (by decide) | exact xc_ (by decide) | exact x31_ (by decide) | omega)).trans (rfl))) (by first | assumption | decide | exact xs_ (by decide) | exact xc_ (by decide) | exact x31_ (by decide) | omega) ?_
  rw [show (V 7 l 6) + (-1) = ((V 7 l 6) - 1) from by omega]
  obtain ⟨ρ2, e_ρ2⟩ : ∃ zz_, zz_ = mu ρ1 31 0 ((22 * l) + 5) ((V 7 l 6) - 1) := ⟨_, rfl⟩
  rw [← e_ρ2]
  have Sρ2 : SB t σ0 (mu (sdM V l 0 (V 7 l 6 - 1)) 7 l 6 ((V 7 l 6) - 1)) ρ2 := by rw [e_ρ2, show ((22 * l) + 5) = 22 * l + 5 from by omega]; exact Rρ1.1.p7 (by first | assumption | decide | exact xs_ (by decide) | exact xc_ (by decide) | exact x31_ (by decide) | omega) (by first | assumption | decide | exact xs_ (by decide) | exact xc_ (by decide) | exact x31_ (by decide) | omega) (by first | assumption | decide | exact xs_ (by decide) | exact xc_ (by decide) | exact x31_ (by decide) | omega)
  have r16_ρ2 : ρ2 31 0 (22 * l + 16) = fl := by rw [e_ρ2]; exact (mu_ne (by first | assumption | decide | exact xs_ (by decide) | exact xc_ (by decide) | exact x31_ (by decide) | omega)).trans k16
  have r17_ρ2 : ρ2 31 0 (22 * l + 17) = 0 := by rw [e_ρ2]; exact (mu_ne (by first | assumption | decide | exact xs_ (by decide) | exact xc_ (by decide) | exact x31_ (by decide) | omega)).trans k17
  have Xρ2 : KX t l (mu (sdM V l 0 (V 7 l 6 - 1)) 7 l 6 ((V 7 l 6) - 1)) ρ2 := (kxx).e (fun m a b c => by rw [e_ρ2]; exact ⟨mu_ne (by first | assumption | decide | exact xs_ (by decide) | exact xc_ (by decide) | exact x31_ (by decide) | omega), mu_ne (by first | assumption | decide | exact xs_ (by decide) | exact xc_ (by decide) | exact x31_ (by decide) | omega)⟩) (fun m c => mu_ne (by first | assumption | decide | exact xs_ (by decide) | exact xc_ (by decide) | exact x31_ (by decide) | omega))
  have Fρ2 : FB (mu (sdM V l 0 (V 7 l 6 - 1)) 7 l 6 ((V 7 l 6) - 1)) ρ2 := by rw [e_ρ2]; exact (Rρ1.2.2).e (fun l a b => mu_ne (by first | assumption | decide | exact xs_ (by decide) | exact xc_ (by decide) | exact x31_ (by decide) | omega)) |>.v (fun l y a b c => mu_ne (by first | assumption | decide | exact xs_ (by decide) | exact xc_ (by decide) | exact x31_ (by decide) | omega))
  refine r_aload_n hC dX6_drop_14 rfl ?_
  refine r_iload_n hC dX6_drop_15 rfl ?_
  refine r_bipush hC dX6_drop_16 rfl ?_
  refine r_iconst hC dX6_drop_18 rfl ?_
  refine z_inv3 hM dX6_drop_19 vl_RX6_188 rfl rfl rfl (Nat.le_of_ble_eq_true rfl) (Nat.le_of_ble_eq_true rfl) ?_
  refine y_moreW (a := (V 7 l 13)) (by first | assumption | decide | exact xs_ (by decide) | exact xc_ (by decide) | exact x31_ (by decide) | omega) (by first | assumption | decide | exact xs_ (by decide) | exact xc_ (by decide) | exact x31_ (by decide) | omega) ⟨fun h => by omega, by omega⟩ ((Sρ2.a7 (s := 13) (f := 9) (by first | assumption | decide | exact xs_ (by decide) | exact xc_ (by decide) | exact x31_ (by decide) | omega) (by first | assumption | decide | exact xs_ (by decide) | exact xc_ (by decide) | exact x31_ (by decide) | omega) (by first | assumption | decide | exact xs_ (by decide) | exact xc_ (by decide) | exact x31_ (by decide) | omega)).trans ((mu_ne (by first | assumption | decide | exact xs_ (by decide) | exact xc_ (by decide) | exact x31_ (by decide) | omega)).trans ((sdM_ne (by first | assumption | decide | exact xs_ (by decide) | exact xc_ (by decide) | exact x31_ (by decide) | omega)).trans (rfl)))) (by first | assumption | decide | exact xs_ (by decide) | exact xc_ (by decide) | exact x31_ (by decide) | omega) ?_
  obtain ⟨ρ3, e_ρ3⟩ : ∃ zz_, zz_ = mu ρ2 31 0 ((22 * l) + 9) (wr ((V 7 l 13) + 1)) := ⟨_, rfl⟩
  rw [← e_ρ3]
  have Sρ3 : SB t σ0 (mu (mu (sdM V l 0 (V 7 l 6 - 1)) 7 l 6 ((V 7 l 6) - 1)) 7 l 13 (wr ((V 7 l 13) + 1))) ρ3 := by rw [e_ρ3, show ((22 * l) + 9) = 22 * l + 9 from by omega]; exact Sρ2.p7 (by first | assumption | decide | exact xs_ (by decide) | exact xc_ (by decide) | exact x31_ (by decide) | omega) (by first | assumption | decide | exact xs_ (by decide) | exact xc_ (by decide) | exact x31_ (by decide) | omega) (by first | assumption | decide | exact xs_ (by decide) | exact xc_ (by decide) | exact x31_ (by decide) | omega)
  have r16_ρ3 : ρ3 31 0 (22 * l + 16) = fl := by rw [e_ρ3]; exact (mu_ne (by first | assumption | decide | exact xs_ (by decide) | exact xc_ (by decide) | exact x31_ (by decide) | omega)).trans r16_ρ2
  have r17_ρ3 : ρ3 31 0 (22 * l + 17) = 0 := by rw [e_ρ3]; exact (mu_ne (by first | assumption | decide | exact xs_ (by decide) | exact xc_ (by decide) | exact x31_ (by decide) | omega)).trans r17_ρ2
  have Xρ3 : KX t l (mu (mu (sdM V l 0 (V 7 l 6 - 1)) 7 l 6 ((V 7 l 6) - 1)) 7 l 13 (wr ((V 7 l 13) + 1))) ρ3 := (Xρ2).e (fun m a b c => by rw [e_ρ3]; exact ⟨mu_ne (by first | assumption | decide | exact xs_ (by decide) | exact xc_ (by decide) | exact x31_ (by decide) | omega), mu_ne (by first | assumption | decide | exact xs_ (by decide) | exact xc_ (by decide) | exact x31_ (by decide) | omega)⟩) (fun m c => mu_ne (by first | assumption | decide | exact xs_ (by decide) | exact xc_ (by decide) | exact x31_ (by decide) | omega))
  have Fρ3 : FB (mu (mu (sdM V l 0 (V 7 l 6 - 1)) 7 l 6 ((V 7 l 6) - 1)) 7 l 13 (wr ((V 7 l 13) + 1))) ρ3 := by rw [e_ρ3]; exact (Fρ2).e (fun l a b => mu_ne (by first | assumption | decide | exact xs_ (by decide) | exact xc_ (by decide) | exact x31_ (by decide) | omega)) |>.v (fun l y a b c => mu_ne (by first | assumption | decide | exact xs_ (by decide) | exact xc_ (by decide) | exact x31_ (by decide) | omega))
  refine r_aload_n hC dX6_drop_22 rfl ?_
  refine r_iload_n hC dX6_drop_23 rfl ?_
  refine r_bipush hC dX6_drop_24 rfl ?_
  refine r_iconst hC dX6_drop_26 rfl ?_
  refine z_inv3 hM dX6_drop_27 vl_RX6_188 rfl rfl rfl (Nat.le_of_ble_eq_true rfl) (Nat.le_of_ble_eq_true rfl) ?_
  refine y_moreE (a := (V 11 l 0)) (by first | assumption | decide | exact xs_ (by decide) | exact xc_ (by decide) | exact x31_ (by decide) | omega) (by first | assumption | decide | exact xs_ (by decide) | exact xc_ (by decide) | exact x31_ (by decide) | omega) (by first | assumption | decide | exact xs_ (by decide) | exact xc_ (by decide) | exact x31_ (by decide) | omega) ⟨fun h => by omega, by omega⟩ ((Sρ3.a11 (s := 0) (f := 12) (by first | assumption | decide | exact xs_ (by decide) | exact xc_ (by decide) | exact x31_ (by decide) | omega) (by first | assumption | decide | exact xs_ (by decide) | exact xc_ (by decide) | exact x31_ (by decide) | omega) (by first | assumption | decide | exact xs_ (by decide) | exact xc_ (by decide) | exact x31_ (by decide) | omega)).trans ((mu_ne (by first | assumption | decide | exact xs_ (by decide) | exact xc_ (by decide) | exact x31_ (by decide) | omega)).trans ((mu_ne (by first | assumption | decide | exact xs_ (by decide) | exact xc_ (by decide) | exact x31_ (by decide) | omega)).trans ((sdM_ne (by first | assumption | decide | exact xs_ (by decide) | exact xc_ (by decide) | exact x31_ (by decide) | omega)).trans (rfl))))) (by first | assumption | decide | exact xs_ (by decide) | exact xc_ (by decide) | exact x31_ (by decide) | omega) ?_
  rw [show (V 11 l 0) + (-1) = ((V 11 l 0) - 1) from by omega]
  obtain ⟨ρ4, e_ρ4⟩ : ∃ zz_, zz_ = mu ρ3 31 0 ((22 * l) + 12) ((V 11 l 0) - 1) := ⟨_, rfl⟩
  rw [← e_ρ4]
  have Sρ4 : SB t σ0 (mu (mu (mu (sdM V l 0 (V 7 l 6 - 1)) 7 l 6 ((V 7 l 6) - 1)) 7 l 13 (wr ((V 7 l 13) + 1))) 11 l 0 ((V 11 l 0) - 1)) ρ4 := by rw [e_ρ4, show ((22 * l) + 12) = 22 * l + 12 from by omega]; exact Sρ3.p11 (by first | assumption | decide | exact xs_ (by decide) | exact xc_ (by decide) | exact x31_ (by decide) | omega) (by first | assumption | decide | exact xs_ (by decide) | exact xc_ (by decide) | exact x31_ (by decide) | omega) (by first | assumption | decide | exact xs_ (by decide) | exact xc_ (by decide) | exact x31_ (by decide) | omega)
  have r16_ρ4 : ρ4 31 0 (22 * l + 16) = fl := by rw [e_ρ4]; exact (mu_ne (by first | assumption | decide | exact xs_ (by decide) | exact xc_ (by decide) | exact x31_ (by decide) | omega)).trans r16_ρ3
  have r17_ρ4 : ρ4 31 0 (22 * l + 17) = 0 := by rw [e_ρ4]; exact (mu_ne (by first | assumption | decide | exact xs_ (by decide) | exact xc_ (by decide) | exact x31_ (by decide) | omega)).trans r17_ρ3
  have Xρ4 : KX t l (mu (mu (mu (sdM V l 0 (V 7 l 6 - 1)) 7 l 6 ((V 7 l 6) - 1)) 7 l 13 (wr ((V 7 l 13) + 1))) 11 l 0 ((V 11 l 0) - 1)) ρ4 := (Xρ3).e (fun m a b c => by rw [e_ρ4]; exact ⟨mu_ne (by first | assumption | decide | exact xs_ (by decide) | exact xc_ (by decide) | exact x31_ (by decide) | omega), mu_ne (by first | assumption | decide | exact xs_ (by decide) | exact xc_ (by decide) | exact x31_ (by decide) | omega)⟩) (fun m c => mu_ne (by first | assumption | decide | exact xs_ (by decide) | exact xc_ (by decide) | exact x31_ (by decide) | omega))
  have Fρ4 : FB (mu (mu (mu (sdM V l 0 (V 7 l 6 - 1)) 7 l 6 ((V 7 l 6) - 1)) 7 l 13 (wr ((V 7 l 13) + 1))) 11 l 0 ((V 11 l 0) - 1)) ρ4 := by rw [e_ρ4]; exact (Fρ3).e (fun l a b => mu_ne (by first | assumption | decide | exact xs_ (by decide) | exact xc_ (by decide) | exact x31_ (by decide) | omega)) |>.v (fun l y a b c => mu_ne (by first | assumption | decide | exact xs_ (by decide) | exact xc_ (by decide) | exact x31_ (by decide) | omega))
  refine r_aload_n hC dX6_drop_30 rfl ?_
  refine r_iload_n hC dX6_drop_31 rfl ?_
  refine r_bipush hC dX6_drop_32 rfl ?_
  refine z_inv2 hM dX6_drop_34 vl_RX6_80 rfl rfl rfl (Nat.le_of_ble_eq_true rfl) (Nat.le_of_ble_eq_true rfl) ?_
  refine y_of (by first | assumption | decide | exact xs_ (by decide) | exact xc_ (by decide) | exact x31_ (by decide) | omega) (by first | assumption | decide | exact xs_ (by decide) | exact xc_ (by decide) | exact x31_ (by decide) | omega) (by first | assumption | decide | exact xs_ (by decide) | exact xc_ (by decide) | exact x31_ (by decide) | omega) (fun o5 => ?_)
  rw [r16_ρ4]
  refine r_iconst hC dX6_drop_37 rfl ?_
  refine r_icmp_ne (tgt := 49) hC dX6_drop_38 rfl (fun h6 => ?_) (fun h6 => ?_)
  · refine r_aload_n hC dX6_drop_49 rfl ?_
    refine r_iload_n hC dX6_drop_50 rfl ?_
    refine r_iconst hC dX6_drop_51 rfl ?_
    refine z_inv2 hM dX6_drop_52 vl_RX6_221 rfl rfl rfl (Nat.le_of_ble_eq_true rfl) (Nat.le_of_ble_eq_true rfl) ?_
    have z0 : (mu (mu (mu (sdM V l 0 (V 7 l 6 - 1)) 7 l 6 ((V 7 l 6) - 1)) 7 l 13 (wr ((V 7 l 13) + 1))) 11 l 0 ((V 11 l 0) - 1)) 11 l 0 = ((V 11 l 0) - 1) := (mu_self _ _ _ _ _)
    have z1 : (mu (mu (mu (sdM V l 0 (V 7 l 6 - 1)) 7 l 6 ((V 7 l 6) - 1)) 7 l 13 (wr ((V 7 l 13) + 1))) 11 l 0 ((V 11 l 0) - 1)) 11 l 1 = (V 11 l 1) := ((mu_ne (by first | assumption | decide | exact xs_ (by decide) | exact xc_ (by decide) | exact x31_ (by decide) | omega)).trans ((mu_ne (by first | assumption | decide | exact xs_ (by decide) | exact xc_ (by decide) | exact x31_ (by decide) | omega)).trans ((mu_ne (by first | assumption | decide | exact xs_ (by decide) | exact xc_ (by decide) | exact x31_ (by decide) | omega)).trans ((sdM_ne (by first | assumption | decide | exact xs_ (by decide) | exact xc_ (by decide) | exact x31_ (by decide) | omega)).trans (rfl)))))
    have z2 : (mu (mu (mu (sdM V l 0 (V 7 l 6 - 1)) 7 l 6 ((V 7 l 6) - 1)) 7 l 13 (wr ((V 7 l 13) + 1))) 11 l 0 ((V 11 l 0) - 1)) 11 l 2 = (V 11 l 2) := ((mu_ne (by first | assumption | decide | exact xs_ (by decide) | exact xc_ (by decide) | exact x31_ (by decide) | omega)).trans ((mu_ne (by first | assumption | decide | exact xs_ (by decide) | exact xc_ (by decide) | exact x31_ (by decide) | omega)).trans ((mu_ne (by first | assumption | decide | exact xs_ (by decide) | exact xc_ (by decide) | exact x31_ (by decide) | omega)).trans ((sdM_ne (by first | assumption | decide | exact xs_ (by decide) | exact xc_ (by decide) | exact x31_ (by decide) | omega)).trans (rfl)))))
    have z3 : (mu (mu (mu (sdM V l 0 (V 7 l 6 - 1)) 7 l 6 ((V 7 l 6) - 1)) 7 l 13 (wr ((V 7 l 13) + 1))) 11 l 0 ((V 11 l 0) - 1)) 11 l 3 = (V 11 l 3) := ((mu_ne (by first | assumption | decide | exact xs_ (by decide) | exact xc_ (by decide) | exact x31_ (by decide) | omega)).trans ((mu_ne (by first | assumption | decide | exact xs_ (by decide) | exact xc_ (by decide) | exact x31_ (by decide) | omega)).trans ((mu_ne (by first | assumption | decide | exact xs_ (by decide) | exact xc_ (by decide) | exact x31_ (by decide) | omega)).trans ((sdM_ne (by first | assumption | decide | exact xs_ (by decide) | exact xc_ (by decide) | exact x31_ (by decide) | omega)).trans (rfl)))))
    have qL : LK (mu (mu (mu (sdM V l 0 (V 7 l 6 - 1)) 7 l 6 ((V 7 l 6) - 1)) 7 l 13 (wr ((V 7 l 13) + 1))) 11 l 0 ((V 11 l 0) - 1)) l := LK_6 hL (by rw [show (mu (mu (mu (sdM V l 0 (V 7 l 6 - 1)) 7 l 6 ((V 7 l 6) - 1)) 7 l 13 (wr ((V 7 l 13) + 1))) 11 l 0 ((V 11 l 0) - 1)) 7 l 6 = ((V 7 l 6) - 1) from ((mu_ne (by first | assumption | decide | exact xs_ (by decide) | exact xc_ (by decide) | exact x31_ (by decide) | omega)).trans ((mu_ne (by first | assumption | decide | exact xs_ (by decide) | exact xc_ (by decide) | exact x31_ (by decide) | omega)).trans (mu_self _ _ _ _ _)))]; omega) (fun j a b => by rw [mu_ne (by first | assumption | decide | exact xs_ (by decide) | exact xc_ (by decide) | exact x31_ (by decide) | omega), mu_ne (by first | assumption | decide | exact xs_ (by decide) | exact xc_ (by decide) | exact x31_ (by decide) | omega), mu_ne (by first | assumption | decide | exact xs_ (by decide) | exact xc_ (by decide) | exact x31_ (by decide) | omega)]; exact sd_9 hL.2.2.1 (by first | assumption | decide | exact xs_ (by decide) | exact xc_ (by decide) | exact x31_ (by decide) | omega) j a b) (fun c2 x y h => by rw [mu_ne (by first | assumption | decide | exact xs_ (by decide) | exact xc_ (by decide) | exact x31_ (by decide) | omega), mu_ne (by first | assumption | decide | exact xs_ (by decide) | exact xc_ (by decide) | exact x31_ (by decide) | omega), mu_ne (by first | assumption | decide | exact xs_ (by decide) | exact xc_ (by decide) | exact x31_ (by decide) | omega), sdM_ne (by first | assumption | decide | exact xs_ (by decide) | exact xc_ (by decide) | exact x31_ (by decide) | omega)])
    refine y_endMove (V := (mu (mu (mu (sdM V l 0 (V 7 l 6 - 1)) 7 l 6 ((V 7 l 6) - 1)) 7 l 13 (wr ((V 7 l 13) + 1))) 11 l 0 ((V 11 l 0) - 1))) (fl := fl) (fr := 0) (by first | assumption | decide | exact xs_ (by decide) | exact xc_ (by decide) | exact x31_ (by decide) | omega) (by first | assumption | decide | exact xs_ (by decide) | exact xc_ (by decide) | exact x31_ (by decide) | omega) ht Sρ4 Xρ4 Fρ4 (by first | assumption | decide | exact xs_ (by decide) | exact xc_ (by decide) | exact x31_ (by decide) | omega) qL (by first | assumption | decide | exact xs_ (by decide) | exact xc_ (by decide) | exact x31_ (by decide) | omega) (by first | assumption | decide | exact xs_ (by decide) | exact xc_ (by decide) | exact x31_ (by decide) | omega) r16_ρ4 r17_ρ4 (fun ρ7 Rρ7 => ?_)
    refine y_vret hK rfl dX6_drop_55 ?_
    have hE : rgM (su (mu (mu (mu (sdM V l 0 (V 7 l 6 - 1)) 7 l 6 ((V 7 l 6) - 1)) 7 l 13 (wr ((V 7 l 13) + 1))) 11 l 0 ((V 11 l 0) - 1)) 11 l (emR 0 ((mu (mu (mu (sdM V l 0 (V 7 l 6 - 1)) 7 l 6 ((V 7 l 6) - 1)) 7 l 13 (wr ((V 7 l 13) + 1))) 11 l 0 ((V 11 l 0) - 1)) 11 l))) l = dpM V l := by
      unfold dpM
      rw [dfM_0 (V := mu (remM V l 0) 7 l 13 (wr (V 7 l 13 + 1))) (by rw [mu_ne (by first | assumption | decide | exact xs_ (by decide) | exact xc_ (by decide) | exact x31_ (by decide) | omega), remM_ne (by first | assumption | decide | exact xs_ (by decide) | exact xc_ (by decide) | exact x31_ (by decide) | omega)]; omega), rem_sd, mu_ne (by first | assumption | decide | exact xs_ (by decide) | exact xc_ (by decide) | exact x31_ (by decide) | omega), mu_ne (by first | assumption | decide | exact xs_ (by decide) | exact xc_ (by decide) | exact x31_ (by decide) | omega), sdM_ne (by first | assumption | decide | exact xs_ (by decide) | exact xc_ (by decide) | exact x31_ (by decide) | omega)]
    have q := Rρ7
    rw [hE] at q
    exact k _ q
  · refine r_aload_n hC dX6_drop_41 rfl ?_
    refine r_iload_n hC dX6_drop_42 rfl ?_
    refine r_bipush hC dX6_drop_43 rfl ?_
    refine r_iconst hC dX6_drop_45 rfl ?_
    refine z_inv3 hM dX6_drop_46 vl_RX6_188 rfl rfl rfl (Nat.le_of_ble_eq_true rfl) (Nat.le_of_ble_eq_true rfl) ?_
    refine y_moreE (a := (V 11 l 3)) (by first | assumption | decide | exact xs_ (by decide) | exact xc_ (by decide) | exact x31_ (by decide) | omega) (by first | assumption | decide | exact xs_ (by decide) | exact xc_ (by decide) | exact x31_ (by decide) | omega) (by first | assumption | decide | exact xs_ (by decide) | exact xc_ (by decide) | exact x31_ (by decide) | omega) ⟨fun h => by omega, by omega⟩ ((Sρ4.a11 (s := 3) (f := 15) (by first | assumption | decide | exact xs_ (by decide) | exact xc_ (by decide) | exact x31_ (by decide) | omega) (by first | assumption | decide | exact xs_ (by decide) | exact xc_ (by decide) | exact x31_ (by decide) | omega) (by first | assumption | decide | exact xs_ (by decide) | exact xc_ (by decide) | exact x31_ (by decide) | omega)).trans ((mu_ne (by first | assumption | decide | exact xs_ (by decide) | exact xc_ (by decide) | exact x31_ (by decide) | omega)).trans ((mu_ne (by first | assumption | decide | exact xs_ (by decide) | exact xc_ (by decide) | exact x31_ (by decide) | omega)).trans ((mu_ne (by first | assumption | decide | exact xs_ (by decide) | exact xc_ (by decide) | exact x31_ (by decide) | omega)).trans ((sdM_ne (by first | assumption | decide | exact xs_ (by decide) | exact xc_ (by decide) | exact x31_ (by decide) | omega)).trans (rfl)))))) (by first | assumption | decide | exact xs_ (by decide) | exact xc_ (by decide) | exact x31_ (by decide) | omega) ?_
    rw [show (V 11 l 3) + (-1) = ((V 11 l 3) - 1) from by omega]
    obtain ⟨ρ8, e_ρ8⟩ : ∃ zz_, zz_ = mu ρ4 31 0 ((22 * l) + 15) ((V 11 l 3) - 1) := ⟨_, rfl⟩
    rw [← e_ρ8]
    have Sρ8 : SB t σ0 (mu (mu (mu (mu (sdM V l 0 (V 7 l 6 - 1)) 7 l 6 ((V 7 l 6) - 1)) 7 l 13 (wr ((V 7 l 13) + 1))) 11 l 0 ((V 11 l 0) - 1)) 11 l 3 ((V 11 l 3) - 1)) ρ8 := by rw [e_ρ8, show ((22 * l) + 15) = 22 * l + 15 from by omega]; exact Sρ4.p11 (by first | assumption | decide | exact xs_ (by decide) | exact xc_ (by decide) | exact x31_ (by decide) | omega) (by first | assumption | decide | exact xs_ (by decide) | exact xc_ (by decide) | exact x31_ (by decide) | omega) (by first | assumption | decide | exact xs_ (by decide) | exact xc_ (by decide) | exact x31_ (by decide) | omega)
    have r16_ρ8 : ρ8 31 0 (22 * l + 16) = fl := by rw [e_ρ8]; exact (mu_ne (by first | assumption | decide | exact xs_ (by decide) | exact xc_ (by decide) | exact x31_ (by decide) | omega)).trans r16_ρ4
    have r17_ρ8 : ρ8 31 0 (22 * l + 17) = 0 := by rw [e_ρ8]; exact (mu_ne (by first | assumption | decide | exact xs_ (by decide) | exact xc_ (by decide) | exact x31_ (by decide) | omega)).trans r17_ρ4
    have Xρ8 : KX t l (mu (mu (mu (mu (sdM V l 0 (V 7 l 6 - 1)) 7 l 6 ((V 7 l 6) - 1)) 7 l 13 (wr ((V 7 l 13) + 1))) 11 l 0 ((V 11 l 0) - 1)) 11 l 3 ((V 11 l 3) - 1)) ρ8 := (Xρ4).e (fun m a b c => by rw [e_ρ8]; exact ⟨mu_ne (by first | assumption | decide | exact xs_ (by decide) | exact xc_ (by decide) | exact x31_ (by decide) | omega), mu_ne (by first | assumption | decide | exact xs_ (by decide) | exact xc_ (by decide) | exact x31_ (by decide) | omega)⟩) (fun m c => mu_ne (by first | assumption | decide | exact xs_ (by decide) | exact xc_ (by decide) | exact x31_ (by decide) | omega))
    have Fρ8 : FB (mu (mu (mu (mu (sdM V l 0 (V 7 l 6 - 1)) 7 l 6 ((V 7 l 6) - 1)) 7 l 13 (wr ((V 7 l 13) + 1))) 11 l 0 ((V 11 l 0) - 1)) 11 l 3 ((V 11 l 3) - 1)) ρ8 := by rw [e_ρ8]; exact (Fρ4).e (fun l a b => mu_ne (by first | assumption | decide | exact xs_ (by decide) | exact xc_ (by decide) | exact x31_ (by decide) | omega)) |>.v (fun l y a b c => mu_ne (by first | assumption | decide | exact xs_ (by decide) | exact xc_ (by decide) | exact x31_ (by decide) | omega))
    refine r_aload_n hC dX6_drop_49 rfl ?_
    refine r_iload_n hC dX6_drop_50 rfl ?_
    refine r_iconst hC dX6_drop_51 rfl ?_
    refine z_inv2 hM dX6_drop_52 vl_RX6_221 rfl rfl rfl (Nat.le_of_ble_eq_true rfl) (Nat.le_of_ble_eq_true rfl) ?_
    have z0 : (mu (mu (mu (mu (sdM V l 0 (V 7 l 6 - 1)) 7 l 6 ((V 7 l 6) - 1)) 7 l 13 (wr ((V 7 l 13) + 1))) 11 l 0 ((V 11 l 0) - 1)) 11 l 3 ((V 11 l 3) - 1)) 11 l 0 = ((V 11 l 0) - 1) := ((mu_ne (by first | assumption | decide | exact xs_ (by decide) | exact xc_ (by decide) | exact x31_ (by decide) | omega)).trans (mu_self _ _ _ _ _))
    have z1 : (mu (mu (mu (mu (sdM V l 0 (V 7 l 6 - 1)) 7 l 6 ((V 7 l 6) - 1)) 7 l 13 (wr ((V 7 l 13) + 1))) 11 l 0 ((V 11 l 0) - 1)) 11 l 3 ((V 11 l 3) - 1)) 11 l 1 = (V 11 l 1) := ((mu_ne (by first | assumption | decide | exact xs_ (by decide) | exact xc_ (by decide) | exact x31_ (by decide) | omega)).trans ((mu_ne (by first | assumption | decide | exact xs_ (by decide) | exact xc_ (by decide) | exact x31_ (by decide) | omega)).trans ((mu_ne (by first | assumption | decide | exact xs_ (by decide) | exact xc_ (by decide) | exact x31_ (by decide) | omega)).trans ((mu_ne (by first | assumption | decide | exact xs_ (by decide) | exact xc_ (by decide) | exact x31_ (by decide) | omega)).trans ((sdM_ne (by first | assumption | decide | exact xs_ (by decide) | exact xc_ (by decide) | exact x31_ (by decide) | omega)).trans (rfl))))))
    have z2 : (mu (mu (mu (mu (sdM V l 0 (V 7 l 6 - 1)) 7 l 6 ((V 7 l 6) - 1)) 7 l 13 (wr ((V 7 l 13) + 1))) 11 l 0 ((V 11 l 0) - 1)) 11 l 3 ((V 11 l 3) - 1)) 11 l 2 = (V 11 l 2) := ((mu_ne (by first | assumption | decide | exact xs_ (by decide) | exact xc_ (by decide) | exact x31_ (by decide) | omega)).trans ((mu_ne (by first | assumption | decide | exact xs_ (by decide) | exact xc_ (by decide) | exact x31_ (by decide) | omega)).trans ((mu_ne (by first | assumption | decide | exact xs_ (by decide) | exact xc_ (by decide) | exact x31_ (by decide) | omega)).trans ((mu_ne (by first | assumption | decide | exact xs_ (by decide) | exact xc_ (by decide) | exact x31_ (by decide) | omega)).trans ((sdM_ne (by first | assumption | decide | exact xs_ (by decide) | exact xc_ (by decide) | exact x31_ (by decide) | omega)).trans (rfl))))))
    have z3 : (mu (mu (mu (mu (sdM V l 0 (V 7 l 6 - 1)) 7 l 6 ((V 7 l 6) - 1)) 7 l 13 (wr ((V 7 l 13) + 1))) 11 l 0 ((V 11 l 0) - 1)) 11 l 3 ((V 11 l 3) - 1)) 11 l 3 = ((V 11 l 3) - 1) := (mu_self _ _ _ _ _)
    have qL : LK (mu (mu (mu (mu (sdM V l 0 (V 7 l 6 - 1)) 7 l 6 ((V 7 l 6) - 1)) 7 l 13 (wr ((V 7 l 13) + 1))) 11 l 0 ((V 11 l 0) - 1)) 11 l 3 ((V 11 l 3) - 1)) l := LK_6 hL (by rw [show (mu (mu (mu (mu (sdM V l 0 (V 7 l 6 - 1)) 7 l 6 ((V 7 l 6) - 1)) 7 l 13 (wr ((V 7 l 13) + 1))) 11 l 0 ((V 11 l 0) - 1)) 11 l 3 ((V 11 l 3) - 1)) 7 l 6 = ((V 7 l 6) - 1) from ((mu_ne (by first | assumption | decide | exact xs_ (by decide) | exact xc_ (by decide) | exact x31_ (by decide) | omega)).trans ((mu_ne (by first | assumption | decide | exact xs_ (by decide) | exact xc_ (by decide) | exact x31_ (by decide) | omega)).trans ((mu_ne (by first | assumption | decide | exact xs_ (by decide) | exact xc_ (by decide) | exact x31_ (by decide) | omega)).trans (mu_self _ _ _ _ _))))]; omega) (fun j a b => by rw [mu_ne (by first | assumption | decide | exact xs_ (by decide) | exact xc_ (by decide) | exact x31_ (by decide) | omega), mu_ne (by first | assumption | decide | exact xs_ (by decide) | exact xc_ (by decide) | exact x31_ (by decide) | omega), mu_ne (by first | assumption | decide | exact xs_ (by decide) | exact xc_ (by decide) | exact x31_ (by decide) | omega), mu_ne (by first | assumption | decide | exact xs_ (by decide) | exact xc_ (by decide) | exact x31_ (by decide) | omega)]; exact sd_9 hL.2.2.1 (by first | assumption | decide | exact xs_ (by decide) | exact xc_ (by decide) | exact x31_ (by decide) | omega) j a b) (fun c2 x y h => by rw [mu_ne (by first | assumption | decide | exact xs_ (by decide) | exact xc_ (by decide) | exact x31_ (by decide) | omega), mu_ne (by first | assumption | decide | exact xs_ (by decide) | exact xc_ (by decide) | exact x31_ (by decide) | omega), mu_ne (by first | assumption | decide | exact xs_ (by decide) | exact xc_ (by decide) | exact x31_ (by decide) | omega), mu_ne (by first | assumption | decide | exact xs_ (by decide) | exact xc_ (by decide) | exact x31_ (by decide) | omega), sdM_ne (by first | assumption | decide | exact xs_ (by decide) | exact xc_ (by decide) | exact x31_ (by decide) | omega)])
    refine y_endMove (V := (mu (mu (mu (mu (sdM V l 0 (V 7 l 6 - 1)) 7 l 6 ((V 7 l 6) - 1)) 7 l 13 (wr ((V 7 l 13) + 1))) 11 l 0 ((V 11 l 0) - 1)) 11 l 3 ((V 11 l 3) - 1))) (fl := fl) (fr := 0) (by first | assumption | decide | exact xs_ (by decide) | exact xc_ (by decide) | exact x31_ (by decide) | omega) (by first | assumption | decide | exact xs_ (by decide) | exact xc_ (by decide) | exact x31_ (by decide) | omega) ht Sρ8 Xρ8 Fρ8 (by first | assumption | decide | exact xs_ (by decide) | exact xc_ (by decide) | exact x31_ (by decide) | omega) qL (by first | assumption | decide | exact xs_ (by decide) | exact xc_ (by decide) | exact x31_ (by decide) | omega) (by first | assumption | decide | exact xs_ (by decide) | exact xc_ (by decide) | exact x31_ (by decide) | omega) r16_ρ8 r17_ρ8 (fun ρ9 Rρ9 => ?_)
    refine y_vret hK rfl dX6_drop_55 ?_
    have hE : rgM (su (mu (mu (mu (mu (sdM V l 0 (V 7 l 6 - 1)) 7 l 6 ((V 7 l 6) - 1)) 7 l 13 (wr ((V 7 l 13) + 1))) 11 l 0 ((V 11 l 0) - 1)) 11 l 3 ((V 11 l 3) - 1)) 11 l (emR 0 ((mu (mu (mu (mu (sdM V l 0 (V 7 l 6 - 1)) 7 l 6 ((V 7 l 6) - 1)) 7 l 13 (wr ((V 7 l 13) + 1))) 11 l 0 ((V 11 l 0) - 1)) 11 l 3 ((V 11 l 3) - 1)) 11 l))) l = dpM V l := by
      unfold dpM
      rw [dfM_1 (V := mu (remM V l 0) 7 l 13 (wr (V 7 l 13 + 1))) (by rw [mu_ne (by first | assumption | decide | exact xs_ (by decide) | exact xc_ (by decide) | exact x31_ (by decide) | omega), remM_ne (by first | assumption | decide | exact xs_ (by decide) | exact xc_ (by decide) | exact x31_ (by decide) | omega)]; omega), rem_sd, mu_ne (by first | assumption | decide | exact xs_ (by decide) | exact xc_ (by decide) | exact x31_ (by decide) | omega), mu_ne (by first | assumption | decide | exact xs_ (by decide) | exact xc_ (by decide) | exact x31_ (by decide) | omega), sdM_ne (by first | assumption | decide | exact xs_ (by decide) | exact xc_ (by decide) | exact x31_ (by decide) | omega), mu_ne (by first | assumption | decide | exact xs_ (by decide) | exact xc_ (by decide) | exact x31_ (by decide) | omega), mu_ne (by first | assumption | decide | exact xs_ (by decide) | exact xc_ (by decide) | exact x31_ (by decide) | omega), sdM_ne (by first | assumption | decide | exact xs_ (by decide) | exact xc_ (by decide) | exact x31_ (by decide) | omega)]
    have q := Rρ9
    rw [hE] at q
    exact k _ q
-- B: the reference: what enters
theorem ins_su1 {V : Mm} {l a t v : Int} (ha : 0 ≤ a ∧ a ≤ V 7 l 6) (h : V 7 l 10 < t) : mu (mu (mu (mu (mu (mu (mu (suM V l a (V 7 l 6)) 8 l a t) 9 l a v) 10 l a (V 7 l 12)) 7 l 6 (V 7 l 6 + 1)) 7 l 12 (wr (V 7 l 12 + 1))) 7 l 14 (V 7 l 6 - a)) 7 l 10 t = insM V l a t v := by
  rw [ins_su (z := 0) ha, show max (V 7 l 10) t = t from by omega]
theorem ins_su0 {V : Mm} {l a t v : Int} (ha : 0 ≤ a ∧ a ≤ V 7 l 6) (h : t ≤ V 7 l 10) : mu (mu (mu (mu (mu (mu (suM V l a (V 7 l 6)) 8 l a t) 9 l a v) 10 l a (V 7 l 12)) 7 l 6 (V 7 l 6 + 1)) 7 l 12 (wr (V 7 l 12 + 1))) 7 l 14 (V 7 l 6 - a) = insM V l a t v := by
  rw [ins_su (z := 0) ha, mu_same (a := max (V 7 l 10) t)]
  rw [mu_ne (by omega), mu_ne (by omega), mu_ne (by omega), mu_ne (by omega), mu_ne (by omega), mu_ne (by omega), suM_ne (by omega)]
  omega
theorem ins_9 {V : Mm} {l a t v : Int} (ha : 0 ≤ a ∧ a ≤ V 7 l 6) (hv : -1000 ≤ v ∧ v ≤ 1000) (q : ∀ j : Int, 0 ≤ j → j ≤ 120 → -1000 ≤ V 9 l j ∧ V 9 l j ≤ 1000) (j : Int) (j0 : 0 ≤ j) (j1 : j ≤ 120) : -1000 ≤ insM V l a t v 9 l j ∧ insM V l a t v 9 l j ≤ 1000 := by
  rw [ins_su (z := 0) ha, mu_ne (by omega), mu_ne (by omega), mu_ne (by omega), mu_ne (by omega), mu_ne (by omega)]
  by_cases e : j = a
  · subst e; rw [mu_self]; exact hv
  · rw [mu_ne (by omega), mu_ne (by omega)]
    exact su_9 q ha.1 j j0 j1
theorem LK_ins {V : Mm} {l a t v : Int} (h : LK V l) (ha : 0 ≤ a ∧ a ≤ V 7 l 6) (h6 : V 7 l 6 ≤ 120) (hv : -1000 ≤ v ∧ v ≤ 1000) : LK (insM V l a t v) l :=
  LK_6 h (by rw [insM_6]; omega) (ins_9 ha hv h.2.2.1) (fun c x y e => insM_ne (by omega))
theorem rem_9 {V : Mm} {l : Int} (h1 : V 7 l 6 ≤ 121) (q : ∀ j : Int, 0 ≤ j → j ≤ 120 → -1000 ≤ V 9 l j ∧ V 9 l j ≤ 1000) (a j : Int) (j0 : 0 ≤ j) (j1 : j ≤ 120) : -1000 ≤ remM V l a 9 l j ∧ remM V l a 9 l j ≤ 1000 := by
  rw [rem_sd, mu_ne (by omega)]
  exact sd_9 q (by omega) j j0 j1
theorem LK_rem {V : Mm} {l a : Int} (h : LK V l) (h1 : 1 ≤ V 7 l 6) : LK (remM V l a) l :=
  LK_6 h (by rw [remM_6]; have := h.2.1; omega) (rem_9 h.2.1.2 h.2.2.1 a) (fun c x y e => remM_ne (by omega))
theorem LK_dp {V : Mm} {l : Int} (h : LK V l) (h1 : 1 ≤ V 7 l 6) : LK (dpM V l) l := by
  unfold dpM
  exact LK.rg ((((LK_rem h h1).to (W := mu (remM V l 0) 7 l 13 (wr (V 7 l 13 + 1))) (fun c x y e => mu_ne (by omega)))).to (fun c x y e => dfM_ne (by omega)))
theorem LK_en {V : Mm} {l t v : Int} (h : LK V l) (h6 : V 7 l 6 ≤ 120) (hv : -1000 ≤ v ∧ v ≤ 1000) : LK (enM V l t v) l := by
  unfold enM
  have hb := hU_b (V := V) (i := l) (t := t) h.2.1.1
  split
  · exact LK.rg ((LK_ins h hb h6 hv).to (fun c x y e => adM_ne (by omega)))
  · exact LK.rg ((LK_ins h hb h6 hv).to (fun c x y e => lyM_ne (by omega)))
theorem FI_dp {V : Mm} {l : Int} (h : FI (V 11 l) (V 7 l 6)) (h1 : 1 ≤ V 7 l 6) : FI (dpM V l 11 l) (dpM V l 7 l 6) := by
  rw [dpM_6, show dpM V l 11 l = dfR (V 11 l) from funext fun y => by
    unfold dpM
    rw [rgM_ne (by omega)]
    unfold dfM
    rw [su_at, show (mu (remM V l 0) 7 l 13 (wr (V 7 l 13 + 1))) 11 l = V 11 l from funext fun z => (mu_ne (by omega)).trans (remM_ne (by omega))]]
  exact FI_df h h1
theorem FI_en {V : Mm} {l t v : Int} (h : FI (V 11 l) (V 7 l 6)) (h0 : 0 ≤ V 7 l 6) : FI (enM V l t v 11 l) (enM V l t v 7 l 6) := by
  rw [enM_6]
  unfold enM
  rw [show ∀ X : Mm, rgM X l 11 l = X 11 l from fun X => funext fun y => rgM_ne (by omega)]
  split
  · rw [show adM (insM V l (hU V l t) t v) l 11 l = adR (V 11 l) from funext fun y => by
      unfold adM
      rw [su_at, show (insM V l (hU V l t) t v) 11 l = V 11 l from funext fun z => insM_ne (by omega)]]
    exact FI_ad h
  · rw [show lyM (insM V l (hU V l t) t v) l (V 7 l 6 + 1) 11 l = lyR (V 7 l 6 + 1) (V 11 l) from funext fun y => by
      unfold lyM
      rw [su_at, show (insM V l (hU V l t) t v) 11 l = V 11 l from funext fun z => insM_ne (by omega)]]
    exact FI_ly (by omega)
theorem y_isTooMany {eb : Bool} {t : Int} {V : Mm} {d : Nat} {P : Option Vl → Mm → Prop} {σ : Mm} {l : Int} (b_l : 0 ≤ l ∧ l ≤ 7) {σ0 : Mm} (ht : 6 ≤ t ∧ t ≤ 7) (hR : RS t σ0 V σ) (hl : l ≤ t)  (k1 : goV V l → P (some (vI 1)) σ) (k0 : ¬ goV V l → P (some (vI 0)) σ) : WT (true, eb, true) (d + 3) 193 [vR 30 0, vI l] σ P := by
  refine WT_in fun K hK => ?_
  have hK : StpY (true, eb, true) cX6_isTooMany RX6 (some .boolean) (WT (true, eb, true) (d + 2)) P K := hK
  have hM := hK.1
  have hC := hK.1.1
  show K 0 [some (vR 30 0), some (vI l)] [] σ
  refine r_aload_n hC dX6_isTooMany_0 rfl ?_
  refine r_iload_n hC dX6_isTooMany_1 rfl ?_
  refine r_iconst hC dX6_isTooMany_2 rfl ?_
  refine z_inv2 hM dX6_isTooMany_3 vl_RX6_80 rfl rfl rfl (Nat.le_of_ble_eq_true rfl) (Nat.le_of_ble_eq_true rfl) ?_
  refine y_of (by omega) (by omega) (by omega) (fun o1 => ?_)
  have e2 : σ 31 0 (22 * l + 2) = (V 7 l 3) := (hR.1.a7 (s := 3) (f := 2) (by omega) (by omega) (by omega)).trans (rfl)
  rw [e2] at o1 ⊢
  refine r_iconst hC dX6_isTooMany_6 rfl ?_
  refine r_icmp_ne (tgt := 30) hC dX6_isTooMany_7 rfl (fun h3 => ?_) (fun h3 => ?_)
  · refine r_aload_n hC dX6_isTooMany_30 rfl ?_
    refine r_iload_n hC dX6_isTooMany_31 rfl ?_
    refine r_iconst hC dX6_isTooMany_32 rfl ?_
    refine z_inv2 hM dX6_isTooMany_33 vl_RX6_80 rfl rfl rfl (Nat.le_of_ble_eq_true rfl) (Nat.le_of_ble_eq_true rfl) ?_
    refine y_of (by omega) (by omega) (by omega) (fun o4 => ?_)
    have e5 : σ 31 0 (22 * l + 2) = (V 7 l 3) := (hR.1.a7 (s := 3) (f := 2) (by omega) (by omega) (by omega)).trans (rfl)
    rw [e5] at o4 ⊢
    refine r_iconst hC dX6_isTooMany_36 rfl ?_
    refine r_icmp_ne (tgt := 78) hC dX6_isTooMany_37 rfl (fun h6 => ?_) (fun h6 => ?_)
    · refine r_iconst hC dX6_isTooMany_78 rfl ?_
      refine y_zret hK rfl dX6_isTooMany_79 (by omega) ?_
      exact k0 (by unfold goV; omega)
    · refine r_aload_n hC dX6_isTooMany_40 rfl ?_
      refine r_iload_n hC dX6_isTooMany_41 rfl ?_
      refine z_inv1 hM dX6_isTooMany_42 vl_RX6_116 rfl rfl rfl (Nat.le_of_ble_eq_true rfl) (Nat.le_of_ble_eq_true rfl) ?_
      refine y_heldOf (by omega) (fun o7 => ?_)
      have e8 : σ 31 0 (22 * l + 5) = (V 7 l 6) := (hR.1.a7 (s := 6) (f := 5) (by omega) (by omega) (by omega)).trans (rfl)
      rw [e8] at o7 ⊢
      have qo7 : 0 ≤ (V 7 l 6) ∧ (V 7 l 6) ≤ 121 := o7.1 (by omega)
      refine r_if_le (tgt := 78) hC dX6_isTooMany_45 rfl (fun h9 => ?_) (fun h9 => ?_)
      · refine r_iconst hC dX6_isTooMany_78 rfl ?_
        refine y_zret hK rfl dX6_isTooMany_79 (by omega) ?_
        exact k0 (by unfold goV; omega)
      · refine r_aload_n hC dX6_isTooMany_48 rfl ?_
        refine z_getR hM dX6_isTooMany_49 fl_RX6_13 rfl rfl (vld_of (n := 1) rfl (by omega) (by omega)) ?_
        refine r_bipush hC dX6_isTooMany_52 rfl ?_
        refine r_iload_n hC dX6_isTooMany_54 rfl ?_
        refine r_imulE hC ((121 * l)) dX6_isTooMany_55 (by omega) (by unfold inR; omega) ?_
        refine z_iald hM dX6_isTooMany_56 rfl (by omega) (by omega) (fun v10 h_v10 o_v10 t_v10 => ?_)
        have w_v10 := ((t_v10 (Or.inl trivial)).trans ((show σ 32 0 (121 * l) = V 8 l 0 from by rw [show (121 * l) = 121 * l + 0 from by omega]; exact hR.1.a8 (y := 0) (by omega) (by omega) (by omega) (by omega)).trans (rfl))).symm
        subst w_v10
        refine r_aload_n hC dX6_isTooMany_57 rfl ?_
        refine r_iload_n hC dX6_isTooMany_58 rfl ?_
        refine r_bipush hC dX6_isTooMany_59 rfl ?_
        refine z_inv2 hM dX6_isTooMany_61 vl_RX6_80 rfl rfl rfl (Nat.le_of_ble_eq_true rfl) (Nat.le_of_ble_eq_true rfl) ?_
        refine y_of (by omega) (by omega) (by omega) (fun o11 => ?_)
        have e12 : σ 31 0 (22 * l + 6) = (V 7 l 10) := (hR.1.a7 (s := 10) (f := 6) (by omega) (by omega) (by omega)).trans (rfl)
        rw [e12] at o11 ⊢
        refine r_aload_n hC dX6_isTooMany_64 rfl ?_
        refine r_iload_n hC dX6_isTooMany_65 rfl ?_
        refine r_iconst hC dX6_isTooMany_66 rfl ?_
        refine z_inv2 hM dX6_isTooMany_67 vl_RX6_80 rfl rfl rfl (Nat.le_of_ble_eq_true rfl) (Nat.le_of_ble_eq_true rfl) ?_
        refine y_of (by omega) (by omega) (by omega) (fun o13 => ?_)
        have e14 : σ 31 0 (22 * l + 3) = (V 7 l 4) := (hR.1.a7 (s := 4) (f := 3) (by omega) (by omega) (by omega)).trans (rfl)
        rw [e14] at o13 ⊢
        refine r_isub hC dX6_isTooMany_70 ?_
        have f15 := inR_le (inR_wr ((V 7 l 10) - (V 7 l 4)))
        refine r_icmp_gt (tgt := 78) hC dX6_isTooMany_71 rfl (fun h16 => ?_) (fun h16 => ?_)
        · refine r_iconst hC dX6_isTooMany_78 rfl ?_
          refine y_zret hK rfl dX6_isTooMany_79 (by omega) ?_
          exact k0 (by unfold goV; omega)
        · refine r_iconst hC dX6_isTooMany_74 rfl ?_
          refine r_goto (tgt := 79) hC dX6_isTooMany_75 rfl ?_
          refine y_zret hK rfl dX6_isTooMany_79 (by omega) ?_
          exact k1 (by unfold goV; omega)
  · refine r_aload_n hC dX6_isTooMany_10 rfl ?_
    refine r_iload_n hC dX6_isTooMany_11 rfl ?_
    refine z_inv1 hM dX6_isTooMany_12 vl_RX6_116 rfl rfl rfl (Nat.le_of_ble_eq_true rfl) (Nat.le_of_ble_eq_true rfl) ?_
    refine y_heldOf (by omega) (fun o17 => ?_)
    have e18 : σ 31 0 (22 * l + 5) = (V 7 l 6) := (hR.1.a7 (s := 6) (f := 5) (by omega) (by omega) (by omega)).trans (rfl)
    rw [e18] at o17 ⊢
    have qo17 : 0 ≤ (V 7 l 6) ∧ (V 7 l 6) ≤ 121 := o17.1 (by omega)
    refine r_aload_n hC dX6_isTooMany_15 rfl ?_
    refine r_iload_n hC dX6_isTooMany_16 rfl ?_
    refine r_iconst hC dX6_isTooMany_17 rfl ?_
    refine z_inv2 hM dX6_isTooMany_18 vl_RX6_80 rfl rfl rfl (Nat.le_of_ble_eq_true rfl) (Nat.le_of_ble_eq_true rfl) ?_
    refine y_of (by omega) (by omega) (by omega) (fun o19 => ?_)
    have e20 : σ 31 0 (22 * l + 3) = (V 7 l 4) := (hR.1.a7 (s := 4) (f := 3) (by omega) (by omega) (by omega)).trans (rfl)
    rw [e20] at o19 ⊢
    refine r_icmp_le (tgt := 28) hC dX6_isTooMany_21 rfl (fun h21 => ?_) (fun h21 => ?_)
    · refine r_iconst hC dX6_isTooMany_28 rfl ?_
      refine y_zret hK rfl dX6_isTooMany_29 (by omega) ?_
      exact k0 (by unfold goV; omega)
    · refine r_iconst hC dX6_isTooMany_24 rfl ?_
      refine r_goto (tgt := 29) hC dX6_isTooMany_25 rfl ?_
      refine y_zret hK rfl dX6_isTooMany_29 (by omega) ?_
      exact k1 (by unfold goV; omega)
theorem y_enter {eb : Bool} {t : Int} {V : Mm} {d : Nat} {P : Option Vl → Mm → Prop} {σ : Mm} {l z v : Int} (b_l : 0 ≤ l ∧ l ≤ 7) (b_z : -2147483648 ≤ z ∧ z ≤ 2147483647) (b_v : -1000 ≤ v ∧ v ≤ 1000) {σ0 : Mm} (ht : 6 ≤ t ∧ t ≤ 7) (hR : RS t σ0 V σ) (hl : l ≤ t) (hL : LK V l) (hF : FI (V 11 l) (V 7 l 6)) (hSo : So (V 8 l) (V 7 l 6)) (hz6 : V 7 l 6 ≤ 120) (hsz : V 7 l 3 = 1 → 0 ≤ V 7 l 4)  (k : ∀ ρ : Mm, RS t σ0 (plM V l z v) ρ → P none ρ) : WT (true, eb, true) (d + 9) 194 [vR 30 0, vI l, vI z, vI v] σ P := by
  refine WT_in fun K hK => ?_
  have hK : StpY (true, eb, true) cX6_enter RX6 (none) (WT (true, eb, true) (d + 8)) P K := hK
  have hM := hK.1
  have hC := hK.1.1
  show K 0 [some (vR 30 0), some (vI l), some (vI z), some (vI v), none, none, none] [] σ
  have hop := hL.1
  have h6 := hL.2.1
  have hB := FIK hF (by omega)
  have hFI := hF
  unfold FI at hFI
  refine r_aload_n hC dX6_enter_0 rfl ?_
  refine r_iload_n hC dX6_enter_1 rfl ?_
  refine r_iload_n hC dX6_enter_2 rfl ?_
  refine z_inv2 hM dX6_enter_3 vl_RX6_224 rfl rfl rfl (Nat.le_of_ble_eq_true rfl) (Nat.le_of_ble_eq_true rfl) ?_
  refine y_placeOf (by omega) ht ⟨hR.1, hR.2.1, hR.2.2⟩ (by omega) hSo (by omega) (fun h1 => ?_)
  refine r_istore hC dX6_enter_6 rfl ?_
  refine r_aload_n hC dX6_enter_8 rfl ?_
  refine r_iload_n hC dX6_enter_9 rfl ?_
  refine z_inv1 hM dX6_enter_10 vl_RX6_116 rfl rfl rfl (Nat.le_of_ble_eq_true rfl) (Nat.le_of_ble_eq_true rfl) ?_
  refine y_heldOf (by omega) (fun o2 => ?_)
  have e3 : σ 31 0 (22 * l + 5) = (V 7 l 6) := (hR.1.a7 (s := 6) (f := 5) (by omega) (by omega) (by omega)).trans (rfl)
  rw [e3] at o2 ⊢
  have qo2 : 0 ≤ (V 7 l 6) ∧ (V 7 l 6) ≤ 121 := o2.1 (by omega)
  refine r_iload hC dX6_enter_13 rfl ?_
  refine r_isubE hC (((V 7 l 6) - (hU V l z))) dX6_enter_15 (by omega) (by unfold inR; omega) ?_
  refine r_istore hC dX6_enter_16 rfl ?_
  refine r_aload_n hC dX6_enter_18 rfl ?_
  refine r_iload_n hC dX6_enter_19 rfl ?_
  refine r_iload hC dX6_enter_20 rfl ?_
  refine r_iconst hC dX6_enter_22 rfl ?_
  refine z_inv3 hM dX6_enter_23 vl_RX6_217 rfl rfl rfl (Nat.le_of_ble_eq_true rfl) (Nat.le_of_ble_eq_true rfl) ?_
  refine y_shiftUp (V := V) (by omega) (by omega) ht ⟨hR.1, hR.2.1, hR.2.2⟩ (by omega) (by omega) (by omega) (fun ρ4 Rρ4 => ?_)
  have k16 : ρ4 31 0 (22 * l + 16) = (if V 11 l 3 = 0 then 0 else 1) := ((Rρ4.2.1 l (by omega) (by omega)).1).trans (by rw [suM_ne (by omega)])
  have k17 : ρ4 31 0 (22 * l + 17) = 0 := (Rρ4.2.1 l (by omega) (by omega)).2
  have kxx : KX t l (suM V l (hU V l z) (V 7 l 6)) ρ4 := (Rρ4.2.1).kx l
  obtain ⟨fl, hfl⟩ : ∃ fl : Int, fl = (if V 11 l 3 = 0 then 0 else 1) := ⟨_, rfl⟩
  rw [← hfl] at k16
  have hfl2 : (fl = 0 ∧ V 11 l 3 = 0) ∨ (fl = 1 ∧ V 11 l 3 ≠ 0) := by rw [hfl]; split <;> omega
  refine r_aload_n hC dX6_enter_26 rfl ?_
  refine z_getR hM dX6_enter_27 fl_RX6_13 rfl rfl (vld_of (n := 1) rfl (by omega) (by omega)) ?_
  refine r_bipush hC dX6_enter_30 rfl ?_
  refine r_iload_n hC dX6_enter_32 rfl ?_
  refine r_imulE hC ((121 * l)) dX6_enter_33 (by omega) (by unfold inR; omega) ?_
  refine r_iload hC dX6_enter_34 rfl ?_
  refine r_iaddE hC (((121 * l) + (hU V l z))) dX6_enter_36 (by omega) (by unfold inR; omega) ?_
  refine r_iload_n hC dX6_enter_37 rfl ?_
  refine z_iastT hM dX6_enter_38 rfl (by omega) (by omega) ⟨Or.inr (by simp [DL]), Or.inr (by simp [DF])⟩ (by first | trivial | (simp only [Okv]; omega) | (simp [Okv]; try omega)) ?_
  obtain ⟨ρ5, e_ρ5⟩ : ∃ zz_, zz_ = mu ρ4 32 0 ((121 * l) + (hU V l z)) z := ⟨_, rfl⟩
  rw [← e_ρ5]
  have Sρ5 : SB t σ0 (mu (suM V l (hU V l z) (V 7 l 6)) 8 l (hU V l z) z) ρ5 := by rw [e_ρ5, show ((121 * l) + (hU V l z)) = 121 * l + (hU V l z) from by omega]; exact Rρ4.1.p8 (by omega) (by omega) (by omega) (by omega)
  have r16_ρ5 : ρ5 31 0 (22 * l + 16) = fl := by rw [e_ρ5]; exact (mu_ne (by omega)).trans k16
  have r17_ρ5 : ρ5 31 0 (22 * l + 17) = 0 := by rw [e_ρ5]; exact (mu_ne (by omega)).trans k17
  have Xρ5 : KX t l (mu (suM V l (hU V l z) (V 7 l 6)) 8 l (hU V l z) z) ρ5 := (kxx).e (fun m a b c => by rw [e_ρ5]; exact ⟨mu_ne (by omega), mu_ne (by omega)⟩) (fun m c => mu_ne (by omega))
  have Fρ5 : FB (mu (suM V l (hU V l z) (V 7 l 6)) 8 l (hU V l z) z) ρ5 := by rw [e_ρ5]; exact (Rρ4.2.2).e (fun l a b => mu_ne (by omega)) |>.v (fun l y a b c => mu_ne (by omega))
  refine r_aload_n hC dX6_enter_39 rfl ?_
  refine z_getR hM dX6_enter_40 fl_RX6_16 rfl rfl (vld_of (n := 1) rfl (by omega) (by omega)) ?_
  refine r_bipush hC dX6_enter_43 rfl ?_
  refine r_iload_n hC dX6_enter_45 rfl ?_
  refine r_imulE hC ((121 * l)) dX6_enter_46 (by omega) (by unfold inR; omega) ?_
  refine r_iload hC dX6_enter_47 rfl ?_
  refine r_iaddE hC (((121 * l) + (hU V l z))) dX6_enter_49 (by omega) (by unfold inR; omega) ?_
  refine r_iload_n hC dX6_enter_50 rfl ?_
  refine z_iastT hM dX6_enter_51 rfl (by omega) (by omega) ⟨Or.inr (by simp [DL]), Or.inr (by simp [DF])⟩ (by first | trivial | (simp only [Okv]; omega) | (simp [Okv]; try omega)) ?_
  obtain ⟨ρ6, e_ρ6⟩ : ∃ zz_, zz_ = mu ρ5 33 0 ((121 * l) + (hU V l z)) v := ⟨_, rfl⟩
  rw [← e_ρ6]
  have Sρ6 : SB t σ0 (mu (mu (suM V l (hU V l z) (V 7 l 6)) 8 l (hU V l z) z) 9 l (hU V l z) v) ρ6 := by rw [e_ρ6, show ((121 * l) + (hU V l z)) = 121 * l + (hU V l z) from by omega]; exact Sρ5.p9 (by omega) (by omega) (by omega) (by omega)
  have r16_ρ6 : ρ6 31 0 (22 * l + 16) = fl := by rw [e_ρ6]; exact (mu_ne (by omega)).trans r16_ρ5
  have r17_ρ6 : ρ6 31 0 (22 * l + 17) = 0 := by rw [e_ρ6]; exact (mu_ne (by omega)).trans r17_ρ5
  have Xρ6 : KX t l (mu (mu (suM V l (hU V l z) (V 7 l 6)) 8 l (hU V l z) z) 9 l (hU V l z) v) ρ6 := (Xρ5).e (fun m a b c => by rw [e_ρ6]; exact ⟨mu_ne (by omega), mu_ne (by omega)⟩) (fun m c => mu_ne (by omega))
  have Fρ6 : FB (mu (mu (suM V l (hU V l z) (V 7 l 6)) 8 l (hU V l z) z) 9 l (hU V l z) v) ρ6 := by rw [e_ρ6]; exact (Fρ5).e (fun l a b => mu_ne (by omega)) |>.v (fun l y a b c => mu_ne (by omega))
  refine r_aload_n hC dX6_enter_52 rfl ?_
  refine z_getR hM dX6_enter_53 fl_RX6_19 rfl rfl (vld_of (n := 1) rfl (by omega) (by omega)) ?_
  refine r_bipush hC dX6_enter_56 rfl ?_
  refine r_iload_n hC dX6_enter_58 rfl ?_
  refine r_imulE hC ((121 * l)) dX6_enter_59 (by omega) (by unfold inR; omega) ?_
  refine r_iload hC dX6_enter_60 rfl ?_
  refine r_iaddE hC (((121 * l) + (hU V l z))) dX6_enter_62 (by omega) (by unfold inR; omega) ?_
  refine r_aload_n hC dX6_enter_63 rfl ?_
  refine r_iload_n hC dX6_enter_64 rfl ?_
  refine r_bipush hC dX6_enter_65 rfl ?_
  refine z_inv2 hM dX6_enter_67 vl_RX6_80 rfl rfl rfl (Nat.le_of_ble_eq_true rfl) (Nat.le_of_ble_eq_true rfl) ?_
  refine y_of (by omega) (by omega) (by omega) (fun o7 => ?_)
  have e8 : ρ6 31 0 (22 * l + 8) = (V 7 l 12) := (Sρ6.a7 (s := 12) (f := 8) (by omega) (by omega) (by omega)).trans ((mu_ne (by omega)).trans ((mu_ne (by omega)).trans ((suM_ne (by omega)).trans (rfl))))
  rw [e8] at o7 ⊢
  refine z_iastT hM dX6_enter_70 rfl (by omega) (by omega) ⟨Or.inr (by simp [DL]), Or.inr (by simp [DF])⟩ (by first | trivial | (simp only [Okv]; omega) | (simp [Okv]; try omega)) ?_
  obtain ⟨ρ9, e_ρ9⟩ : ∃ zz_, zz_ = mu ρ6 34 0 ((121 * l) + (hU V l z)) (V 7 l 12) := ⟨_, rfl⟩
  rw [← e_ρ9]
  have Sρ9 : SB t σ0 (mu (mu (mu (suM V l (hU V l z) (V 7 l 6)) 8 l (hU V l z) z) 9 l (hU V l z) v) 10 l (hU V l z) (V 7 l 12)) ρ9 := by rw [e_ρ9, show ((121 * l) + (hU V l z)) = 121 * l + (hU V l z) from by omega]; exact Sρ6.p10 (by omega) (by omega) (by omega) (by omega)
  have r16_ρ9 : ρ9 31 0 (22 * l + 16) = fl := by rw [e_ρ9]; exact (mu_ne (by omega)).trans r16_ρ6
  have r17_ρ9 : ρ9 31 0 (22 * l + 17) = 0 := by rw [e_ρ9]; exact (mu_ne (by omega)).trans r17_ρ6
  have Xρ9 : KX t l (mu (mu (mu (suM V l (hU V l z) (V 7 l 6)) 8 l (hU V l z) z) 9 l (hU V l z) v) 10 l (hU V l z) (V 7 l 12)) ρ9 := (Xρ6).e (fun m a b c => by rw [e_ρ9]; exact ⟨mu_ne (by omega), mu_ne (by omega)⟩) (fun m c => mu_ne (by omega))
  have Fρ9 : FB (mu (mu (mu (suM V l (hU V l z) (V 7 l 6)) 8 l (hU V l z) z) 9 l (hU V l z) v) 10 l (hU V l z) (V 7 l 12)) ρ9 := by rw [e_ρ9]; exact (Fρ6).e (fun l a b => mu_ne (by omega)) |>.v (fun l y a b c => mu_ne (by omega))
  refine r_aload_n hC dX6_enter_71 rfl ?_
  refine r_iload_n hC dX6_enter_72 rfl ?_
  refine r_iconst hC dX6_enter_73 rfl ?_
  refine r_iconst hC dX6_enter_74 rfl ?_
  refine z_inv3 hM dX6_enter_75 vl_RX6_188 rfl rfl rfl (Nat.le_of_ble_eq_true rfl) (Nat.le_of_ble_eq_true rfl) ?_
  refine y_moreE (a := (V 7 l 6)) (by omega) (by omega) (by omega) ⟨fun h => by omega, by omega⟩ ((Sρ9.a7 (s := 6) (f := 5) (by omega) (by omega) (by omega)).trans ((mu_ne (by omega)).trans ((mu_ne (by omega)).trans ((mu_ne (by omega)).trans ((suM_ne (by omega)).trans (rfl)))))) (by omega) ?_
  rw [show (V 7 l 6) + 1 = ((V 7 l 6) + 1) from by omega]
  obtain ⟨ρ10, e_ρ10⟩ : ∃ zz_, zz_ = mu ρ9 31 0 ((22 * l) + 5) ((V 7 l 6) + 1) := ⟨_, rfl⟩
  rw [← e_ρ10]
  have Sρ10 : SB t σ0 (mu (mu (mu (mu (suM V l (hU V l z) (V 7 l 6)) 8 l (hU V l z) z) 9 l (hU V l z) v) 10 l (hU V l z) (V 7 l 12)) 7 l 6 ((V 7 l 6) + 1)) ρ10 := by rw [e_ρ10, show ((22 * l) + 5) = 22 * l + 5 from by omega]; exact Sρ9.p7 (by omega) (by omega) (by omega)
  have r16_ρ10 : ρ10 31 0 (22 * l + 16) = fl := by rw [e_ρ10]; exact (mu_ne (by omega)).trans r16_ρ9
  have r17_ρ10 : ρ10 31 0 (22 * l + 17) = 0 := by rw [e_ρ10]; exact (mu_ne (by omega)).trans r17_ρ9
  have Xρ10 : KX t l (mu (mu (mu (mu (suM V l (hU V l z) (V 7 l 6)) 8 l (hU V l z) z) 9 l (hU V l z) v) 10 l (hU V l z) (V 7 l 12)) 7 l 6 ((V 7 l 6) + 1)) ρ10 := (Xρ9).e (fun m a b c => by rw [e_ρ10]; exact ⟨mu_ne (by omega), mu_ne (by omega)⟩) (fun m c => mu_ne (by omega))
  have Fρ10 : FB (mu (mu (mu (mu (suM V l (hU V l z) (V 7 l 6)) 8 l (hU V l z) z) 9 l (hU V l z) v) 10 l (hU V l z) (V 7 l 12)) 7 l 6 ((V 7 l 6) + 1)) ρ10 := by rw [e_ρ10]; exact (Fρ9).e (fun l a b => mu_ne (by omega)) |>.v (fun l y a b c => mu_ne (by omega))
  refine r_aload_n hC dX6_enter_78 rfl ?_
  refine r_iload_n hC dX6_enter_79 rfl ?_
  refine r_bipush hC dX6_enter_80 rfl ?_
  refine r_iconst hC dX6_enter_82 rfl ?_
  refine z_inv3 hM dX6_enter_83 vl_RX6_188 rfl rfl rfl (Nat.le_of_ble_eq_true rfl) (Nat.le_of_ble_eq_true rfl) ?_
  refine y_moreW (a := (V 7 l 12)) (by omega) (by omega) ⟨fun h => by omega, by omega⟩ ((Sρ10.a7 (s := 12) (f := 8) (by omega) (by omega) (by omega)).trans ((mu_ne (by omega)).trans ((mu_ne (by omega)).trans ((mu_ne (by omega)).trans ((mu_ne (by omega)).trans ((suM_ne (by omega)).trans (rfl))))))) (by omega) ?_
  obtain ⟨ρ11, e_ρ11⟩ : ∃ zz_, zz_ = mu ρ10 31 0 ((22 * l) + 8) (wr ((V 7 l 12) + 1)) := ⟨_, rfl⟩
  rw [← e_ρ11]
  have Sρ11 : SB t σ0 (mu (mu (mu (mu (mu (suM V l (hU V l z) (V 7 l 6)) 8 l (hU V l z) z) 9 l (hU V l z) v) 10 l (hU V l z) (V 7 l 12)) 7 l 6 ((V 7 l 6) + 1)) 7 l 12 (wr ((V 7 l 12) + 1))) ρ11 := by rw [e_ρ11, show ((22 * l) + 8) = 22 * l + 8 from by omega]; exact Sρ10.p7 (by omega) (by omega) (by omega)
  have r16_ρ11 : ρ11 31 0 (22 * l + 16) = fl := by rw [e_ρ11]; exact (mu_ne (by omega)).trans r16_ρ10
  have r17_ρ11 : ρ11 31 0 (22 * l + 17) = 0 := by rw [e_ρ11]; exact (mu_ne (by omega)).trans r17_ρ10
  have Xρ11 : KX t l (mu (mu (mu (mu (mu (suM V l (hU V l z) (V 7 l 6)) 8 l (hU V l z) z) 9 l (hU V l z) v) 10 l (hU V l z) (V 7 l 12)) 7 l 6 ((V 7 l 6) + 1)) 7 l 12 (wr ((V 7 l 12) + 1))) ρ11 := (Xρ10).e (fun m a b c => by rw [e_ρ11]; exact ⟨mu_ne (by omega), mu_ne (by omega)⟩) (fun m c => mu_ne (by omega))
  have Fρ11 : FB (mu (mu (mu (mu (mu (suM V l (hU V l z) (V 7 l 6)) 8 l (hU V l z) z) 9 l (hU V l z) v) 10 l (hU V l z) (V 7 l 12)) 7 l 6 ((V 7 l 6) + 1)) 7 l 12 (wr ((V 7 l 12) + 1))) ρ11 := by rw [e_ρ11]; exact (Fρ10).e (fun l a b => mu_ne (by omega)) |>.v (fun l y a b c => mu_ne (by omega))
  refine r_aload_n hC dX6_enter_86 rfl ?_
  refine r_iload_n hC dX6_enter_87 rfl ?_
  refine r_bipush hC dX6_enter_88 rfl ?_
  refine r_iload hC dX6_enter_90 rfl ?_
  refine z_inv3 hM dX6_enter_92 vl_RX6_173 rfl rfl rfl (Nat.le_of_ble_eq_true rfl) (Nat.le_of_ble_eq_true rfl) ?_
  refine y_set (by omega) (by omega) ⟨fun h => by omega, fun h => by omega⟩ ?_
  obtain ⟨ρ12, e_ρ12⟩ : ∃ zz_, zz_ = mu ρ11 31 0 ((22 * l) + 10) ((V 7 l 6) - (hU V l z)) := ⟨_, rfl⟩
  rw [← e_ρ12]
  have Sρ12 : SB t σ0 (mu (mu (mu (mu (mu (mu (suM V l (hU V l z) (V 7 l 6)) 8 l (hU V l z) z) 9 l (hU V l z) v) 10 l (hU V l z) (V 7 l 12)) 7 l 6 ((V 7 l 6) + 1)) 7 l 12 (wr ((V 7 l 12) + 1))) 7 l 14 ((V 7 l 6) - (hU V l z))) ρ12 := by rw [e_ρ12, show ((22 * l) + 10) = 22 * l + 10 from by omega]; exact Sρ11.p7 (by omega) (by omega) (by omega)
  have r16_ρ12 : ρ12 31 0 (22 * l + 16) = fl := by rw [e_ρ12]; exact (mu_ne (by omega)).trans r16_ρ11
  have r17_ρ12 : ρ12 31 0 (22 * l + 17) = 0 := by rw [e_ρ12]; exact (mu_ne (by omega)).trans r17_ρ11
  have Xρ12 : KX t l (mu (mu (mu (mu (mu (mu (suM V l (hU V l z) (V 7 l 6)) 8 l (hU V l z) z) 9 l (hU V l z) v) 10 l (hU V l z) (V 7 l 12)) 7 l 6 ((V 7 l 6) + 1)) 7 l 12 (wr ((V 7 l 12) + 1))) 7 l 14 ((V 7 l 6) - (hU V l z))) ρ12 := (Xρ11).e (fun m a b c => by rw [e_ρ12]; exact ⟨mu_ne (by omega), mu_ne (by omega)⟩) (fun m c => mu_ne (by omega))
  have Fρ12 : FB (mu (mu (mu (mu (mu (mu (suM V l (hU V l z) (V 7 l 6)) 8 l (hU V l z) z) 9 l (hU V l z) v) 10 l (hU V l z) (V 7 l 12)) 7 l 6 ((V 7 l 6) + 1)) 7 l 12 (wr ((V 7 l 12) + 1))) 7 l 14 ((V 7 l 6) - (hU V l z))) ρ12 := by rw [e_ρ12]; exact (Fρ11).e (fun l a b => mu_ne (by omega)) |>.v (fun l y a b c => mu_ne (by omega))
  refine r_iload_n hC dX6_enter_95 rfl ?_
  refine r_aload_n hC dX6_enter_96 rfl ?_
  refine r_iload_n hC dX6_enter_97 rfl ?_
  refine r_bipush hC dX6_enter_98 rfl ?_
  refine z_inv2 hM dX6_enter_100 vl_RX6_80 rfl rfl rfl (Nat.le_of_ble_eq_true rfl) (Nat.le_of_ble_eq_true rfl) ?_
  refine y_of (by omega) (by omega) (by omega) (fun o13 => ?_)
  have e14 : ρ12 31 0 (22 * l + 6) = (V 7 l 10) := (Sρ12.a7 (s := 10) (f := 6) (by omega) (by omega) (by omega)).trans ((mu_ne (by omega)).trans ((mu_ne (by omega)).trans ((mu_ne (by omega)).trans ((mu_ne (by omega)).trans ((mu_ne (by omega)).trans ((mu_ne (by omega)).trans ((suM_ne (by omega)).trans (rfl))))))))
  rw [e14] at o13 ⊢
  refine r_icmp_le (tgt := 114) hC dX6_enter_103 rfl (fun h15 => ?_) (fun h15 => ?_)
  · have hIns : (mu (mu (mu (mu (mu (mu (suM V l (hU V l z) (V 7 l 6)) 8 l (hU V l z) z) 9 l (hU V l z) v) 10 l (hU V l z) (V 7 l 12)) 7 l 6 ((V 7 l 6) + 1)) 7 l 12 (wr ((V 7 l 12) + 1))) 7 l 14 ((V 7 l 6) - (hU V l z))) = (insM V l (hU V l z) z v) := ins_su0 (by omega) (by omega)
    have iS := Sρ12
    have iX := Xρ12
    have iF := Fρ12
    rw [hIns] at iS iX iF
    have hLI := LK_ins (t := z) (v := v) hL (a := hU V l z) (by omega) (by omega) (by omega)
    refine r_iload hC dX6_enter_114 rfl ?_
    refine r_if_ne (tgt := 154) hC dX6_enter_116 rfl (fun h16 => ?_) (fun h16 => ?_)
    · refine r_aload_n hC dX6_enter_154 rfl ?_
      refine r_iload_n hC dX6_enter_155 rfl ?_
      refine z_inv1 hM dX6_enter_156 vl_RX6_227 rfl rfl rfl (Nat.le_of_ble_eq_true rfl) (Nat.le_of_ble_eq_true rfl) ?_
      refine y_layAnewX (V := (insM V l (hU V l z) z v)) (fl := fl) (by omega) ht iS iX iF (by omega) hLI r16_ρ12 r17_ρ12 (fun ρe Re => ?_)
      have hEn : rgM (lyM (insM V l (hU V l z) z v) l ((insM V l (hU V l z) z v) 7 l 6)) l = enM V l z v := by
        unfold enM
        rw [if_neg (by omega), insM_6]
      rw [hEn] at Re
      have zz6 : enM V l z v 7 l 6 = V 7 l 6 + 1 := enM_6
      have L159 : ∀ (n159 : Nat) (ρ17 W17 : Mm), ((W17 7 l 6).toNat : Int) < (n159 : Int) → (RS t σ0 W17 ρ17) → (drps l (W17 7 l 6).toNat W17 = plM V l z v) → (LK W17 l) → (FI (W17 11 l) (W17 7 l 6)) → (W17 7 l 3 = V 7 l 3 ∧ W17 7 l 4 = V 7 l 4) → K 159 [some (vR 30 0), some (vI l), some (vI z), some (vI v), some (vI (hU V l z)), some (vI ((V 7 l 6) - (hU V l z))), none] [] ρ17 := by
        intro n159
        induction n159 with
        | zero => intro  ρ17 W17   hm  m0_159 m1_159 m2_159 m3_159 m4_159; omega
        | succ n159 ih159 =>
          intro  ρ17 W17   hm159  m0_159 m1_159 m2_159 m3_159 m4_159
          refine r_aload_n hC dX6_enter_159 rfl ?_
          refine r_iload_n hC dX6_enter_160 rfl ?_
          refine z_inv1 hM dX6_enter_161 vl_RX6_230 rfl rfl rfl (Nat.le_of_ble_eq_true rfl) (Nat.le_of_ble_eq_true rfl) ?_
          refine y_isTooMany (V := W17) (by omega) ht ⟨m0_159.1, m0_159.2.1, m0_159.2.2⟩ (by omega) (fun hgo => ?_) (fun hgo => ?_)
          · refine r_if_eq (tgt := 175) hC dX6_enter_164 rfl (fun h18 => by omega) (fun h18 => ?_)
            refine r_aload_n hC dX6_enter_167 rfl ?_
            refine r_iload_n hC dX6_enter_168 rfl ?_
            refine z_inv1 hM dX6_enter_169 vl_RX6_233 rfl rfl rfl (Nat.le_of_ble_eq_true rfl) (Nat.le_of_ble_eq_true rfl) ?_
            have hW1 : 1 ≤ W17 7 l 6 := by have := hgo; unfold goV at this; omega
            have hW6 := m2_159.2.1
            refine y_drop (V := W17) (by omega) ht ⟨m0_159.1, m0_159.2.1, m0_159.2.2⟩ (by omega) m2_159 m3_159 hW1 (fun ρ19 Rρ19 => ?_)
            have d6 : dpM W17 l 7 l 6 = W17 7 l 6 - 1 := dpM_6
            refine r_goto (tgt := 159) hC dX6_enter_172 rfl ?_
            exact ih159  ρ19 (dpM W17 l)   (by omega)  (⟨Rρ19.1, Rρ19.2.1, Rρ19.2.2⟩) (by rw [dpM_6]; have q := m1_159; rw [show (W17 7 l 6).toNat = (W17 7 l 6 - 1).toNat + 1 from by omega, drps_yes hgo] at q; exact q) (LK_dp m2_159 hW1) (FI_dp m3_159 hW1) (⟨(dpM_ne (by omega)).trans m4_159.1, (dpM_ne (by omega)).trans m4_159.2⟩)
          · refine r_if_eq (tgt := 175) hC dX6_enter_164 rfl (fun h20 => ?_) (fun h20 => by omega)
            refine y_vret hK rfl dX6_enter_175 ?_
            have q := m0_159
            have e := m1_159
            rw [drps_no hgo] at e
            rw [e] at q
            exact k _ q
      exact L159 125  ρe (enM V l z v)   (by omega)  (⟨Re.1, Re.2.1, Re.2.2⟩) (by rw [enM_6]; rfl) (LK_en hL (by omega) (by omega)) (FI_en hF (by omega)) (⟨enM_nx (by unfold PS; omega), enM_nx (by unfold PS; omega)⟩)
    · refine r_aload_n hC dX6_enter_119 rfl ?_
      refine r_iload_n hC dX6_enter_120 rfl ?_
      refine r_bipush hC dX6_enter_121 rfl ?_
      refine z_inv2 hM dX6_enter_123 vl_RX6_80 rfl rfl rfl (Nat.le_of_ble_eq_true rfl) (Nat.le_of_ble_eq_true rfl) ?_
      refine y_of (by omega) (by omega) (by omega) (fun o21 => ?_)
      have e22 : ρ12 31 0 (22 * l + 14) = (V 11 l 2) := (iS.a11 (s := 2) (f := 14) (by omega) (by omega) (by omega)).trans ((insM_ne (by omega)).trans (rfl))
      rw [e22] at o21 ⊢
      refine r_if_le (tgt := 133) hC dX6_enter_126 rfl (fun h23 => ?_) (fun h23 => ?_)
      · refine r_iconst hC dX6_enter_133 rfl ?_
        refine r_istore hC dX6_enter_134 rfl ?_
        refine r_aload_n hC dX6_enter_136 rfl ?_
        refine r_iload_n hC dX6_enter_137 rfl ?_
        refine r_bipush hC dX6_enter_138 rfl ?_
        refine r_iconst hC dX6_enter_140 rfl ?_
        refine z_inv3 hM dX6_enter_141 vl_RX6_188 rfl rfl rfl (Nat.le_of_ble_eq_true rfl) (Nat.le_of_ble_eq_true rfl) ?_
        refine y_moreE (a := (V 11 l 2)) (by omega) (by omega) (by omega) ⟨fun h => by omega, by omega⟩ ((iS.a11 (s := 2) (f := 14) (by omega) (by omega) (by omega)).trans ((insM_ne (by omega)).trans (rfl))) (by omega) ?_
        rw [show (V 11 l 2) + 1 = ((V 11 l 2) + 1) from by omega]
        obtain ⟨ρ24, e_ρ24⟩ : ∃ zz_, zz_ = mu ρ12 31 0 ((22 * l) + 14) ((V 11 l 2) + 1) := ⟨_, rfl⟩
        rw [← e_ρ24]
        have Sρ24 : SB t σ0 (mu (insM V l (hU V l z) z v) 11 l 2 ((V 11 l 2) + 1)) ρ24 := by rw [e_ρ24, show ((22 * l) + 14) = 22 * l + 14 from by omega]; exact iS.p11 (by omega) (by omega) (by omega)
        have r16_ρ24 : ρ24 31 0 (22 * l + 16) = fl := by rw [e_ρ24]; exact (mu_ne (by omega)).trans r16_ρ12
        have r17_ρ24 : ρ24 31 0 (22 * l + 17) = 0 := by rw [e_ρ24]; exact (mu_ne (by omega)).trans r17_ρ12
        have Xρ24 : KX t l (mu (insM V l (hU V l z) z v) 11 l 2 ((V 11 l 2) + 1)) ρ24 := (iX).e (fun m a b c => by rw [e_ρ24]; exact ⟨mu_ne (by omega), mu_ne (by omega)⟩) (fun m c => mu_ne (by omega))
        have Fρ24 : FB (mu (insM V l (hU V l z) z v) 11 l 2 ((V 11 l 2) + 1)) ρ24 := by rw [e_ρ24]; exact (iF).e (fun l a b => mu_ne (by omega)) |>.v (fun l y a b c => mu_ne (by omega))
        refine r_aload_n hC dX6_enter_144 rfl ?_
        refine r_iload_n hC dX6_enter_145 rfl ?_
        refine r_iload hC dX6_enter_146 rfl ?_
        refine z_inv2 hM dX6_enter_148 vl_RX6_221 rfl rfl rfl (Nat.le_of_ble_eq_true rfl) (Nat.le_of_ble_eq_true rfl) ?_
        have z0 : (mu (insM V l (hU V l z) z v) 11 l 2 ((V 11 l 2) + 1)) 11 l 0 = (V 11 l 0) := ((mu_ne (by omega)).trans ((insM_ne (by omega)).trans (rfl)))
        have z1 : (mu (insM V l (hU V l z) z v) 11 l 2 ((V 11 l 2) + 1)) 11 l 1 = (V 11 l 1) := ((mu_ne (by omega)).trans ((insM_ne (by omega)).trans (rfl)))
        have z2 : (mu (insM V l (hU V l z) z v) 11 l 2 ((V 11 l 2) + 1)) 11 l 2 = ((V 11 l 2) + 1) := (mu_self _ _ _ _ _)
        have z3 : (mu (insM V l (hU V l z) z v) 11 l 2 ((V 11 l 2) + 1)) 11 l 3 = (V 11 l 3) := ((mu_ne (by omega)).trans ((insM_ne (by omega)).trans (rfl)))
        have qL : LK (mu (insM V l (hU V l z) z v) 11 l 2 ((V 11 l 2) + 1)) l := hLI.to (fun c2 x y h => mu_ne (by omega))
        refine y_endMove (V := (mu (insM V l (hU V l z) z v) 11 l 2 ((V 11 l 2) + 1))) (fl := fl) (fr := 0) (by omega) (by omega) ht Sρ24 Xρ24 Fρ24 (by omega) qL (by omega) (by omega) r16_ρ24 r17_ρ24 (fun ρe Re => ?_)
        have hEn : rgM (su (mu (insM V l (hU V l z) z v) 11 l 2 ((V 11 l 2) + 1)) 11 l (emR 0 ((mu (insM V l (hU V l z) z v) 11 l 2 ((V 11 l 2) + 1)) 11 l))) l = enM V l z v := by
          unfold enM
          rw [if_pos (by omega), adM_0 (V := (insM V l (hU V l z) z v)) (by rw [insM_ne (by omega)]; omega)]
          rw [show (insM V l (hU V l z) z v) 11 l 2 = V 11 l 2 from insM_ne (by omega)]
        rw [hEn] at Re
        have zz6 : enM V l z v 7 l 6 = V 7 l 6 + 1 := enM_6
        refine r_goto (tgt := 159) hC dX6_enter_151 rfl ?_
        have L159 : ∀ (n159 : Nat) (ρ25 W25 : Mm), ((W25 7 l 6).toNat : Int) < (n159 : Int) → (RS t σ0 W25 ρ25) → (drps l (W25 7 l 6).toNat W25 = plM V l z v) → (LK W25 l) → (FI (W25 11 l) (W25 7 l 6)) → (W25 7 l 3 = V 7 l 3 ∧ W25 7 l 4 = V 7 l 4) → K 159 [some (vR 30 0), some (vI l), some (vI z), some (vI v), some (vI (hU V l z)), some (vI ((V 7 l 6) - (hU V l z))), some (vI 0)] [] ρ25 := by
          intro n159
          induction n159 with
          | zero => intro  ρ25 W25   hm  m0_159 m1_159 m2_159 m3_159 m4_159; omega
          | succ n159 ih159 =>
            intro  ρ25 W25   hm159  m0_159 m1_159 m2_159 m3_159 m4_159
            refine r_aload_n hC dX6_enter_159 rfl ?_
            refine r_iload_n hC dX6_enter_160 rfl ?_
            refine z_inv1 hM dX6_enter_161 vl_RX6_230 rfl rfl rfl (Nat.le_of_ble_eq_true rfl) (Nat.le_of_ble_eq_true rfl) ?_
            refine y_isTooMany (V := W25) (by omega) ht ⟨m0_159.1, m0_159.2.1, m0_159.2.2⟩ (by omega) (fun hgo => ?_) (fun hgo => ?_)
            · refine r_if_eq (tgt := 175) hC dX6_enter_164 rfl (fun h26 => by omega) (fun h26 => ?_)
              refine r_aload_n hC dX6_enter_167 rfl ?_
              refine r_iload_n hC dX6_enter_168 rfl ?_
              refine z_inv1 hM dX6_enter_169 vl_RX6_233 rfl rfl rfl (Nat.le_of_ble_eq_true rfl) (Nat.le_of_ble_eq_true rfl) ?_
              have hW1 : 1 ≤ W25 7 l 6 := by have := hgo; unfold goV at this; omega
              have hW6 := m2_159.2.1
              refine y_drop (V := W25) (by omega) ht ⟨m0_159.1, m0_159.2.1, m0_159.2.2⟩ (by omega) m2_159 m3_159 hW1 (fun ρ27 Rρ27 => ?_)
              have d6 : dpM W25 l 7 l 6 = W25 7 l 6 - 1 := dpM_6
              refine r_goto (tgt := 159) hC dX6_enter_172 rfl ?_
              exact ih159  ρ27 (dpM W25 l)   (by omega)  (⟨Rρ27.1, Rρ27.2.1, Rρ27.2.2⟩) (by rw [dpM_6]; have q := m1_159; rw [show (W25 7 l 6).toNat = (W25 7 l 6 - 1).toNat + 1 from by omega, drps_yes hgo] at q; exact q) (LK_dp m2_159 hW1) (FI_dp m3_159 hW1) (⟨(dpM_ne (by omega)).trans m4_159.1, (dpM_ne (by omega)).trans m4_159.2⟩)
            · refine r_if_eq (tgt := 175) hC dX6_enter_164 rfl (fun h28 => ?_) (fun h28 => by omega)
              refine y_vret hK rfl dX6_enter_175 ?_
              have q := m0_159
              have e := m1_159
              rw [drps_no hgo] at e
              rw [e] at q
              exact k _ q
        exact L159 125  ρe (enM V l z v)   (by omega)  (⟨Re.1, Re.2.1, Re.2.2⟩) (by rw [enM_6]; rfl) (LK_en hL (by omega) (by omega)) (FI_en hF (by omega)) (⟨enM_nx (by unfold PS; omega), enM_nx (by unfold PS; omega)⟩)
      · refine r_iconst hC dX6_enter_129 rfl ?_
        refine r_goto (tgt := 134) hC dX6_enter_130 rfl ?_
        refine r_istore hC dX6_enter_134 rfl ?_
        refine r_aload_n hC dX6_enter_136 rfl ?_
        refine r_iload_n hC dX6_enter_137 rfl ?_
        refine r_bipush hC dX6_enter_138 rfl ?_
        refine r_iconst hC dX6_enter_140 rfl ?_
        refine z_inv3 hM dX6_enter_141 vl_RX6_188 rfl rfl rfl (Nat.le_of_ble_eq_true rfl) (Nat.le_of_ble_eq_true rfl) ?_
        refine y_moreE (a := (V 11 l 2)) (by omega) (by omega) (by omega) ⟨fun h => by omega, by omega⟩ ((iS.a11 (s := 2) (f := 14) (by omega) (by omega) (by omega)).trans ((insM_ne (by omega)).trans (rfl))) (by omega) ?_
        rw [show (V 11 l 2) + 1 = ((V 11 l 2) + 1) from by omega]
        obtain ⟨ρ29, e_ρ29⟩ : ∃ zz_, zz_ = mu ρ12 31 0 ((22 * l) + 14) ((V 11 l 2) + 1) := ⟨_, rfl⟩
        rw [← e_ρ29]
        have Sρ29 : SB t σ0 (mu (insM V l (hU V l z) z v) 11 l 2 ((V 11 l 2) + 1)) ρ29 := by rw [e_ρ29, show ((22 * l) + 14) = 22 * l + 14 from by omega]; exact iS.p11 (by omega) (by omega) (by omega)
        have r16_ρ29 : ρ29 31 0 (22 * l + 16) = fl := by rw [e_ρ29]; exact (mu_ne (by omega)).trans r16_ρ12
        have r17_ρ29 : ρ29 31 0 (22 * l + 17) = 0 := by rw [e_ρ29]; exact (mu_ne (by omega)).trans r17_ρ12
        have Xρ29 : KX t l (mu (insM V l (hU V l z) z v) 11 l 2 ((V 11 l 2) + 1)) ρ29 := (iX).e (fun m a b c => by rw [e_ρ29]; exact ⟨mu_ne (by omega), mu_ne (by omega)⟩) (fun m c => mu_ne (by omega))
        have Fρ29 : FB (mu (insM V l (hU V l z) z v) 11 l 2 ((V 11 l 2) + 1)) ρ29 := by rw [e_ρ29]; exact (iF).e (fun l a b => mu_ne (by omega)) |>.v (fun l y a b c => mu_ne (by omega))
        refine r_aload_n hC dX6_enter_144 rfl ?_
        refine r_iload_n hC dX6_enter_145 rfl ?_
        refine r_iload hC dX6_enter_146 rfl ?_
        refine z_inv2 hM dX6_enter_148 vl_RX6_221 rfl rfl rfl (Nat.le_of_ble_eq_true rfl) (Nat.le_of_ble_eq_true rfl) ?_
        have z0 : (mu (insM V l (hU V l z) z v) 11 l 2 ((V 11 l 2) + 1)) 11 l 0 = (V 11 l 0) := ((mu_ne (by omega)).trans ((insM_ne (by omega)).trans (rfl)))
        have z1 : (mu (insM V l (hU V l z) z v) 11 l 2 ((V 11 l 2) + 1)) 11 l 1 = (V 11 l 1) := ((mu_ne (by omega)).trans ((insM_ne (by omega)).trans (rfl)))
        have z2 : (mu (insM V l (hU V l z) z v) 11 l 2 ((V 11 l 2) + 1)) 11 l 2 = ((V 11 l 2) + 1) := (mu_self _ _ _ _ _)
        have z3 : (mu (insM V l (hU V l z) z v) 11 l 2 ((V 11 l 2) + 1)) 11 l 3 = (V 11 l 3) := ((mu_ne (by omega)).trans ((insM_ne (by omega)).trans (rfl)))
        have qL : LK (mu (insM V l (hU V l z) z v) 11 l 2 ((V 11 l 2) + 1)) l := hLI.to (fun c2 x y h => mu_ne (by omega))
        refine y_endMove (V := (mu (insM V l (hU V l z) z v) 11 l 2 ((V 11 l 2) + 1))) (fl := fl) (fr := 0) (by omega) (by omega) ht Sρ29 Xρ29 Fρ29 (by omega) qL (by omega) (by omega) r16_ρ29 r17_ρ29 (fun ρe Re => ?_)
        have hEn : rgM (su (mu (insM V l (hU V l z) z v) 11 l 2 ((V 11 l 2) + 1)) 11 l (emR 1 ((mu (insM V l (hU V l z) z v) 11 l 2 ((V 11 l 2) + 1)) 11 l))) l = enM V l z v := by
          unfold enM
          rw [if_pos (by omega), adM_1 (V := (insM V l (hU V l z) z v)) (by rw [insM_ne (by omega)]; omega)]
          rw [show (insM V l (hU V l z) z v) 11 l 2 = V 11 l 2 from insM_ne (by omega)]
        rw [hEn] at Re
        have zz6 : enM V l z v 7 l 6 = V 7 l 6 + 1 := enM_6
        refine r_goto (tgt := 159) hC dX6_enter_151 rfl ?_
        have L159 : ∀ (n159 : Nat) (ρ30 W30 : Mm), ((W30 7 l 6).toNat : Int) < (n159 : Int) → (RS t σ0 W30 ρ30) → (drps l (W30 7 l 6).toNat W30 = plM V l z v) → (LK W30 l) → (FI (W30 11 l) (W30 7 l 6)) → (W30 7 l 3 = V 7 l 3 ∧ W30 7 l 4 = V 7 l 4) → K 159 [some (vR 30 0), some (vI l), some (vI z), some (vI v), some (vI (hU V l z)), some (vI ((V 7 l 6) - (hU V l z))), some (vI 1)] [] ρ30 := by
          intro n159
          induction n159 with
          | zero => intro  ρ30 W30   hm  m0_159 m1_159 m2_159 m3_159 m4_159; omega
          | succ n159 ih159 =>
            intro  ρ30 W30   hm159  m0_159 m1_159 m2_159 m3_159 m4_159
            refine r_aload_n hC dX6_enter_159 rfl ?_
            refine r_iload_n hC dX6_enter_160 rfl ?_
            refine z_inv1 hM dX6_enter_161 vl_RX6_230 rfl rfl rfl (Nat.le_of_ble_eq_true rfl) (Nat.le_of_ble_eq_true rfl) ?_
            refine y_isTooMany (V := W30) (by omega) ht ⟨m0_159.1, m0_159.2.1, m0_159.2.2⟩ (by omega) (fun hgo => ?_) (fun hgo => ?_)
            · refine r_if_eq (tgt := 175) hC dX6_enter_164 rfl (fun h31 => by omega) (fun h31 => ?_)
              refine r_aload_n hC dX6_enter_167 rfl ?_
              refine r_iload_n hC dX6_enter_168 rfl ?_
              refine z_inv1 hM dX6_enter_169 vl_RX6_233 rfl rfl rfl (Nat.le_of_ble_eq_true rfl) (Nat.le_of_ble_eq_true rfl) ?_
              have hW1 : 1 ≤ W30 7 l 6 := by have := hgo; unfold goV at this; omega
              have hW6 := m2_159.2.1
              refine y_drop (V := W30) (by omega) ht ⟨m0_159.1, m0_159.2.1, m0_159.2.2⟩ (by omega) m2_159 m3_159 hW1 (fun ρ32 Rρ32 => ?_)
              have d6 : dpM W30 l 7 l 6 = W30 7 l 6 - 1 := dpM_6
              refine r_goto (tgt := 159) hC dX6_enter_172 rfl ?_
              exact ih159  ρ32 (dpM W30 l)   (by omega)  (⟨Rρ32.1, Rρ32.2.1, Rρ32.2.2⟩) (by rw [dpM_6]; have q := m1_159; rw [show (W30 7 l 6).toNat = (W30 7 l 6 - 1).toNat + 1 from by omega, drps_yes hgo] at q; exact q) (LK_dp m2_159 hW1) (FI_dp m3_159 hW1) (⟨(dpM_ne (by omega)).trans m4_159.1, (dpM_ne (by omega)).trans m4_159.2⟩)
            · refine r_if_eq (tgt := 175) hC dX6_enter_164 rfl (fun h33 => ?_) (fun h33 => by omega)
              refine y_vret hK rfl dX6_enter_175 ?_
              have q := m0_159
              have e := m1_159
              rw [drps_no hgo] at e
              rw [e] at q
              exact k _ q
        exact L159 125  ρe (enM V l z v)   (by omega)  (⟨Re.1, Re.2.1, Re.2.2⟩) (by rw [enM_6]; rfl) (LK_en hL (by omega) (by omega)) (FI_en hF (by omega)) (⟨enM_nx (by unfold PS; omega), enM_nx (by unfold PS; omega)⟩)
  · refine r_aload_n hC dX6_enter_106 rfl ?_
    refine r_iload_n hC dX6_enter_107 rfl ?_
    refine r_bipush hC dX6_enter_108 rfl ?_
    refine r_iload_n hC dX6_enter_110 rfl ?_
    refine z_inv3 hM dX6_enter_111 vl_RX6_173 rfl rfl rfl (Nat.le_of_ble_eq_true rfl) (Nat.le_of_ble_eq_true rfl) ?_
    refine y_set (by omega) (by omega) ⟨fun h => by omega, fun h => by omega⟩ ?_
    obtain ⟨ρ34, e_ρ34⟩ : ∃ zz_, zz_ = mu ρ12 31 0 ((22 * l) + 6) z := ⟨_, rfl⟩
    rw [← e_ρ34]
    have Sρ34 : SB t σ0 (mu (mu (mu (mu (mu (mu (mu (suM V l (hU V l z) (V 7 l 6)) 8 l (hU V l z) z) 9 l (hU V l z) v) 10 l (hU V l z) (V 7 l 12)) 7 l 6 ((V 7 l 6) + 1)) 7 l 12 (wr ((V 7 l 12) + 1))) 7 l 14 ((V 7 l 6) - (hU V l z))) 7 l 10 z) ρ34 := by rw [e_ρ34, show ((22 * l) + 6) = 22 * l + 6 from by omega]; exact Sρ12.p7 (by omega) (by omega) (by omega)
    have r16_ρ34 : ρ34 31 0 (22 * l + 16) = fl := by rw [e_ρ34]; exact (mu_ne (by omega)).trans r16_ρ12
    have r17_ρ34 : ρ34 31 0 (22 * l + 17) = 0 := by rw [e_ρ34]; exact (mu_ne (by omega)).trans r17_ρ12
    have Xρ34 : KX t l (mu (mu (mu (mu (mu (mu (mu (suM V l (hU V l z) (V 7 l 6)) 8 l (hU V l z) z) 9 l (hU V l z) v) 10 l (hU V l z) (V 7 l 12)) 7 l 6 ((V 7 l 6) + 1)) 7 l 12 (wr ((V 7 l 12) + 1))) 7 l 14 ((V 7 l 6) - (hU V l z))) 7 l 10 z) ρ34 := (Xρ12).e (fun m a b c => by rw [e_ρ34]; exact ⟨mu_ne (by omega), mu_ne (by omega)⟩) (fun m c => mu_ne (by omega))
    have Fρ34 : FB (mu (mu (mu (mu (mu (mu (mu (suM V l (hU V l z) (V 7 l 6)) 8 l (hU V l z) z) 9 l (hU V l z) v) 10 l (hU V l z) (V 7 l 12)) 7 l 6 ((V 7 l 6) + 1)) 7 l 12 (wr ((V 7 l 12) + 1))) 7 l 14 ((V 7 l 6) - (hU V l z))) 7 l 10 z) ρ34 := by rw [e_ρ34]; exact (Fρ12).e (fun l a b => mu_ne (by omega)) |>.v (fun l y a b c => mu_ne (by omega))
    have hIns : (mu (mu (mu (mu (mu (mu (mu (suM V l (hU V l z) (V 7 l 6)) 8 l (hU V l z) z) 9 l (hU V l z) v) 10 l (hU V l z) (V 7 l 12)) 7 l 6 ((V 7 l 6) + 1)) 7 l 12 (wr ((V 7 l 12) + 1))) 7 l 14 ((V 7 l 6) - (hU V l z))) 7 l 10 z) = (insM V l (hU V l z) z v) := ins_su1 (by omega) (by omega)
    have iS := Sρ34
    have iX := Xρ34
    have iF := Fρ34
    rw [hIns] at iS iX iF
    have hLI := LK_ins (t := z) (v := v) hL (a := hU V l z) (by omega) (by omega) (by omega)
    refine r_iload hC dX6_enter_114 rfl ?_
    refine r_if_ne (tgt := 154) hC dX6_enter_116 rfl (fun h35 => ?_) (fun h35 => ?_)
    · refine r_aload_n hC dX6_enter_154 rfl ?_
      refine r_iload_n hC dX6_enter_155 rfl ?_
      refine z_inv1 hM dX6_enter_156 vl_RX6_227 rfl rfl rfl (Nat.le_of_ble_eq_true rfl) (Nat.le_of_ble_eq_true rfl) ?_
      refine y_layAnewX (V := (insM V l (hU V l z) z v)) (fl := fl) (by omega) ht iS iX iF (by omega) hLI r16_ρ34 r17_ρ34 (fun ρe Re => ?_)
      have hEn : rgM (lyM (insM V l (hU V l z) z v) l ((insM V l (hU V l z) z v) 7 l 6)) l = enM V l z v := by
        unfold enM
        rw [if_neg (by omega), insM_6]
      rw [hEn] at Re
      have zz6 : enM V l z v 7 l 6 = V 7 l 6 + 1 := enM_6
      have L159 : ∀ (n159 : Nat) (ρ36 W36 : Mm), ((W36 7 l 6).toNat : Int) < (n159 : Int) → (RS t σ0 W36 ρ36) → (drps l (W36 7 l 6).toNat W36 = plM V l z v) → (LK W36 l) → (FI (W36 11 l) (W36 7 l 6)) → (W36 7 l 3 = V 7 l 3 ∧ W36 7 l 4 = V 7 l 4) → K 159 [some (vR 30 0), some (vI l), some (vI z), some (vI v), some (vI (hU V l z)), some (vI ((V 7 l 6) - (hU V l z))), none] [] ρ36 := by
        intro n159
        induction n159 with
        | zero => intro  ρ36 W36   hm  m0_159 m1_159 m2_159 m3_159 m4_159; omega
        | succ n159 ih159 =>
          intro  ρ36 W36   hm159  m0_159 m1_159 m2_159 m3_159 m4_159
          refine r_aload_n hC dX6_enter_159 rfl ?_
          refine r_iload_n hC dX6_enter_160 rfl ?_
          refine z_inv1 hM dX6_enter_161 vl_RX6_230 rfl rfl rfl (Nat.le_of_ble_eq_true rfl) (Nat.le_of_ble_eq_true rfl) ?_
          refine y_isTooMany (V := W36) (by omega) ht ⟨m0_159.1, m0_159.2.1, m0_159.2.2⟩ (by omega) (fun hgo => ?_) (fun hgo => ?_)
          · refine r_if_eq (tgt := 175) hC dX6_enter_164 rfl (fun h37 => by omega) (fun h37 => ?_)
            refine r_aload_n hC dX6_enter_167 rfl ?_
            refine r_iload_n hC dX6_enter_168 rfl ?_
            refine z_inv1 hM dX6_enter_169 vl_RX6_233 rfl rfl rfl (Nat.le_of_ble_eq_true rfl) (Nat.le_of_ble_eq_true rfl) ?_
            have hW1 : 1 ≤ W36 7 l 6 := by have := hgo; unfold goV at this; omega
            have hW6 := m2_159.2.1
            refine y_drop (V := W36) (by omega) ht ⟨m0_159.1, m0_159.2.1, m0_159.2.2⟩ (by omega) m2_159 m3_159 hW1 (fun ρ38 Rρ38 => ?_)
            have d6 : dpM W36 l 7 l 6 = W36 7 l 6 - 1 := dpM_6
            refine r_goto (tgt := 159) hC dX6_enter_172 rfl ?_
            exact ih159  ρ38 (dpM W36 l)   (by omega)  (⟨Rρ38.1, Rρ38.2.1, Rρ38.2.2⟩) (by rw [dpM_6]; have q := m1_159; rw [show (W36 7 l 6).toNat = (W36 7 l 6 - 1).toNat + 1 from by omega, drps_yes hgo] at q; exact q) (LK_dp m2_159 hW1) (FI_dp m3_159 hW1) (⟨(dpM_ne (by omega)).trans m4_159.1, (dpM_ne (by omega)).trans m4_159.2⟩)
          · refine r_if_eq (tgt := 175) hC dX6_enter_164 rfl (fun h39 => ?_) (fun h39 => by omega)
            refine y_vret hK rfl dX6_enter_175 ?_
            have q := m0_159
            have e := m1_159
            rw [drps_no hgo] at e
            rw [e] at q
            exact k _ q
      exact L159 125  ρe (enM V l z v)   (by omega)  (⟨Re.1, Re.2.1, Re.2.2⟩) (by rw [enM_6]; rfl) (LK_en hL (by omega) (by omega)) (FI_en hF (by omega)) (⟨enM_nx (by unfold PS; omega), enM_nx (by unfold PS; omega)⟩)
    · refine r_aload_n hC dX6_enter_119 rfl ?_
      refine r_iload_n hC dX6_enter_120 rfl ?_
      refine r_bipush hC dX6_enter_121 rfl ?_
      refine z_inv2 hM dX6_enter_123 vl_RX6_80 rfl rfl rfl (Nat.le_of_ble_eq_true rfl) (Nat.le_of_ble_eq_true rfl) ?_
      refine y_of (by omega) (by omega) (by omega) (fun o40 => ?_)
      have e41 : ρ34 31 0 (22 * l + 14) = (V 11 l 2) := (iS.a11 (s := 2) (f := 14) (by omega) (by omega) (by omega)).trans ((insM_ne (by omega)).trans (rfl))
      rw [e41] at o40 ⊢
      refine r_if_le (tgt := 133) hC dX6_enter_126 rfl (fun h42 => ?_) (fun h42 => ?_)
      · refine r_iconst hC dX6_enter_133 rfl ?_
        refine r_istore hC dX6_enter_134 rfl ?_
        refine r_aload_n hC dX6_enter_136 rfl ?_
        refine r_iload_n hC dX6_enter_137 rfl ?_
        refine r_bipush hC dX6_enter_138 rfl ?_
        refine r_iconst hC dX6_enter_140 rfl ?_
        refine z_inv3 hM dX6_enter_141 vl_RX6_188 rfl rfl rfl (Nat.le_of_ble_eq_true rfl) (Nat.le_of_ble_eq_true rfl) ?_
        refine y_moreE (a := (V 11 l 2)) (by omega) (by omega) (by omega) ⟨fun h => by omega, by omega⟩ ((iS.a11 (s := 2) (f := 14) (by omega) (by omega) (by omega)).trans ((insM_ne (by omega)).trans (rfl))) (by omega) ?_
        rw [show (V 11 l 2) + 1 = ((V 11 l 2) + 1) from by omega]
        obtain ⟨ρ43, e_ρ43⟩ : ∃ zz_, zz_ = mu ρ34 31 0 ((22 * l) + 14) ((V 11 l 2) + 1) := ⟨_, rfl⟩
        rw [← e_ρ43]
        have Sρ43 : SB t σ0 (mu (insM V l (hU V l z) z v) 11 l 2 ((V 11 l 2) + 1)) ρ43 := by rw [e_ρ43, show ((22 * l) + 14) = 22 * l + 14 from by omega]; exact iS.p11 (by omega) (by omega) (by omega)
        have r16_ρ43 : ρ43 31 0 (22 * l + 16) = fl := by rw [e_ρ43]; exact (mu_ne (by omega)).trans r16_ρ34
        have r17_ρ43 : ρ43 31 0 (22 * l + 17) = 0 := by rw [e_ρ43]; exact (mu_ne (by omega)).trans r17_ρ34
        have Xρ43 : KX t l (mu (insM V l (hU V l z) z v) 11 l 2 ((V 11 l 2) + 1)) ρ43 := (iX).e (fun m a b c => by rw [e_ρ43]; exact ⟨mu_ne (by omega), mu_ne (by omega)⟩) (fun m c => mu_ne (by omega))
        have Fρ43 : FB (mu (insM V l (hU V l z) z v) 11 l 2 ((V 11 l 2) + 1)) ρ43 := by rw [e_ρ43]; exact (iF).e (fun l a b => mu_ne (by omega)) |>.v (fun l y a b c => mu_ne (by omega))
        refine r_aload_n hC dX6_enter_144 rfl ?_
        refine r_iload_n hC dX6_enter_145 rfl ?_
        refine r_iload hC dX6_enter_146 rfl ?_
        refine z_inv2 hM dX6_enter_148 vl_RX6_221 rfl rfl rfl (Nat.le_of_ble_eq_true rfl) (Nat.le_of_ble_eq_true rfl) ?_
        have z0 : (mu (insM V l (hU V l z) z v) 11 l 2 ((V 11 l 2) + 1)) 11 l 0 = (V 11 l 0) := ((mu_ne (by omega)).trans ((insM_ne (by omega)).trans (rfl)))
        have z1 : (mu (insM V l (hU V l z) z v) 11 l 2 ((V 11 l 2) + 1)) 11 l 1 = (V 11 l 1) := ((mu_ne (by omega)).trans ((insM_ne (by omega)).trans (rfl)))
        have z2 : (mu (insM V l (hU V l z) z v) 11 l 2 ((V 11 l 2) + 1)) 11 l 2 = ((V 11 l 2) + 1) := (mu_self _ _ _ _ _)
        have z3 : (mu (insM V l (hU V l z) z v) 11 l 2 ((V 11 l 2) + 1)) 11 l 3 = (V 11 l 3) := ((mu_ne (by omega)).trans ((insM_ne (by omega)).trans (rfl)))
        have qL : LK (mu (insM V l (hU V l z) z v) 11 l 2 ((V 11 l 2) + 1)) l := hLI.to (fun c2 x y h => mu_ne (by omega))
        refine y_endMove (V := (mu (insM V l (hU V l z) z v) 11 l 2 ((V 11 l 2) + 1))) (fl := fl) (fr := 0) (by omega) (by omega) ht Sρ43 Xρ43 Fρ43 (by omega) qL (by omega) (by omega) r16_ρ43 r17_ρ43 (fun ρe Re => ?_)
        have hEn : rgM (su (mu (insM V l (hU V l z) z v) 11 l 2 ((V 11 l 2) + 1)) 11 l (emR 0 ((mu (insM V l (hU V l z) z v) 11 l 2 ((V 11 l 2) + 1)) 11 l))) l = enM V l z v := by
          unfold enM
          rw [if_pos (by omega), adM_0 (V := (insM V l (hU V l z) z v)) (by rw [insM_ne (by omega)]; omega)]
          rw [show (insM V l (hU V l z) z v) 11 l 2 = V 11 l 2 from insM_ne (by omega)]
        rw [hEn] at Re
        have zz6 : enM V l z v 7 l 6 = V 7 l 6 + 1 := enM_6
        refine r_goto (tgt := 159) hC dX6_enter_151 rfl ?_
        have L159 : ∀ (n159 : Nat) (ρ44 W44 : Mm), ((W44 7 l 6).toNat : Int) < (n159 : Int) → (RS t σ0 W44 ρ44) → (drps l (W44 7 l 6).toNat W44 = plM V l z v) → (LK W44 l) → (FI (W44 11 l) (W44 7 l 6)) → (W44 7 l 3 = V 7 l 3 ∧ W44 7 l 4 = V 7 l 4) → K 159 [some (vR 30 0), some (vI l), some (vI z), some (vI v), some (vI (hU V l z)), some (vI ((V 7 l 6) - (hU V l z))), some (vI 0)] [] ρ44 := by
          intro n159
          induction n159 with
          | zero => intro  ρ44 W44   hm  m0_159 m1_159 m2_159 m3_159 m4_159; omega
          | succ n159 ih159 =>
            intro  ρ44 W44   hm159  m0_159 m1_159 m2_159 m3_159 m4_159
            refine r_aload_n hC dX6_enter_159 rfl ?_
            refine r_iload_n hC dX6_enter_160 rfl ?_
            refine z_inv1 hM dX6_enter_161 vl_RX6_230 rfl rfl rfl (Nat.le_of_ble_eq_true rfl) (Nat.le_of_ble_eq_true rfl) ?_
            refine y_isTooMany (V := W44) (by omega) ht ⟨m0_159.1, m0_159.2.1, m0_159.2.2⟩ (by omega) (fun hgo => ?_) (fun hgo => ?_)
            · refine r_if_eq (tgt := 175) hC dX6_enter_164 rfl (fun h45 => by omega) (fun h45 => ?_)
              refine r_aload_n hC dX6_enter_167 rfl ?_
              refine r_iload_n hC dX6_enter_168 rfl ?_
              refine z_inv1 hM dX6_enter_169 vl_RX6_233 rfl rfl rfl (Nat.le_of_ble_eq_true rfl) (Nat.le_of_ble_eq_true rfl) ?_
              have hW1 : 1 ≤ W44 7 l 6 := by have := hgo; unfold goV at this; omega
              have hW6 := m2_159.2.1
              refine y_drop (V := W44) (by omega) ht ⟨m0_159.1, m0_159.2.1, m0_159.2.2⟩ (by omega) m2_159 m3_159 hW1 (fun ρ46 Rρ46 => ?_)
              have d6 : dpM W44 l 7 l 6 = W44 7 l 6 - 1 := dpM_6
              refine r_goto (tgt := 159) hC dX6_enter_172 rfl ?_
              exact ih159  ρ46 (dpM W44 l)   (by omega)  (⟨Rρ46.1, Rρ46.2.1, Rρ46.2.2⟩) (by rw [dpM_6]; have q := m1_159; rw [show (W44 7 l 6).toNat = (W44 7 l 6 - 1).toNat + 1 from by omega, drps_yes hgo] at q; exact q) (LK_dp m2_159 hW1) (FI_dp m3_159 hW1) (⟨(dpM_ne (by omega)).trans m4_159.1, (dpM_ne (by omega)).trans m4_159.2⟩)
            · refine r_if_eq (tgt := 175) hC dX6_enter_164 rfl (fun h47 => ?_) (fun h47 => by omega)
              refine y_vret hK rfl dX6_enter_175 ?_
              have q := m0_159
              have e := m1_159
              rw [drps_no hgo] at e
              rw [e] at q
              exact k _ q
        exact L159 125  ρe (enM V l z v)   (by omega)  (⟨Re.1, Re.2.1, Re.2.2⟩) (by rw [enM_6]; rfl) (LK_en hL (by omega) (by omega)) (FI_en hF (by omega)) (⟨enM_nx (by unfold PS; omega), enM_nx (by unfold PS; omega)⟩)
      · refine r_iconst hC dX6_enter_129 rfl ?_
        refine r_goto (tgt := 134) hC dX6_enter_130 rfl ?_
        refine r_istore hC dX6_enter_134 rfl ?_
        refine r_aload_n hC dX6_enter_136 rfl ?_
        refine r_iload_n hC dX6_enter_137 rfl ?_
        refine r_bipush hC dX6_enter_138 rfl ?_
        refine r_iconst hC dX6_enter_140 rfl ?_
        refine z_inv3 hM dX6_enter_141 vl_RX6_188 rfl rfl rfl (Nat.le_of_ble_eq_true rfl) (Nat.le_of_ble_eq_true rfl) ?_
        refine y_moreE (a := (V 11 l 2)) (by omega) (by omega) (by omega) ⟨fun h => by omega, by omega⟩ ((iS.a11 (s := 2) (f := 14) (by omega) (by omega) (by omega)).trans ((insM_ne (by omega)).trans (rfl))) (by omega) ?_
        rw [show (V 11 l 2) + 1 = ((V 11 l 2) + 1) from by omega]
        obtain ⟨ρ48, e_ρ48⟩ : ∃ zz_, zz_ = mu ρ34 31 0 ((22 * l) + 14) ((V 11 l 2) + 1) := ⟨_, rfl⟩
        rw [← e_ρ48]
        have Sρ48 : SB t σ0 (mu (insM V l (hU V l z) z v) 11 l 2 ((V 11 l 2) + 1)) ρ48 := by rw [e_ρ48, show ((22 * l) + 14) = 22 * l + 14 from by omega]; exact iS.p11 (by omega) (by omega) (by omega)
        have r16_ρ48 : ρ48 31 0 (22 * l + 16) = fl := by rw [e_ρ48]; exact (mu_ne (by omega)).trans r16_ρ34
        have r17_ρ48 : ρ48 31 0 (22 * l + 17) = 0 := by rw [e_ρ48]; exact (mu_ne (by omega)).trans r17_ρ34
        have Xρ48 : KX t l (mu (insM V l (hU V l z) z v) 11 l 2 ((V 11 l 2) + 1)) ρ48 := (iX).e (fun m a b c => by rw [e_ρ48]; exact ⟨mu_ne (by omega), mu_ne (by omega)⟩) (fun m c => mu_ne (by omega))
        have Fρ48 : FB (mu (insM V l (hU V l z) z v) 11 l 2 ((V 11 l 2) + 1)) ρ48 := by rw [e_ρ48]; exact (iF).e (fun l a b => mu_ne (by omega)) |>.v (fun l y a b c => mu_ne (by omega))
        refine r_aload_n hC dX6_enter_144 rfl ?_
        refine r_iload_n hC dX6_enter_145 rfl ?_
        refine r_iload hC dX6_enter_146 rfl ?_
        refine z_inv2 hM dX6_enter_148 vl_RX6_221 rfl rfl rfl (Nat.le_of_ble_eq_true rfl) (Nat.le_of_ble_eq_true rfl) ?_
        have z0 : (mu (insM V l (hU V l z) z v) 11 l 2 ((V 11 l 2) + 1)) 11 l 0 = (V 11 l 0) := ((mu_ne (by omega)).trans ((insM_ne (by omega)).trans (rfl)))
        have z1 : (mu (insM V l (hU V l z) z v) 11 l 2 ((V 11 l 2) + 1)) 11 l 1 = (V 11 l 1) := ((mu_ne (by omega)).trans ((insM_ne (by omega)).trans (rfl)))
        have z2 : (mu (insM V l (hU V l z) z v) 11 l 2 ((V 11 l 2) + 1)) 11 l 2 = ((V 11 l 2) + 1) := (mu_self _ _ _ _ _)
        have z3 : (mu (insM V l (hU V l z) z v) 11 l 2 ((V 11 l 2) + 1)) 11 l 3 = (V 11 l 3) := ((mu_ne (by omega)).trans ((insM_ne (by omega)).trans (rfl)))
        have qL : LK (mu (insM V l (hU V l z) z v) 11 l 2 ((V 11 l 2) + 1)) l := hLI.to (fun c2 x y h => mu_ne (by omega))
        refine y_endMove (V := (mu (insM V l (hU V l z) z v) 11 l 2 ((V 11 l 2) + 1))) (fl := fl) (fr := 0) (by omega) (by omega) ht Sρ48 Xρ48 Fρ48 (by omega) qL (by omega) (by omega) r16_ρ48 r17_ρ48 (fun ρe Re => ?_)
        have hEn : rgM (su (mu (insM V l (hU V l z) z v) 11 l 2 ((V 11 l 2) + 1)) 11 l (emR 1 ((mu (insM V l (hU V l z) z v) 11 l 2 ((V 11 l 2) + 1)) 11 l))) l = enM V l z v := by
          unfold enM
          rw [if_pos (by omega), adM_1 (V := (insM V l (hU V l z) z v)) (by rw [insM_ne (by omega)]; omega)]
          rw [show (insM V l (hU V l z) z v) 11 l 2 = V 11 l 2 from insM_ne (by omega)]
        rw [hEn] at Re
        have zz6 : enM V l z v 7 l 6 = V 7 l 6 + 1 := enM_6
        refine r_goto (tgt := 159) hC dX6_enter_151 rfl ?_
        have L159 : ∀ (n159 : Nat) (ρ49 W49 : Mm), ((W49 7 l 6).toNat : Int) < (n159 : Int) → (RS t σ0 W49 ρ49) → (drps l (W49 7 l 6).toNat W49 = plM V l z v) → (LK W49 l) → (FI (W49 11 l) (W49 7 l 6)) → (W49 7 l 3 = V 7 l 3 ∧ W49 7 l 4 = V 7 l 4) → K 159 [some (vR 30 0), some (vI l), some (vI z), some (vI v), some (vI (hU V l z)), some (vI ((V 7 l 6) - (hU V l z))), some (vI 1)] [] ρ49 := by
          intro n159
          induction n159 with
          | zero => intro  ρ49 W49   hm  m0_159 m1_159 m2_159 m3_159 m4_159; omega
          | succ n159 ih159 =>
            intro  ρ49 W49   hm159  m0_159 m1_159 m2_159 m3_159 m4_159
            refine r_aload_n hC dX6_enter_159 rfl ?_
            refine r_iload_n hC dX6_enter_160 rfl ?_
            refine z_inv1 hM dX6_enter_161 vl_RX6_230 rfl rfl rfl (Nat.le_of_ble_eq_true rfl) (Nat.le_of_ble_eq_true rfl) ?_
            refine y_isTooMany (V := W49) (by omega) ht ⟨m0_159.1, m0_159.2.1, m0_159.2.2⟩ (by omega) (fun hgo => ?_) (fun hgo => ?_)
            · refine r_if_eq (tgt := 175) hC dX6_enter_164 rfl (fun h50 => by omega) (fun h50 => ?_)
              refine r_aload_n hC dX6_enter_167 rfl ?_
              refine r_iload_n hC dX6_enter_168 rfl ?_
              refine z_inv1 hM dX6_enter_169 vl_RX6_233 rfl rfl rfl (Nat.le_of_ble_eq_true rfl) (Nat.le_of_ble_eq_true rfl) ?_
              have hW1 : 1 ≤ W49 7 l 6 := by have := hgo; unfold goV at this; omega
              have hW6 := m2_159.2.1
              refine y_drop (V := W49) (by omega) ht ⟨m0_159.1, m0_159.2.1, m0_159.2.2⟩ (by omega) m2_159 m3_159 hW1 (fun ρ51 Rρ51 => ?_)
              have d6 : dpM W49 l 7 l 6 = W49 7 l 6 - 1 := dpM_6
              refine r_goto (tgt := 159) hC dX6_enter_172 rfl ?_
              exact ih159  ρ51 (dpM W49 l)   (by omega)  (⟨Rρ51.1, Rρ51.2.1, Rρ51.2.2⟩) (by rw [dpM_6]; have q := m1_159; rw [show (W49 7 l 6).toNat = (W49 7 l 6 - 1).toNat + 1 from by omega, drps_yes hgo] at q; exact q) (LK_dp m2_159 hW1) (FI_dp m3_159 hW1) (⟨(dpM_ne (by omega)).trans m4_159.1, (dpM_ne (by omega)).trans m4_159.2⟩)
            · refine r_if_eq (tgt := 175) hC dX6_enter_164 rfl (fun h52 => ?_) (fun h52 => by omega)
              refine y_vret hK rfl dX6_enter_175 ?_
              have q := m0_159
              have e := m1_159
              rw [drps_no hgo] at e
              rw [e] at q
              exact k _ q
        exact L159 125  ρe (enM V l z v)   (by omega)  (⟨Re.1, Re.2.1, Re.2.2⟩) (by rw [enM_6]; rfl) (LK_en hL (by omega) (by omega)) (FI_en hF (by omega)) (⟨enM_nx (by unfold PS; omega), enM_nx (by unfold PS; omega)⟩)
