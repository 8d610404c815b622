-- B: the reference: laid anew, drops
theorem emR_3 {c : Int} {f : Int → Int} : emR c f 3 = emL f - min 3 (emL f) := r7_3
theorem LK.su11 {V : Mm} {l i : Int} {f : Int → Int} (h : LK V l) : LK (su V 11 i f) l := h.to (fun c x y e => su_ne (by omega))
theorem FIK {V : Mm} {l h : Int} (p : FI (V 11 l) h) (q : h ≤ 121) : (0 ≤ V 11 l 0 ∧ V 11 l 0 ≤ 121) ∧ (0 ≤ V 11 l 1 ∧ V 11 l 1 ≤ 121) ∧ (0 ≤ V 11 l 2 ∧ V 11 l 2 ≤ 121) ∧ (0 ≤ V 11 l 3 ∧ V 11 l 3 ≤ 242) ∧ (V 11 l 3 = 0 ↔ V 11 l 1 = 0) := by
  unfold FI at p
  omega
theorem y_layAnewX {eb : Bool} {t : Int} {V : Mm} {d : Nat} {P : Option Vl → Mm → Prop} {σ : Mm} {l : Int} (b_l : 0 ≤ l ∧ l ≤ 7) {σ0 : Mm} {fl : Int} (ht : 6 ≤ t ∧ t ≤ 7) (hS : SB t σ0 V σ) (hX : KX t l V σ) (hFB : FB V σ) (hl : l ≤ t) (hL : LK V l) (h16 : σ 31 0 (22 * l + 16) = fl) (h17 : σ 31 0 (22 * l + 17) = 0)  (k : ∀ ρ : Mm, RS t σ0 (rgM (lyM V l (V 7 l 6)) l) ρ → P none ρ) : WT (true, eb, true) (d + 7) 179 [vR 30 0, vI l] σ P := by
  refine WT_in fun K hK => ?_
  have hK : StpY (true, eb, true) cX6_layAnew RX6 (none) (WT (true, eb, true) (d + 6)) P K := hK
  have hM := hK.1
  have hC := hK.1.1
  show K 0 [some (vR 30 0), some (vI l), none] [] σ
  have hop := hL.1
  have h6 := hL.2.1
  refine r_aload_n hC dX6_layAnew_0 rfl ?_
  refine r_iload_n hC dX6_layAnew_1 rfl ?_
  refine r_bipush hC dX6_layAnew_2 rfl ?_
  refine r_aload_n hC dX6_layAnew_4 rfl ?_
  refine r_iload_n hC dX6_layAnew_5 rfl ?_
  refine z_inv1 hM dX6_layAnew_6 vl_RX6_116 rfl rfl rfl (Nat.le_of_ble_eq_true rfl) (Nat.le_of_ble_eq_true rfl) ?_
  refine y_heldOf (by omega) (fun o1 => ?_)
  have e2 : σ 31 0 (22 * l + 5) = (V 7 l 6) := (hS.a7 (s := 6) (f := 5) (by omega) (by omega) (by omega)).trans (rfl)
  rw [e2] at o1 ⊢
  have qo1 : 0 ≤ (V 7 l 6) ∧ (V 7 l 6) ≤ 121 := o1.1 (by omega)
  refine z_inv3 hM dX6_layAnew_9 vl_RX6_173 rfl rfl rfl (Nat.le_of_ble_eq_true rfl) (Nat.le_of_ble_eq_true rfl) ?_
  refine y_set (by omega) (by omega) ⟨fun h => by omega, fun h => by omega⟩ ?_
  obtain ⟨ρ3, e_ρ3⟩ : ∃ zz_, zz_ = mu σ 31 0 ((22 * l) + 12) (V 7 l 6) := ⟨_, rfl⟩
  rw [← e_ρ3]
  have Sρ3 : SB t σ0 (mu V 11 l 0 (V 7 l 6)) ρ3 := by rw [e_ρ3, show ((22 * l) + 12) = 22 * l + 12 from by omega]; exact hS.p11 (by omega) (by omega) (by omega)
  have r16_ρ3 : ρ3 31 0 (22 * l + 16) = fl := by rw [e_ρ3]; exact (mu_ne (by omega)).trans h16
  have r17_ρ3 : ρ3 31 0 (22 * l + 17) = 0 := by rw [e_ρ3]; exact (mu_ne (by omega)).trans h17
  have Xρ3 : KX t l (mu V 11 l 0 (V 7 l 6)) ρ3 := (hX).e (fun m a b c => by rw [e_ρ3]; exact ⟨mu_ne (by omega), mu_ne (by omega)⟩) (fun m c => mu_ne (by omega))
  have Fρ3 : FB (mu V 11 l 0 (V 7 l 6)) ρ3 := by rw [e_ρ3]; exact (hFB).e (fun l a b => mu_ne (by omega)) |>.v (fun l y a b c => mu_ne (by omega))
  refine r_aload_n hC dX6_layAnew_12 rfl ?_
  refine r_iload_n hC dX6_layAnew_13 rfl ?_
  refine r_bipush hC dX6_layAnew_14 rfl ?_
  refine r_iconst hC dX6_layAnew_16 rfl ?_
  refine z_inv3 hM dX6_layAnew_17 vl_RX6_173 rfl rfl rfl (Nat.le_of_ble_eq_true rfl) (Nat.le_of_ble_eq_true rfl) ?_
  refine y_set (by omega) (by omega) ⟨fun h => by omega, fun h => by omega⟩ ?_
  obtain ⟨ρ4, e_ρ4⟩ : ∃ zz_, zz_ = mu ρ3 31 0 ((22 * l) + 13) 0 := ⟨_, rfl⟩
  rw [← e_ρ4]
  have Sρ4 : SB t σ0 (mu (mu V 11 l 0 (V 7 l 6)) 11 l 1 0) ρ4 := by rw [e_ρ4, show ((22 * l) + 13) = 22 * l + 13 from by omega]; exact Sρ3.p11 (by omega) (by omega) (by omega)
  have r16_ρ4 : ρ4 31 0 (22 * l + 16) = fl := by rw [e_ρ4]; exact (mu_ne (by omega)).trans r16_ρ3
  have r17_ρ4 : ρ4 31 0 (22 * l + 17) = 0 := by rw [e_ρ4]; exact (mu_ne (by omega)).trans r17_ρ3
  have Xρ4 : KX t l (mu (mu V 11 l 0 (V 7 l 6)) 11 l 1 0) ρ4 := (Xρ3).e (fun m a b c => by rw [e_ρ4]; exact ⟨mu_ne (by omega), mu_ne (by omega)⟩) (fun m c => mu_ne (by omega))
  have Fρ4 : FB (mu (mu V 11 l 0 (V 7 l 6)) 11 l 1 0) ρ4 := by rw [e_ρ4]; exact (Fρ3).e (fun l a b => mu_ne (by omega)) |>.v (fun l y a b c => mu_ne (by omega))
  refine r_aload_n hC dX6_layAnew_20 rfl ?_
  refine r_iload_n hC dX6_layAnew_21 rfl ?_
  refine r_bipush hC dX6_layAnew_22 rfl ?_
  refine r_iconst hC dX6_layAnew_24 rfl ?_
  refine z_inv3 hM dX6_layAnew_25 vl_RX6_173 rfl rfl rfl (Nat.le_of_ble_eq_true rfl) (Nat.le_of_ble_eq_true rfl) ?_
  refine y_set (by omega) (by omega) ⟨fun h => by omega, fun h => by omega⟩ ?_
  obtain ⟨ρ5, e_ρ5⟩ : ∃ zz_, zz_ = mu ρ4 31 0 ((22 * l) + 14) 0 := ⟨_, rfl⟩
  rw [← e_ρ5]
  have Sρ5 : SB t σ0 (mu (mu (mu V 11 l 0 (V 7 l 6)) 11 l 1 0) 11 l 2 0) ρ5 := by rw [e_ρ5, show ((22 * l) + 14) = 22 * l + 14 from by omega]; exact Sρ4.p11 (by omega) (by omega) (by omega)
  have r16_ρ5 : ρ5 31 0 (22 * l + 16) = fl := by rw [e_ρ5]; exact (mu_ne (by omega)).trans r16_ρ4
  have r17_ρ5 : ρ5 31 0 (22 * l + 17) = 0 := by rw [e_ρ5]; exact (mu_ne (by omega)).trans r17_ρ4
  have Xρ5 : KX t l (mu (mu (mu V 11 l 0 (V 7 l 6)) 11 l 1 0) 11 l 2 0) ρ5 := (Xρ4).e (fun m a b c => by rw [e_ρ5]; exact ⟨mu_ne (by omega), mu_ne (by omega)⟩) (fun m c => mu_ne (by omega))
  have Fρ5 : FB (mu (mu (mu V 11 l 0 (V 7 l 6)) 11 l 1 0) 11 l 2 0) ρ5 := by rw [e_ρ5]; exact (Fρ4).e (fun l a b => mu_ne (by omega)) |>.v (fun l y a b c => mu_ne (by omega))
  refine r_aload_n hC dX6_layAnew_28 rfl ?_
  refine r_iload_n hC dX6_layAnew_29 rfl ?_
  refine r_bipush hC dX6_layAnew_30 rfl ?_
  refine r_iconst hC dX6_layAnew_32 rfl ?_
  refine z_inv3 hM dX6_layAnew_33 vl_RX6_173 rfl rfl rfl (Nat.le_of_ble_eq_true rfl) (Nat.le_of_ble_eq_true rfl) ?_
  refine y_set (by omega) (by omega) ⟨fun h => by omega, fun h => by omega⟩ ?_
  obtain ⟨ρ6, e_ρ6⟩ : ∃ zz_, zz_ = mu ρ5 31 0 ((22 * l) + 15) 0 := ⟨_, rfl⟩
  rw [← e_ρ6]
  have Sρ6 : SB t σ0 (mu (mu (mu (mu V 11 l 0 (V 7 l 6)) 11 l 1 0) 11 l 2 0) 11 l 3 0) ρ6 := by rw [e_ρ6, show ((22 * l) + 15) = 22 * l + 15 from by omega]; exact Sρ5.p11 (by omega) (by omega) (by omega)
  have r16_ρ6 : ρ6 31 0 (22 * l + 16) = fl := by rw [e_ρ6]; exact (mu_ne (by omega)).trans r16_ρ5
  have r17_ρ6 : ρ6 31 0 (22 * l + 17) = 0 := by rw [e_ρ6]; exact (mu_ne (by omega)).trans r17_ρ5
  have Xρ6 : KX t l (mu (mu (mu (mu V 11 l 0 (V 7 l 6)) 11 l 1 0) 11 l 2 0) 11 l 3 0) ρ6 := (Xρ5).e (fun m a b c => by rw [e_ρ6]; exact ⟨mu_ne (by omega), mu_ne (by omega)⟩) (fun m c => mu_ne (by omega))
  have Fρ6 : FB (mu (mu (mu (mu V 11 l 0 (V 7 l 6)) 11 l 1 0) 11 l 2 0) 11 l 3 0) ρ6 := by rw [e_ρ6]; exact (Fρ5).e (fun l a b => mu_ne (by omega)) |>.v (fun l y a b c => mu_ne (by omega))
  refine r_aload_n hC dX6_layAnew_36 rfl ?_
  refine r_iload_n hC dX6_layAnew_37 rfl ?_
  refine r_bipush hC dX6_layAnew_38 rfl ?_
  refine r_iconst hC dX6_layAnew_40 rfl ?_
  refine z_inv3 hM dX6_layAnew_41 vl_RX6_173 rfl rfl rfl (Nat.le_of_ble_eq_true rfl) (Nat.le_of_ble_eq_true rfl) ?_
  refine y_set (by omega) (by omega) ⟨fun h => by omega, fun h => by omega⟩ ?_
  obtain ⟨ρ7, e_ρ7⟩ : ∃ zz_, zz_ = mu ρ6 31 0 ((22 * l) + 16) 0 := ⟨_, rfl⟩
  rw [← e_ρ7]
  have Sρ7 : SB t σ0 (mu (mu (mu (mu V 11 l 0 (V 7 l 6)) 11 l 1 0) 11 l 2 0) 11 l 3 0) ρ7 := by rw [e_ρ7, show ((22 * l) + 16) = 22 * l + 16 from by omega]; exact Sρ6.px (by omega)
  have r16_ρ7 : ρ7 31 0 (22 * l + 16) = 0 := by rw [e_ρ7, show ((22 * l) + 16) = 22 * l + 16 from by omega]; exact mu_self _ _ _ _ _
  have r17_ρ7 : ρ7 31 0 (22 * l + 17) = 0 := by rw [e_ρ7]; exact (mu_ne (by omega)).trans r17_ρ6
  have Xρ7 : KX t l (mu (mu (mu (mu V 11 l 0 (V 7 l 6)) 11 l 1 0) 11 l 2 0) 11 l 3 0) ρ7 := (Xρ6).e (fun m a b c => by rw [e_ρ7]; exact ⟨mu_ne (by omega), mu_ne (by omega)⟩) (fun m c => rfl)
  have Fρ7 : FB (mu (mu (mu (mu V 11 l 0 (V 7 l 6)) 11 l 1 0) 11 l 2 0) 11 l 3 0) ρ7 := by rw [e_ρ7]; exact (Fρ6).e (fun l a b => mu_ne (by omega))
  refine r_aload_n hC dX6_layAnew_44 rfl ?_
  refine r_iload_n hC dX6_layAnew_45 rfl ?_
  refine z_inv1 hM dX6_layAnew_46 vl_RX6_116 rfl rfl rfl (Nat.le_of_ble_eq_true rfl) (Nat.le_of_ble_eq_true rfl) ?_
  refine y_heldOf (by omega) (fun o8 => ?_)
  have e9 : ρ7 31 0 (22 * l + 5) = (V 7 l 6) := (Sρ7.a7 (s := 6) (f := 5) (by omega) (by omega) (by omega)).trans ((mu_ne (by omega)).trans ((mu_ne (by omega)).trans ((mu_ne (by omega)).trans ((mu_ne (by omega)).trans (rfl)))))
  rw [e9] at o8 ⊢
  have qo8 : 0 ≤ (V 7 l 6) ∧ (V 7 l 6) ≤ 121 := o8.1 (by omega)
  refine r_if_le (tgt := 62) hC dX6_layAnew_49 rfl (fun h10 => ?_) (fun h10 => ?_)
  · refine r_iconst hC dX6_layAnew_62 rfl ?_
    refine r_istore_n hC dX6_layAnew_63 rfl ?_
    refine r_aload_n hC dX6_layAnew_64 rfl ?_
    refine r_iload_n hC dX6_layAnew_65 rfl ?_
    refine r_bipush hC dX6_layAnew_66 rfl ?_
    refine r_iload_n hC dX6_layAnew_68 rfl ?_
    refine z_inv3 hM dX6_layAnew_69 vl_RX6_173 rfl rfl rfl (Nat.le_of_ble_eq_true rfl) (Nat.le_of_ble_eq_true rfl) ?_
    refine y_set (by omega) (by omega) ⟨fun h => by omega, fun h => by omega⟩ ?_
    obtain ⟨ρ11, e_ρ11⟩ : ∃ zz_, zz_ = mu ρ7 31 0 ((22 * l) + 18) 0 := ⟨_, rfl⟩
    rw [← e_ρ11]
    have Sρ11 : SB t σ0 (mu (mu (mu (mu (mu V 11 l 0 (V 7 l 6)) 11 l 1 0) 11 l 2 0) 11 l 3 0) 11 l 4 0) ρ11 := by rw [e_ρ11, show ((22 * l) + 18) = 22 * l + 18 from by omega]; exact Sρ7.p11 (by omega) (by omega) (by omega)
    have r16_ρ11 : ρ11 31 0 (22 * l + 16) = 0 := by rw [e_ρ11]; exact (mu_ne (by omega)).trans r16_ρ7
    have r17_ρ11 : ρ11 31 0 (22 * l + 17) = 0 := by rw [e_ρ11]; exact (mu_ne (by omega)).trans r17_ρ7
    have Xρ11 : KX t l (mu (mu (mu (mu (mu V 11 l 0 (V 7 l 6)) 11 l 1 0) 11 l 2 0) 11 l 3 0) 11 l 4 0) ρ11 := (Xρ7).e (fun m a b c => by rw [e_ρ11]; exact ⟨mu_ne (by omega), mu_ne (by omega)⟩) (fun m c => mu_ne (by omega))
    have Fρ11 : FB (mu (mu (mu (mu (mu V 11 l 0 (V 7 l 6)) 11 l 1 0) 11 l 2 0) 11 l 3 0) 11 l 4 0) ρ11 := by rw [e_ρ11]; exact (Fρ7).e (fun l a b => mu_ne (by omega)) |>.v (fun l y a b c => mu_ne (by omega))
    refine r_aload_n hC dX6_layAnew_72 rfl ?_
    refine r_iload_n hC dX6_layAnew_73 rfl ?_
    refine r_bipush hC dX6_layAnew_74 rfl ?_
    refine r_iload_n hC dX6_layAnew_76 rfl ?_
    refine z_inv3 hM dX6_layAnew_77 vl_RX6_188 rfl rfl rfl (Nat.le_of_ble_eq_true rfl) (Nat.le_of_ble_eq_true rfl) ?_
    refine y_moreW (a := (V 11 l 5)) (by omega) (by omega) ⟨fun h => by omega, by omega⟩ ((Sρ11.a11 (s := 5) (f := 19) (by omega) (by omega) (by omega)).trans ((mu_ne (by omega)).trans ((mu_ne (by omega)).trans ((mu_ne (by omega)).trans ((mu_ne (by omega)).trans ((mu_ne (by omega)).trans (rfl))))))) (by omega) ?_
    obtain ⟨ρ12, e_ρ12⟩ : ∃ zz_, zz_ = mu ρ11 31 0 ((22 * l) + 19) (wr ((V 11 l 5) + 0)) := ⟨_, rfl⟩
    rw [← e_ρ12]
    have Sρ12 : SB t σ0 (mu (mu (mu (mu (mu (mu V 11 l 0 (V 7 l 6)) 11 l 1 0) 11 l 2 0) 11 l 3 0) 11 l 4 0) 11 l 5 (wr ((V 11 l 5) + 0))) ρ12 := by rw [e_ρ12, show ((22 * l) + 19) = 22 * l + 19 from by omega]; exact Sρ11.p11 (by omega) (by omega) (by omega)
    have r16_ρ12 : ρ12 31 0 (22 * l + 16) = 0 := by rw [e_ρ12]; exact (mu_ne (by omega)).trans r16_ρ11
    have r17_ρ12 : ρ12 31 0 (22 * l + 17) = 0 := by rw [e_ρ12]; exact (mu_ne (by omega)).trans r17_ρ11
    have Xρ12 : KX t l (mu (mu (mu (mu (mu (mu V 11 l 0 (V 7 l 6)) 11 l 1 0) 11 l 2 0) 11 l 3 0) 11 l 4 0) 11 l 5 (wr ((V 11 l 5) + 0))) ρ12 := (Xρ11).e (fun m a b c => by rw [e_ρ12]; exact ⟨mu_ne (by omega), mu_ne (by omega)⟩) (fun m c => mu_ne (by omega))
    have Fρ12 : FB (mu (mu (mu (mu (mu (mu V 11 l 0 (V 7 l 6)) 11 l 1 0) 11 l 2 0) 11 l 3 0) 11 l 4 0) 11 l 5 (wr ((V 11 l 5) + 0))) ρ12 := by rw [e_ρ12]; exact (Fρ11).e (fun l a b => mu_ne (by omega)) |>.v (fun l y a b c => mu_ne (by omega))
    refine r_aload_n hC dX6_layAnew_80 rfl ?_
    refine r_iload_n hC dX6_layAnew_81 rfl ?_
    refine z_inv1 hM dX6_layAnew_82 vl_RX6_191 rfl rfl rfl (Nat.le_of_ble_eq_true rfl) (Nat.le_of_ble_eq_true rfl) ?_
    have m0 : (mu (mu (mu (mu (mu (mu V 11 l 0 (V 7 l 6)) 11 l 1 0) 11 l 2 0) 11 l 3 0) 11 l 4 0) 11 l 5 (wr ((V 11 l 5) + 0))) 11 l 0 = V 7 l 6 := (show (mu (mu (mu (mu (mu (mu V 11 l 0 (V 7 l 6)) 11 l 1 0) 11 l 2 0) 11 l 3 0) 11 l 4 0) 11 l 5 (wr ((V 11 l 5) + 0))) 11 l 0 = (V 7 l 6) from ((mu_ne (by omega)).trans ((mu_ne (by omega)).trans ((mu_ne (by omega)).trans ((mu_ne (by omega)).trans ((mu_ne (by omega)).trans (mu_self _ _ _ _ _))))))).trans (by omega)
    have m1 : (mu (mu (mu (mu (mu (mu V 11 l 0 (V 7 l 6)) 11 l 1 0) 11 l 2 0) 11 l 3 0) 11 l 4 0) 11 l 5 (wr ((V 11 l 5) + 0))) 11 l 1 = 0 := (show (mu (mu (mu (mu (mu (mu V 11 l 0 (V 7 l 6)) 11 l 1 0) 11 l 2 0) 11 l 3 0) 11 l 4 0) 11 l 5 (wr ((V 11 l 5) + 0))) 11 l 1 = 0 from ((mu_ne (by omega)).trans ((mu_ne (by omega)).trans ((mu_ne (by omega)).trans ((mu_ne (by omega)).trans (mu_self _ _ _ _ _)))))).trans (by omega)
    have m2 : (mu (mu (mu (mu (mu (mu V 11 l 0 (V 7 l 6)) 11 l 1 0) 11 l 2 0) 11 l 3 0) 11 l 4 0) 11 l 5 (wr ((V 11 l 5) + 0))) 11 l 2 = 0 := (show (mu (mu (mu (mu (mu (mu V 11 l 0 (V 7 l 6)) 11 l 1 0) 11 l 2 0) 11 l 3 0) 11 l 4 0) 11 l 5 (wr ((V 11 l 5) + 0))) 11 l 2 = 0 from ((mu_ne (by omega)).trans ((mu_ne (by omega)).trans ((mu_ne (by omega)).trans (mu_self _ _ _ _ _))))).trans (by omega)
    have m3 : (mu (mu (mu (mu (mu (mu V 11 l 0 (V 7 l 6)) 11 l 1 0) 11 l 2 0) 11 l 3 0) 11 l 4 0) 11 l 5 (wr ((V 11 l 5) + 0))) 11 l 3 = 0 := (show (mu (mu (mu (mu (mu (mu V 11 l 0 (V 7 l 6)) 11 l 1 0) 11 l 2 0) 11 l 3 0) 11 l 4 0) 11 l 5 (wr ((V 11 l 5) + 0))) 11 l 3 = 0 from ((mu_ne (by omega)).trans ((mu_ne (by omega)).trans (mu_self _ _ _ _ _)))).trans (by omega)
    have m4 : (mu (mu (mu (mu (mu (mu V 11 l 0 (V 7 l 6)) 11 l 1 0) 11 l 2 0) 11 l 3 0) 11 l 4 0) 11 l 5 (wr ((V 11 l 5) + 0))) 11 l 4 = max 0 (V 7 l 6 - 1) := (show (mu (mu (mu (mu (mu (mu V 11 l 0 (V 7 l 6)) 11 l 1 0) 11 l 2 0) 11 l 3 0) 11 l 4 0) 11 l 5 (wr ((V 11 l 5) + 0))) 11 l 4 = 0 from ((mu_ne (by omega)).trans (mu_self _ _ _ _ _))).trans (by omega)
    have m5 : (mu (mu (mu (mu (mu (mu V 11 l 0 (V 7 l 6)) 11 l 1 0) 11 l 2 0) 11 l 3 0) 11 l 4 0) 11 l 5 (wr ((V 11 l 5) + 0))) 11 l 5 = wr (V 11 l 5 + max 0 (V 7 l 6 - 1)) := (show (mu (mu (mu (mu (mu (mu V 11 l 0 (V 7 l 6)) 11 l 1 0) 11 l 2 0) 11 l 3 0) 11 l 4 0) 11 l 5 (wr ((V 11 l 5) + 0))) 11 l 5 = wr ((V 11 l 5) + 0) from (mu_self _ _ _ _ _)).trans (congrArg wr (by omega))
    have m6 : (mu (mu (mu (mu (mu (mu V 11 l 0 (V 7 l 6)) 11 l 1 0) 11 l 2 0) 11 l 3 0) 11 l 4 0) 11 l 5 (wr ((V 11 l 5) + 0))) 11 l 6 = V 11 l 6 := (show (mu (mu (mu (mu (mu (mu V 11 l 0 (V 7 l 6)) 11 l 1 0) 11 l 2 0) 11 l 3 0) 11 l 4 0) 11 l 5 (wr ((V 11 l 5) + 0))) 11 l 6 = (V 11 l 6) from ((mu_ne (by omega)).trans ((mu_ne (by omega)).trans ((mu_ne (by omega)).trans ((mu_ne (by omega)).trans ((mu_ne (by omega)).trans ((mu_ne (by omega)).trans (rfl)))))))).trans (by omega)
    have hV : (mu (mu (mu (mu (mu (mu V 11 l 0 (V 7 l 6)) 11 l 1 0) 11 l 2 0) 11 l 3 0) 11 l 4 0) 11 l 5 (wr ((V 11 l 5) + 0))) = (lyM V l (V 7 l 6)) := mu7 (fun c2 x y h => (mu_ne (by omega)).trans ((mu_ne (by omega)).trans ((mu_ne (by omega)).trans ((mu_ne (by omega)).trans ((mu_ne (by omega)).trans ((mu_ne (by omega)).trans (rfl))))))) m0 m1 m2 m3 m4 m5 m6
    have qS := Sρ12
    have qX := Xρ12
    have qF := Fρ12
    rw [hV] at qS qX qF
    have q16 : 0 = (if (lyM V l (V 7 l 6)) 11 l 3 = 0 then (0 : Int) else 1) := by rw [← hV, m3]; rfl
    have qR : RS t σ0 (lyM V l (V 7 l 6)) ρ12 := ⟨qS, qX.kf (r16_ρ12.trans q16) r17_ρ12, qF⟩
    have qL : LK (lyM V l (V 7 l 6)) l := hL.to (fun c2 x y h => lyM_ne (by omega))
    refine y_look (V := (lyM V l (V 7 l 6))) (by omega) ht qR (by omega) qL (fun ρ13 Rρ13 => ?_)
    refine y_vret hK rfl dX6_layAnew_85 ?_
    exact k _ Rρ13
  · refine r_aload_n hC dX6_layAnew_52 rfl ?_
    refine r_iload_n hC dX6_layAnew_53 rfl ?_
    refine z_inv1 hM dX6_layAnew_54 vl_RX6_116 rfl rfl rfl (Nat.le_of_ble_eq_true rfl) (Nat.le_of_ble_eq_true rfl) ?_
    refine y_heldOf (by omega) (fun o14 => ?_)
    have e15 : ρ7 31 0 (22 * l + 5) = (V 7 l 6) := (Sρ7.a7 (s := 6) (f := 5) (by omega) (by omega) (by omega)).trans ((mu_ne (by omega)).trans ((mu_ne (by omega)).trans ((mu_ne (by omega)).trans ((mu_ne (by omega)).trans (rfl)))))
    rw [e15] at o14 ⊢
    have qo14 : 0 ≤ (V 7 l 6) ∧ (V 7 l 6) ≤ 121 := o14.1 (by omega)
    refine r_iconst hC dX6_layAnew_57 rfl ?_
    refine r_isubE hC (((V 7 l 6) - 1)) dX6_layAnew_58 (by omega) (by unfold inR; omega) ?_
    refine r_goto (tgt := 63) hC dX6_layAnew_59 rfl ?_
    refine r_istore_n hC dX6_layAnew_63 rfl ?_
    refine r_aload_n hC dX6_layAnew_64 rfl ?_
    refine r_iload_n hC dX6_layAnew_65 rfl ?_
    refine r_bipush hC dX6_layAnew_66 rfl ?_
    refine r_iload_n hC dX6_layAnew_68 rfl ?_
    refine z_inv3 hM dX6_layAnew_69 vl_RX6_173 rfl rfl rfl (Nat.le_of_ble_eq_true rfl) (Nat.le_of_ble_eq_true rfl) ?_
    refine y_set (by omega) (by omega) ⟨fun h => by omega, fun h => by omega⟩ ?_
    obtain ⟨ρ16, e_ρ16⟩ : ∃ zz_, zz_ = mu ρ7 31 0 ((22 * l) + 18) ((V 7 l 6) - 1) := ⟨_, rfl⟩
    rw [← e_ρ16]
    have Sρ16 : SB t σ0 (mu (mu (mu (mu (mu V 11 l 0 (V 7 l 6)) 11 l 1 0) 11 l 2 0) 11 l 3 0) 11 l 4 ((V 7 l 6) - 1)) ρ16 := by rw [e_ρ16, show ((22 * l) + 18) = 22 * l + 18 from by omega]; exact Sρ7.p11 (by omega) (by omega) (by omega)
    have r16_ρ16 : ρ16 31 0 (22 * l + 16) = 0 := by rw [e_ρ16]; exact (mu_ne (by omega)).trans r16_ρ7
    have r17_ρ16 : ρ16 31 0 (22 * l + 17) = 0 := by rw [e_ρ16]; exact (mu_ne (by omega)).trans r17_ρ7
    have Xρ16 : KX t l (mu (mu (mu (mu (mu V 11 l 0 (V 7 l 6)) 11 l 1 0) 11 l 2 0) 11 l 3 0) 11 l 4 ((V 7 l 6) - 1)) ρ16 := (Xρ7).e (fun m a b c => by rw [e_ρ16]; exact ⟨mu_ne (by omega), mu_ne (by omega)⟩) (fun m c => mu_ne (by omega))
    have Fρ16 : FB (mu (mu (mu (mu (mu V 11 l 0 (V 7 l 6)) 11 l 1 0) 11 l 2 0) 11 l 3 0) 11 l 4 ((V 7 l 6) - 1)) ρ16 := by rw [e_ρ16]; exact (Fρ7).e (fun l a b => mu_ne (by omega)) |>.v (fun l y a b c => mu_ne (by omega))
    refine r_aload_n hC dX6_layAnew_72 rfl ?_
    refine r_iload_n hC dX6_layAnew_73 rfl ?_
    refine r_bipush hC dX6_layAnew_74 rfl ?_
    refine r_iload_n hC dX6_layAnew_76 rfl ?_
    refine z_inv3 hM dX6_layAnew_77 vl_RX6_188 rfl rfl rfl (Nat.le_of_ble_eq_true rfl) (Nat.le_of_ble_eq_true rfl) ?_
    refine y_moreW (a := (V 11 l 5)) (by omega) (by omega) ⟨fun h => by omega, by omega⟩ ((Sρ16.a11 (s := 5) (f := 19) (by omega) (by omega) (by omega)).trans ((mu_ne (by omega)).trans ((mu_ne (by omega)).trans ((mu_ne (by omega)).trans ((mu_ne (by omega)).trans ((mu_ne (by omega)).trans (rfl))))))) (by omega) ?_
    obtain ⟨ρ17, e_ρ17⟩ : ∃ zz_, zz_ = mu ρ16 31 0 ((22 * l) + 19) (wr ((V 11 l 5) + ((V 7 l 6) - 1))) := ⟨_, rfl⟩
    rw [← e_ρ17]
    have Sρ17 : SB t σ0 (mu (mu (mu (mu (mu (mu V 11 l 0 (V 7 l 6)) 11 l 1 0) 11 l 2 0) 11 l 3 0) 11 l 4 ((V 7 l 6) - 1)) 11 l 5 (wr ((V 11 l 5) + ((V 7 l 6) - 1)))) ρ17 := by rw [e_ρ17, show ((22 * l) + 19) = 22 * l + 19 from by omega]; exact Sρ16.p11 (by omega) (by omega) (by omega)
    have r16_ρ17 : ρ17 31 0 (22 * l + 16) = 0 := by rw [e_ρ17]; exact (mu_ne (by omega)).trans r16_ρ16
    have r17_ρ17 : ρ17 31 0 (22 * l + 17) = 0 := by rw [e_ρ17]; exact (mu_ne (by omega)).trans r17_ρ16
    have Xρ17 : KX t l (mu (mu (mu (mu (mu (mu V 11 l 0 (V 7 l 6)) 11 l 1 0) 11 l 2 0) 11 l 3 0) 11 l 4 ((V 7 l 6) - 1)) 11 l 5 (wr ((V 11 l 5) + ((V 7 l 6) - 1)))) ρ17 := (Xρ16).e (fun m a b c => by rw [e_ρ17]; exact ⟨mu_ne (by omega), mu_ne (by omega)⟩) (fun m c => mu_ne (by omega))
    have Fρ17 : FB (mu (mu (mu (mu (mu (mu V 11 l 0 (V 7 l 6)) 11 l 1 0) 11 l 2 0) 11 l 3 0) 11 l 4 ((V 7 l 6) - 1)) 11 l 5 (wr ((V 11 l 5) + ((V 7 l 6) - 1)))) ρ17 := by rw [e_ρ17]; exact (Fρ16).e (fun l a b => mu_ne (by omega)) |>.v (fun l y a b c => mu_ne (by omega))
    refine r_aload_n hC dX6_layAnew_80 rfl ?_
    refine r_iload_n hC dX6_layAnew_81 rfl ?_
    refine z_inv1 hM dX6_layAnew_82 vl_RX6_191 rfl rfl rfl (Nat.le_of_ble_eq_true rfl) (Nat.le_of_ble_eq_true rfl) ?_
    have m0 : (mu (mu (mu (mu (mu (mu V 11 l 0 (V 7 l 6)) 11 l 1 0) 11 l 2 0) 11 l 3 0) 11 l 4 ((V 7 l 6) - 1)) 11 l 5 (wr ((V 11 l 5) + ((V 7 l 6) - 1)))) 11 l 0 = V 7 l 6 := (show (mu (mu (mu (mu (mu (mu V 11 l 0 (V 7 l 6)) 11 l 1 0) 11 l 2 0) 11 l 3 0) 11 l 4 ((V 7 l 6) - 1)) 11 l 5 (wr ((V 11 l 5) + ((V 7 l 6) - 1)))) 11 l 0 = (V 7 l 6) from ((mu_ne (by omega)).trans ((mu_ne (by omega)).trans ((mu_ne (by omega)).trans ((mu_ne (by omega)).trans ((mu_ne (by omega)).trans (mu_self _ _ _ _ _))))))).trans (by omega)
    have m1 : (mu (mu (mu (mu (mu (mu V 11 l 0 (V 7 l 6)) 11 l 1 0) 11 l 2 0) 11 l 3 0) 11 l 4 ((V 7 l 6) - 1)) 11 l 5 (wr ((V 11 l 5) + ((V 7 l 6) - 1)))) 11 l 1 = 0 := (show (mu (mu (mu (mu (mu (mu V 11 l 0 (V 7 l 6)) 11 l 1 0) 11 l 2 0) 11 l 3 0) 11 l 4 ((V 7 l 6) - 1)) 11 l 5 (wr ((V 11 l 5) + ((V 7 l 6) - 1)))) 11 l 1 = 0 from ((mu_ne (by omega)).trans ((mu_ne (by omega)).trans ((mu_ne (by omega)).trans ((mu_ne (by omega)).trans (mu_self _ _ _ _ _)))))).trans (by omega)
    have m2 : (mu (mu (mu (mu (mu (mu V 11 l 0 (V 7 l 6)) 11 l 1 0) 11 l 2 0) 11 l 3 0) 11 l 4 ((V 7 l 6) - 1)) 11 l 5 (wr ((V 11 l 5) + ((V 7 l 6) - 1)))) 11 l 2 = 0 := (show (mu (mu (mu (mu (mu (mu V 11 l 0 (V 7 l 6)) 11 l 1 0) 11 l 2 0) 11 l 3 0) 11 l 4 ((V 7 l 6) - 1)) 11 l 5 (wr ((V 11 l 5) + ((V 7 l 6) - 1)))) 11 l 2 = 0 from ((mu_ne (by omega)).trans ((mu_ne (by omega)).trans ((mu_ne (by omega)).trans (mu_self _ _ _ _ _))))).trans (by omega)
    have m3 : (mu (mu (mu (mu (mu (mu V 11 l 0 (V 7 l 6)) 11 l 1 0) 11 l 2 0) 11 l 3 0) 11 l 4 ((V 7 l 6) - 1)) 11 l 5 (wr ((V 11 l 5) + ((V 7 l 6) - 1)))) 11 l 3 = 0 := (show (mu (mu (mu (mu (mu (mu V 11 l 0 (V 7 l 6)) 11 l 1 0) 11 l 2 0) 11 l 3 0) 11 l 4 ((V 7 l 6) - 1)) 11 l 5 (wr ((V 11 l 5) + ((V 7 l 6) - 1)))) 11 l 3 = 0 from ((mu_ne (by omega)).trans ((mu_ne (by omega)).trans (mu_self _ _ _ _ _)))).trans (by omega)
    have m4 : (mu (mu (mu (mu (mu (mu V 11 l 0 (V 7 l 6)) 11 l 1 0) 11 l 2 0) 11 l 3 0) 11 l 4 ((V 7 l 6) - 1)) 11 l 5 (wr ((V 11 l 5) + ((V 7 l 6) - 1)))) 11 l 4 = max 0 (V 7 l 6 - 1) := (show (mu (mu (mu (mu (mu (mu V 11 l 0 (V 7 l 6)) 11 l 1 0) 11 l 2 0) 11 l 3 0) 11 l 4 ((V 7 l 6) - 1)) 11 l 5 (wr ((V 11 l 5) + ((V 7 l 6) - 1)))) 11 l 4 = ((V 7 l 6) - 1) from ((mu_ne (by omega)).trans (mu_self _ _ _ _ _))).trans (by omega)
    have m5 : (mu (mu (mu (mu (mu (mu V 11 l 0 (V 7 l 6)) 11 l 1 0) 11 l 2 0) 11 l 3 0) 11 l 4 ((V 7 l 6) - 1)) 11 l 5 (wr ((V 11 l 5) + ((V 7 l 6) - 1)))) 11 l 5 = wr (V 11 l 5 + max 0 (V 7 l 6 - 1)) := (show (mu (mu (mu (mu (mu (mu V 11 l 0 (V 7 l 6)) 11 l 1 0) 11 l 2 0) 11 l 3 0) 11 l 4 ((V 7 l 6) - 1)) 11 l 5 (wr ((V 11 l 5) + ((V 7 l 6) - 1)))) 11 l 5 = wr ((V 11 l 5) + ((V 7 l 6) - 1)) from (mu_self _ _ _ _ _)).trans (congrArg wr (by omega))
    have m6 : (mu (mu (mu (mu (mu (mu V 11 l 0 (V 7 l 6)) 11 l 1 0) 11 l 2 0) 11 l 3 0) 11 l 4 ((V 7 l 6) - 1)) 11 l 5 (wr ((V 11 l 5) + ((V 7 l 6) - 1)))) 11 l 6 = V 11 l 6 := (show (mu (mu (mu (mu (mu (mu V 11 l 0 (V 7 l 6)) 11 l 1 0) 11 l 2 0) 11 l 3 0) 11 l 4 ((V 7 l 6) - 1)) 11 l 5 (wr ((V 11 l 5) + ((V 7 l 6) - 1)))) 11 l 6 = (V 11 l 6) from ((mu_ne (by omega)).trans ((mu_ne (by omega)).trans ((mu_ne (by omega)).trans ((mu_ne (by omega)).trans ((mu_ne (by omega)).trans ((mu_ne (by omega)).trans (rfl)))))))).trans (by omega)
    have hV : (mu (mu (mu (mu (mu (mu V 11 l 0 (V 7 l 6)) 11 l 1 0) 11 l 2 0) 11 l 3 0) 11 l 4 ((V 7 l 6) - 1)) 11 l 5 (wr ((V 11 l 5) + ((V 7 l 6) - 1)))) = (lyM V l (V 7 l 6)) := mu7 (fun c2 x y h => (mu_ne (by omega)).trans ((mu_ne (by omega)).trans ((mu_ne (by omega)).trans ((mu_ne (by omega)).trans ((mu_ne (by omega)).trans ((mu_ne (by omega)).trans (rfl))))))) m0 m1 m2 m3 m4 m5 m6
    have qS := Sρ17
    have qX := Xρ17
    have qF := Fρ17
    rw [hV] at qS qX qF
    have q16 : 0 = (if (lyM V l (V 7 l 6)) 11 l 3 = 0 then (0 : Int) else 1) := by rw [← hV, m3]; rfl
    have qR : RS t σ0 (lyM V l (V 7 l 6)) ρ17 := ⟨qS, qX.kf (r16_ρ17.trans q16) r17_ρ17, qF⟩
    have qL : LK (lyM V l (V 7 l 6)) l := hL.to (fun c2 x y h => lyM_ne (by omega))
    refine y_look (V := (lyM V l (V 7 l 6))) (by omega) ht qR (by omega) qL (fun ρ18 Rρ18 => ?_)
    refine y_vret hK rfl dX6_layAnew_85 ?_
    exact k _ Rρ18
theorem y_layAnew {eb : Bool} {t : Int} {V : Mm} {d : Nat} {P : Option Vl → Mm → Prop} {σ : Mm} {l : Int} {σ0 : Mm} (b_l : 0 ≤ l ∧ l ≤ 7) (ht : 6 ≤ t ∧ t ≤ 7) (hR : RS t σ0 V σ) (hl : l ≤ t) (hL : LK V l) (k : ∀ ρ : Mm, RS t σ0 (rgM (lyM V l (V 7 l 6)) l) ρ → P none ρ) : WT (true, eb, true) (d + 7) 179 [vR 30 0, vI l] σ P := y_layAnewX b_l ht hR.1 (hR.2.1.kx l) hR.2.2 hl hL (hR.2.1 l b_l.1 hl).1 (hR.2.1 l b_l.1 hl).2 k
theorem LK_6 {V W : Mm} {l : Int} (h : LK V l) (h6 : 0 ≤ W 7 l 6 ∧ W 7 l 6 ≤ 121) (h9 : ∀ j : Int, 0 ≤ j → j ≤ 120 → -1000 ≤ W 9 l j ∧ W 9 l j ≤ 1000) (e : ∀ (c : Nat) (x y : Int), (c = 7 ∧ x = l ∧ y = 2) ∨ c = 15 ∨ (c = 12 ∧ (y = 0 ∨ y = 1 ∨ y = 3)) → W c x y = V c x y) : LK W l := by
  obtain ⟨q1, q2, q3, q4, q5, q6⟩ := h
  refine ⟨?_, h6, h9, fun j a b => ?_, fun w a b c => ?_, fun w a b => ?_⟩
  · rw [e _ _ _ (by omega)]; exact q1
  · rw [e _ _ _ (by omega)]; exact q4 j a b
  · rw [e _ _ _ (by omega)] at c
    rw [e _ _ _ (by omega), e _ _ _ (by omega)]; exact q5 w a b c
  · rw [e _ _ _ (by omega)]; exact q6 w a b
theorem sd_9 {V : Mm} {l a h : Int} (q : ∀ j : Int, 0 ≤ j → j ≤ 120 → -1000 ≤ V 9 l j ∧ V 9 l j ≤ 1000) (hh : h ≤ 120) (j : Int) (j0 : 0 ≤ j) (j1 : j ≤ 120) : -1000 ≤ sdM V l a h 9 l j ∧ sdM V l a h 9 l j ≤ 1000 := by
  by_cases e : a ≤ j ∧ j < h
  · rw [sdM_in ⟨rfl, by omega, e⟩]; exact q _ (by omega) (by omega)
  · rw [sdM_ne (fun z => e z.2.2)]; exact q j j0 j1
theorem su_9 {V : Mm} {l a h : Int} (q : ∀ j : Int, 0 ≤ j → j ≤ 120 → -1000 ≤ V 9 l j ∧ V 9 l j ≤ 1000) (ha : 0 ≤ a) (j : Int) (j0 : 0 ≤ j) (j1 : j ≤ 120) : -1000 ≤ suM V l a h 9 l j ∧ suM V l a h 9 l j ≤ 1000 := by
  by_cases e : a < j ∧ j ≤ h
  · rw [suM_in ⟨rfl, by omega, e⟩]; exact q _ (by omega) (by omega)
  · rw [suM_ne (fun z => e z.2.2)]; exact q j j0 j1
theorem y_drop {eb : Bool} {t : Int} {V : Mm} {d : Nat} {P : Option Vl → Mm → Prop} {σ : Mm} {l : Int} (b_l : 0 ≤ l ∧ l ≤ 7) {σ0 : Mm} (ht : 6 ≤ t ∧ t ≤ 7) (hR : RS t σ0 V σ) (hl : l ≤ t) (hL : LK V l) (hF : FI (V 11 l) (V 7 l 6)) (h1 : 1 ≤ V 7 l 6)  (k : ∀ ρ : Mm, RS t σ0 (dpM V l) ρ → P none ρ) : WT (true, eb, true) (d + 8) 192 [vR 30 0, vI l] σ P := by
  refine WT_in fun K hK => ?_
  have hK : StpY (true, eb, true) cX6_drop RX6 (none) (WT (true, eb, true) (d + 7)) P K := hK
  have hM := hK.1
  have hC := hK.1.1
  show K 0 [some (vR 30 0), some (vI l)] [] σ
  have hop := hL.1
  have h6 := hL.2.1
  have hB := FIK hF (by omega)
  have hFI := hF
  unfold FI at hFI
  refine r_aload_n hC dX6_drop_0 rfl ?_
  refine r_iload_n hC dX6_drop_1 rfl ?_
  refine r_iconst hC dX6_drop_2 rfl ?_
  refine r_iconst hC dX6_drop_3 rfl ?_
  refine z_inv3 hM dX6_drop_4 vl_RX6_217 rfl rfl rfl (Nat.le_of_ble_eq_true rfl) (Nat.le_of_ble_eq_true rfl) ?_
  have z6_4 : V 7 l 6 = (V 7 l 6) := (rfl)
  refine y_shiftDn (V := V) (by omega) (by omega) ht ⟨hR.1, hR.2.1, hR.2.2⟩ (by omega) (by omega) (by omega) (fun ρ1 Rρ1 => ?_)
  have k16 : ρ1 31 0 (22 * l + 16) = (if V 11 l 3 = 0 then 0 else 1) := ((Rρ1.2.1 l (by omega) (by omega)).1).trans (by rw [sdM_ne (by omega)])
  have k17 : ρ1 31 0 (22 * l + 17) = 0 := (Rρ1.2.1 l (by omega) (by omega)).2
  have kxx : KX t l (sdM V l 0 (V 7 l 6 - 1)) ρ1 := (Rρ1.2.1).kx l
  obtain ⟨fl, hfl⟩ : ∃ fl : Int, fl = (if V 11 l 3 = 0 then 0 else 1) := ⟨_, rfl⟩
  rw [← hfl] at k16
  have hfl2 : (fl = 0 ∧ V 11 l 3 = 0) ∨ (fl = 1 ∧ V 11 l 3 ≠ 0) := by rw [hfl]; split <;> omega
  refine r_aload_n hC dX6_drop_7 rfl ?_
  refine r_iload_n hC dX6_drop_8 rfl ?_
  refine r_iconst hC dX6_drop_9 rfl ?_
  refine r_iconst hC dX6_drop_10 rfl ?_
  refine z_inv3 hM dX6_drop_11 vl_RX6_188 rfl rfl rfl (Nat.le_of_ble_eq_true rfl) (Nat.le_of_ble_eq_true rfl) ?_
  refine y_moreE (a := (V 7 l 6)) (by omega) (by omega) (by omega) ⟨fun h => by omega, by omega⟩ ((Rρ1.1.a7 (s := 6) (f := 5) (by omega) (by omega) (by omega)).trans ((sdM_ne (by omega)).trans (rfl))) (by omega) ?_
  rw [show (V 7 l 6) + (-1) = ((V 7 l 6) - 1) from by omega]
  obtain ⟨ρ2, e_ρ2⟩ : ∃ zz_, zz_ = mu ρ1 31 0 ((22 * l) + 5) ((V 7 l 6) - 1) := ⟨_, rfl⟩
  rw [← e_ρ2]
  have Sρ2 : SB t σ0 (mu (sdM V l 0 (V 7 l 6 - 1)) 7 l 6 ((V 7 l 6) - 1)) ρ2 := by rw [e_ρ2, show ((22 * l) + 5) = 22 * l + 5 from by omega]; exact Rρ1.1.p7 (by omega) (by omega) (by omega)
  have r16_ρ2 : ρ2 31 0 (22 * l + 16) = fl := by rw [e_ρ2]; exact (mu_ne (by omega)).trans k16
  have r17_ρ2 : ρ2 31 0 (22 * l + 17) = 0 := by rw [e_ρ2]; exact (mu_ne (by omega)).trans k17
  have Xρ2 : KX t l (mu (sdM V l 0 (V 7 l 6 - 1)) 7 l 6 ((V 7 l 6) - 1)) ρ2 := (kxx).e (fun m a b c => by rw [e_ρ2]; exact ⟨mu_ne (by omega), mu_ne (by omega)⟩) (fun m c => mu_ne (by omega))
  have Fρ2 : FB (mu (sdM V l 0 (V 7 l 6 - 1)) 7 l 6 ((V 7 l 6) - 1)) ρ2 := by rw [e_ρ2]; exact (Rρ1.2.2).e (fun l a b => mu_ne (by omega)) |>.v (fun l y a b c => mu_ne (by omega))
  refine r_aload_n hC dX6_drop_14 rfl ?_
  refine r_iload_n hC dX6_drop_15 rfl ?_
  refine r_bipush hC dX6_drop_16 rfl ?_
  refine r_iconst hC dX6_drop_18 rfl ?_
  refine z_inv3 hM dX6_drop_19 vl_RX6_188 rfl rfl rfl (Nat.le_of_ble_eq_true rfl) (Nat.le_of_ble_eq_true rfl) ?_
  refine y_moreW (a := (V 7 l 13)) (by omega) (by omega) ⟨fun h => by omega, by omega⟩ ((Sρ2.a7 (s := 13) (f := 9) (by omega) (by omega) (by omega)).trans ((mu_ne (by omega)).trans ((sdM_ne (by omega)).trans (rfl)))) (by omega) ?_
  obtain ⟨ρ3, e_ρ3⟩ : ∃ zz_, zz_ = mu ρ2 31 0 ((22 * l) + 9) (wr ((V 7 l 13) + 1)) := ⟨_, rfl⟩
  rw [← e_ρ3]
  have Sρ3 : SB t σ0 (mu (mu (sdM V l 0 (V 7 l 6 - 1)) 7 l 6 ((V 7 l 6) - 1)) 7 l 13 (wr ((V 7 l 13) + 1))) ρ3 := by rw [e_ρ3, show ((22 * l) + 9) = 22 * l + 9 from by omega]; exact Sρ2.p7 (by omega) (by omega) (by omega)
  have r16_ρ3 : ρ3 31 0 (22 * l + 16) = fl := by rw [e_ρ3]; exact (mu_ne (by omega)).trans r16_ρ2
  have r17_ρ3 : ρ3 31 0 (22 * l + 17) = 0 := by rw [e_ρ3]; exact (mu_ne (by omega)).trans r17_ρ2
  have Xρ3 : KX t l (mu (mu (sdM V l 0 (V 7 l 6 - 1)) 7 l 6 ((V 7 l 6) - 1)) 7 l 13 (wr ((V 7 l 13) + 1))) ρ3 := (Xρ2).e (fun m a b c => by rw [e_ρ3]; exact ⟨mu_ne (by omega), mu_ne (by omega)⟩) (fun m c => mu_ne (by omega))
  have Fρ3 : FB (mu (mu (sdM V l 0 (V 7 l 6 - 1)) 7 l 6 ((V 7 l 6) - 1)) 7 l 13 (wr ((V 7 l 13) + 1))) ρ3 := by rw [e_ρ3]; exact (Fρ2).e (fun l a b => mu_ne (by omega)) |>.v (fun l y a b c => mu_ne (by omega))
  refine r_aload_n hC dX6_drop_22 rfl ?_
  refine r_iload_n hC dX6_drop_23 rfl ?_
  refine r_bipush hC dX6_drop_24 rfl ?_
  refine r_iconst hC dX6_drop_26 rfl ?_
  refine z_inv3 hM dX6_drop_27 vl_RX6_188 rfl rfl rfl (Nat.le_of_ble_eq_true rfl) (Nat.le_of_ble_eq_true rfl) ?_
  refine y_moreE (a := (V 11 l 0)) (by omega) (by omega) (by omega) ⟨fun h => by omega, by omega⟩ ((Sρ3.a11 (s := 0) (f := 12) (by omega) (by omega) (by omega)).trans ((mu_ne (by omega)).trans ((mu_ne (by omega)).trans ((sdM_ne (by omega)).trans (rfl))))) (by omega) ?_
  rw [show (V 11 l 0) + (-1) = ((V 11 l 0) - 1) from by omega]
  obtain ⟨ρ4, e_ρ4⟩ : ∃ zz_, zz_ = mu ρ3 31 0 ((22 * l) + 12) ((V 11 l 0) - 1) := ⟨_, rfl⟩
  rw [← e_ρ4]
  have Sρ4 : SB t σ0 (mu (mu (mu (sdM V l 0 (V 7 l 6 - 1)) 7 l 6 ((V 7 l 6) - 1)) 7 l 13 (wr ((V 7 l 13) + 1))) 11 l 0 ((V 11 l 0) - 1)) ρ4 := by rw [e_ρ4, show ((22 * l) + 12) = 22 * l + 12 from by omega]; exact Sρ3.p11 (by omega) (by omega) (by omega)
  have r16_ρ4 : ρ4 31 0 (22 * l + 16) = fl := by rw [e_ρ4]; exact (mu_ne (by omega)).trans r16_ρ3
  have r17_ρ4 : ρ4 31 0 (22 * l + 17) = 0 := by rw [e_ρ4]; exact (mu_ne (by omega)).trans r17_ρ3
  have Xρ4 : KX t l (mu (mu (mu (sdM V l 0 (V 7 l 6 - 1)) 7 l 6 ((V 7 l 6) - 1)) 7 l 13 (wr ((V 7 l 13) + 1))) 11 l 0 ((V 11 l 0) - 1)) ρ4 := (Xρ3).e (fun m a b c => by rw [e_ρ4]; exact ⟨mu_ne (by omega), mu_ne (by omega)⟩) (fun m c => mu_ne (by omega))
  have Fρ4 : FB (mu (mu (mu (sdM V l 0 (V 7 l 6 - 1)) 7 l 6 ((V 7 l 6) - 1)) 7 l 13 (wr ((V 7 l 13) + 1))) 11 l 0 ((V 11 l 0) - 1)) ρ4 := by rw [e_ρ4]; exact (Fρ3).e (fun l a b => mu_ne (by omega)) |>.v (fun l y a b c => mu_ne (by omega))
  refine r_aload_n hC dX6_drop_30 rfl ?_
  refine r_iload_n hC dX6_drop_31 rfl ?_
  refine r_bipush hC dX6_drop_32 rfl ?_
  refine z_inv2 hM dX6_drop_34 vl_RX6_80 rfl rfl rfl (Nat.le_of_ble_eq_true rfl) (Nat.le_of_ble_eq_true rfl) ?_
  refine y_of (by omega) (by omega) (by omega) (fun o5 => ?_)
  rw [r16_ρ4]
  refine r_iconst hC dX6_drop_37 rfl ?_
  refine r_icmp_ne (tgt := 49) hC dX6_drop_38 rfl (fun h6 => ?_) (fun h6 => ?_)
  · refine r_aload_n hC dX6_drop_49 rfl ?_
    refine r_iload_n hC dX6_drop_50 rfl ?_
    refine r_iconst hC dX6_drop_51 rfl ?_
    refine z_inv2 hM dX6_drop_52 vl_RX6_221 rfl rfl rfl (Nat.le_of_ble_eq_true rfl) (Nat.le_of_ble_eq_true rfl) ?_
    have z0 : (mu (mu (mu (sdM V l 0 (V 7 l 6 - 1)) 7 l 6 ((V 7 l 6) - 1)) 7 l 13 (wr ((V 7 l 13) + 1))) 11 l 0 ((V 11 l 0) - 1)) 11 l 0 = ((V 11 l 0) - 1) := (mu_self _ _ _ _ _)
    have z1 : (mu (mu (mu (sdM V l 0 (V 7 l 6 - 1)) 7 l 6 ((V 7 l 6) - 1)) 7 l 13 (wr ((V 7 l 13) + 1))) 11 l 0 ((V 11 l 0) - 1)) 11 l 1 = (V 11 l 1) := ((mu_ne (by omega)).trans ((mu_ne (by omega)).trans ((mu_ne (by omega)).trans ((sdM_ne (by omega)).trans (rfl)))))
    have z2 : (mu (mu (mu (sdM V l 0 (V 7 l 6 - 1)) 7 l 6 ((V 7 l 6) - 1)) 7 l 13 (wr ((V 7 l 13) + 1))) 11 l 0 ((V 11 l 0) - 1)) 11 l 2 = (V 11 l 2) := ((mu_ne (by omega)).trans ((mu_ne (by omega)).trans ((mu_ne (by omega)).trans ((sdM_ne (by omega)).trans (rfl)))))
    have z3 : (mu (mu (mu (sdM V l 0 (V 7 l 6 - 1)) 7 l 6 ((V 7 l 6) - 1)) 7 l 13 (wr ((V 7 l 13) + 1))) 11 l 0 ((V 11 l 0) - 1)) 11 l 3 = (V 11 l 3) := ((mu_ne (by omega)).trans ((mu_ne (by omega)).trans ((mu_ne (by omega)).trans ((sdM_ne (by omega)).trans (rfl)))))
    have qL : LK (mu (mu (mu (sdM V l 0 (V 7 l 6 - 1)) 7 l 6 ((V 7 l 6) - 1)) 7 l 13 (wr ((V 7 l 13) + 1))) 11 l 0 ((V 11 l 0) - 1)) l := LK_6 hL (by rw [show (mu (mu (mu (sdM V l 0 (V 7 l 6 - 1)) 7 l 6 ((V 7 l 6) - 1)) 7 l 13 (wr ((V 7 l 13) + 1))) 11 l 0 ((V 11 l 0) - 1)) 7 l 6 = ((V 7 l 6) - 1) from ((mu_ne (by omega)).trans ((mu_ne (by omega)).trans (mu_self _ _ _ _ _)))]; omega) (fun j a b => by rw [mu_ne (by omega), mu_ne (by omega), mu_ne (by omega)]; exact sd_9 hL.2.2.1 (by omega) j a b) (fun c2 x y h => by rw [mu_ne (by omega), mu_ne (by omega), mu_ne (by omega), sdM_ne (by omega)])
    refine y_endMove (V := (mu (mu (mu (sdM V l 0 (V 7 l 6 - 1)) 7 l 6 ((V 7 l 6) - 1)) 7 l 13 (wr ((V 7 l 13) + 1))) 11 l 0 ((V 11 l 0) - 1))) (fl := fl) (fr := 0) (by omega) (by omega) ht Sρ4 Xρ4 Fρ4 (by omega) qL (by omega) (by omega) r16_ρ4 r17_ρ4 (fun ρ7 Rρ7 => ?_)
    refine y_vret hK rfl dX6_drop_55 ?_
    have hE : rgM (su (mu (mu (mu (sdM V l 0 (V 7 l 6 - 1)) 7 l 6 ((V 7 l 6) - 1)) 7 l 13 (wr ((V 7 l 13) + 1))) 11 l 0 ((V 11 l 0) - 1)) 11 l (emR 0 ((mu (mu (mu (sdM V l 0 (V 7 l 6 - 1)) 7 l 6 ((V 7 l 6) - 1)) 7 l 13 (wr ((V 7 l 13) + 1))) 11 l 0 ((V 11 l 0) - 1)) 11 l))) l = dpM V l := by
      unfold dpM
      rw [dfM_0 (V := mu (remM V l 0) 7 l 13 (wr (V 7 l 13 + 1))) (by rw [mu_ne (by omega), remM_ne (by omega)]; omega), rem_sd, mu_ne (by omega), mu_ne (by omega), sdM_ne (by omega)]
    have q := Rρ7
    rw [hE] at q
    exact k _ q
  · refine r_aload_n hC dX6_drop_41 rfl ?_
    refine r_iload_n hC dX6_drop_42 rfl ?_
    refine r_bipush hC dX6_drop_43 rfl ?_
    refine r_iconst hC dX6_drop_45 rfl ?_
    refine z_inv3 hM dX6_drop_46 vl_RX6_188 rfl rfl rfl (Nat.le_of_ble_eq_true rfl) (Nat.le_of_ble_eq_true rfl) ?_
    refine y_moreE (a := (V 11 l 3)) (by omega) (by omega) (by omega) ⟨fun h => by omega, by omega⟩ ((Sρ4.a11 (s := 3) (f := 15) (by omega) (by omega) (by omega)).trans ((mu_ne (by omega)).trans ((mu_ne (by omega)).trans ((mu_ne (by omega)).trans ((sdM_ne (by omega)).trans (rfl)))))) (by omega) ?_
    rw [show (V 11 l 3) + (-1) = ((V 11 l 3) - 1) from by omega]
    obtain ⟨ρ8, e_ρ8⟩ : ∃ zz_, zz_ = mu ρ4 31 0 ((22 * l) + 15) ((V 11 l 3) - 1) := ⟨_, rfl⟩
    rw [← e_ρ8]
    have Sρ8 : SB t σ0 (mu (mu (mu (mu (sdM V l 0 (V 7 l 6 - 1)) 7 l 6 ((V 7 l 6) - 1)) 7 l 13 (wr ((V 7 l 13) + 1))) 11 l 0 ((V 11 l 0) - 1)) 11 l 3 ((V 11 l 3) - 1)) ρ8 := by rw [e_ρ8, show ((22 * l) + 15) = 22 * l + 15 from by omega]; exact Sρ4.p11 (by omega) (by omega) (by omega)
    have r16_ρ8 : ρ8 31 0 (22 * l + 16) = fl := by rw [e_ρ8]; exact (mu_ne (by omega)).trans r16_ρ4
    have r17_ρ8 : ρ8 31 0 (22 * l + 17) = 0 := by rw [e_ρ8]; exact (mu_ne (by omega)).trans r17_ρ4
    have Xρ8 : KX t l (mu (mu (mu (mu (sdM V l 0 (V 7 l 6 - 1)) 7 l 6 ((V 7 l 6) - 1)) 7 l 13 (wr ((V 7 l 13) + 1))) 11 l 0 ((V 11 l 0) - 1)) 11 l 3 ((V 11 l 3) - 1)) ρ8 := (Xρ4).e (fun m a b c => by rw [e_ρ8]; exact ⟨mu_ne (by omega), mu_ne (by omega)⟩) (fun m c => mu_ne (by omega))
    have Fρ8 : FB (mu (mu (mu (mu (sdM V l 0 (V 7 l 6 - 1)) 7 l 6 ((V 7 l 6) - 1)) 7 l 13 (wr ((V 7 l 13) + 1))) 11 l 0 ((V 11 l 0) - 1)) 11 l 3 ((V 11 l 3) - 1)) ρ8 := by rw [e_ρ8]; exact (Fρ4).e (fun l a b => mu_ne (by omega)) |>.v (fun l y a b c => mu_ne (by omega))
    refine r_aload_n hC dX6_drop_49 rfl ?_
    refine r_iload_n hC dX6_drop_50 rfl ?_
    refine r_iconst hC dX6_drop_51 rfl ?_
    refine z_inv2 hM dX6_drop_52 vl_RX6_221 rfl rfl rfl (Nat.le_of_ble_eq_true rfl) (Nat.le_of_ble_eq_true rfl) ?_
    have z0 : (mu (mu (mu (mu (sdM V l 0 (V 7 l 6 - 1)) 7 l 6 ((V 7 l 6) - 1)) 7 l 13 (wr ((V 7 l 13) + 1))) 11 l 0 ((V 11 l 0) - 1)) 11 l 3 ((V 11 l 3) - 1)) 11 l 0 = ((V 11 l 0) - 1) := ((mu_ne (by omega)).trans (mu_self _ _ _ _ _))
    have z1 : (mu (mu (mu (mu (sdM V l 0 (V 7 l 6 - 1)) 7 l 6 ((V 7 l 6) - 1)) 7 l 13 (wr ((V 7 l 13) + 1))) 11 l 0 ((V 11 l 0) - 1)) 11 l 3 ((V 11 l 3) - 1)) 11 l 1 = (V 11 l 1) := ((mu_ne (by omega)).trans ((mu_ne (by omega)).trans ((mu_ne (by omega)).trans ((mu_ne (by omega)).trans ((sdM_ne (by omega)).trans (rfl))))))
    have z2 : (mu (mu (mu (mu (sdM V l 0 (V 7 l 6 - 1)) 7 l 6 ((V 7 l 6) - 1)) 7 l 13 (wr ((V 7 l 13) + 1))) 11 l 0 ((V 11 l 0) - 1)) 11 l 3 ((V 11 l 3) - 1)) 11 l 2 = (V 11 l 2) := ((mu_ne (by omega)).trans ((mu_ne (by omega)).trans ((mu_ne (by omega)).trans ((mu_ne (by omega)).trans ((sdM_ne (by omega)).trans (rfl))))))
    have z3 : (mu (mu (mu (mu (sdM V l 0 (V 7 l 6 - 1)) 7 l 6 ((V 7 l 6) - 1)) 7 l 13 (wr ((V 7 l 13) + 1))) 11 l 0 ((V 11 l 0) - 1)) 11 l 3 ((V 11 l 3) - 1)) 11 l 3 = ((V 11 l 3) - 1) := (mu_self _ _ _ _ _)
    have qL : LK (mu (mu (mu (mu (sdM V l 0 (V 7 l 6 - 1)) 7 l 6 ((V 7 l 6) - 1)) 7 l 13 (wr ((V 7 l 13) + 1))) 11 l 0 ((V 11 l 0) - 1)) 11 l 3 ((V 11 l 3) - 1)) l := LK_6 hL (by rw [show (mu (mu (mu (mu (sdM V l 0 (V 7 l 6 - 1)) 7 l 6 ((V 7 l 6) - 1)) 7 l 13 (wr ((V 7 l 13) + 1))) 11 l 0 ((V 11 l 0) - 1)) 11 l 3 ((V 11 l 3) - 1)) 7 l 6 = ((V 7 l 6) - 1) from ((mu_ne (by omega)).trans ((mu_ne (by omega)).trans ((mu_ne (by omega)).trans (mu_self _ _ _ _ _))))]; omega) (fun j a b => by rw [mu_ne (by omega), mu_ne (by omega), mu_ne (by omega), mu_ne (by omega)]; exact sd_9 hL.2.2.1 (by omega) j a b) (fun c2 x y h => by rw [mu_ne (by omega), mu_ne (by omega), mu_ne (by omega), mu_ne (by omega), sdM_ne (by omega)])
    refine y_endMove (V := (mu (mu (mu (mu (sdM V l 0 (V 7 l 6 - 1)) 7 l 6 ((V 7 l 6) - 1)) 7 l 13 (wr ((V 7 l 13) + 1))) 11 l 0 ((V 11 l 0) - 1)) 11 l 3 ((V 11 l 3) - 1))) (fl := fl) (fr := 0) (by omega) (by omega) ht Sρ8 Xρ8 Fρ8 (by omega) qL (by omega) (by omega) r16_ρ8 r17_ρ8 (fun ρ9 Rρ9 => ?_)
    refine y_vret hK rfl dX6_drop_55 ?_
    have hE : rgM (su (mu (mu (mu (mu (sdM V l 0 (V 7 l 6 - 1)) 7 l 6 ((V 7 l 6) - 1)) 7 l 13 (wr ((V 7 l 13) + 1))) 11 l 0 ((V 11 l 0) - 1)) 11 l 3 ((V 11 l 3) - 1)) 11 l (emR 0 ((mu (mu (mu (mu (sdM V l 0 (V 7 l 6 - 1)) 7 l 6 ((V 7 l 6) - 1)) 7 l 13 (wr ((V 7 l 13) + 1))) 11 l 0 ((V 11 l 0) - 1)) 11 l 3 ((V 11 l 3) - 1)) 11 l))) l = dpM V l := by
      unfold dpM
      rw [dfM_1 (V := mu (remM V l 0) 7 l 13 (wr (V 7 l 13 + 1))) (by rw [mu_ne (by omega), remM_ne (by omega)]; omega), rem_sd, mu_ne (by omega), mu_ne (by omega), sdM_ne (by omega), mu_ne (by omega), mu_ne (by omega), sdM_ne (by omega)]
    have q := Rρ9
    rw [hE] at q
    exact k _ q
