-- B: the reference: a LANE tried
theorem y_copyLaneG {eb : Bool} {t : Int} {V : Mm} {d : Nat} {P : Option Vl → Mm → Prop} {σ : Mm} {l m : Int} (b_l : 0 ≤ l ∧ l ≤ 6) (b_m : 0 ≤ m ∧ m ≤ 7) {σ0 : Mm} (ht : 6 ≤ t ∧ t ≤ 7) (hS : SB t σ0 V σ) (hX : KX t m V σ) (hFB : FB V σ) (hmt : m ≤ t) (hlm : l ≠ m)  (k : ∀ (v : Int) (ρ : Mm), RS t σ0 (mu (cpM V l m) 7 m 0 v) ρ → P none ρ) : WT (true, eb, true) (d + 3) 253 [vR 30 0, vI l, vI m] σ P := by
  refine WT_in fun K hK => ?_
  have hK : StpY (true, eb, true) cX6_copyLane RX6 (none) (WT (true, eb, true) (d + 2)) P K := hK
  have hM := hK.1
  have hC := hK.1.1
  show K 0 [some (vR 30 0), some (vI l), some (vI m), none] [] σ
  have k16 : σ 31 0 (22 * l + 16) = (if V 11 l 3 = 0 then (0 : Int) else 1) := (hX l (by omega) (by omega) hlm).1
  have k17 : σ 31 0 (22 * l + 17) = 0 := (hX l (by omega) (by omega) hlm).2
  have kxx : KX t m V σ := hX
  have fxx : FX m V σ := hFB.fx m
  refine r_iconst hC dX6_copyLane_0 rfl ?_
  refine r_istore_n hC dX6_copyLane_1 rfl ?_
  refine r_iload_n hC dX6_copyLane_2 rfl ?_
  refine r_bipush hC dX6_copyLane_3 rfl ?_
  refine r_icmp_ge (tgt := 26) hC dX6_copyLane_5 rfl (fun h1 => by omega) (fun h1 => ?_)
  refine r_aload_n hC dX6_copyLane_8 rfl ?_
  refine r_iload_n hC dX6_copyLane_9 rfl ?_
  refine r_iload_n hC dX6_copyLane_10 rfl ?_
  refine r_aload_n hC dX6_copyLane_11 rfl ?_
  refine r_iload_n hC dX6_copyLane_12 rfl ?_
  refine r_iload_n hC dX6_copyLane_13 rfl ?_
  refine z_inv2 hM dX6_copyLane_14 vl_RX6_80 rfl rfl rfl (Nat.le_of_ble_eq_true rfl) (Nat.le_of_ble_eq_true rfl) ?_
  refine y_of (by omega) (by omega) (by omega) (fun o2 => ?_)
  have e3 : σ 31 0 (22 * l + 0) = (V 7 l 1) := (hS.a7 (s := 1) (f := 0) (by omega) (by omega) (by omega)).trans (rfl)
  rw [e3] at o2 ⊢
  have qo2 : 0 ≤ (V 7 l 1) ∧ (V 7 l 1) ≤ 1 := by have := o2.2 (by omega); omega
  refine z_inv3 hM dX6_copyLane_17 vl_RX6_173 rfl rfl rfl (Nat.le_of_ble_eq_true rfl) (Nat.le_of_ble_eq_true rfl) ?_
  refine y_set (by omega) (by omega) ⟨fun h => by omega, fun h => by omega⟩ ?_
  obtain ⟨ρ4, e_ρ4⟩ : ∃ zz_, zz_ = mu σ 31 0 ((22 * m) + 0) (V 7 l 1) := ⟨_, rfl⟩
  rw [← e_ρ4]
  have Sρ4 : SB t σ0 (mu V 7 m 1 (V 7 l 1)) ρ4 := by rw [e_ρ4, show ((22 * m) + 0) = 22 * m + 0 from by omega]; exact hS.p7 (by omega) (by omega) (by omega)
  have r16a_ρ4 : ρ4 31 0 (22 * l + 16) = (if V 11 l 3 = 0 then (0 : Int) else 1) := by rw [e_ρ4]; exact (mu_ne (by omega)).trans k16
  have r17b_ρ4 : ρ4 31 0 (22 * l + 17) = 0 := by rw [e_ρ4]; exact (mu_ne (by omega)).trans k17
  have Yρ4 : FX m (mu V 7 m 1 (V 7 l 1)) ρ4 := (fxx).e (fun m a b c => by rw [e_ρ4]; exact mu_ne (by omega)) (fun m y c => mu_ne (by omega))
  have Xρ4 : KX t m (mu V 7 m 1 (V 7 l 1)) ρ4 := (kxx).e (fun m a b c => by rw [e_ρ4]; exact ⟨mu_ne (by omega), mu_ne (by omega)⟩) (fun m c => mu_ne (by omega))
  refine r_iincE hC (1) dX6_copyLane_20 rfl rfl (by omega) (by unfold inR; omega) ?_
  refine r_goto (tgt := 2) hC dX6_copyLane_23 rfl ?_
  refine r_iload_n hC dX6_copyLane_2 rfl ?_
  refine r_bipush hC dX6_copyLane_3 rfl ?_
  refine r_icmp_ge (tgt := 26) hC dX6_copyLane_5 rfl (fun h5 => by omega) (fun h5 => ?_)
  refine r_aload_n hC dX6_copyLane_8 rfl ?_
  refine r_iload_n hC dX6_copyLane_9 rfl ?_
  refine r_iload_n hC dX6_copyLane_10 rfl ?_
  refine r_aload_n hC dX6_copyLane_11 rfl ?_
  refine r_iload_n hC dX6_copyLane_12 rfl ?_
  refine r_iload_n hC dX6_copyLane_13 rfl ?_
  refine z_inv2 hM dX6_copyLane_14 vl_RX6_80 rfl rfl rfl (Nat.le_of_ble_eq_true rfl) (Nat.le_of_ble_eq_true rfl) ?_
  refine y_of (by omega) (by omega) (by omega) (fun o6 => ?_)
  have e7 : ρ4 31 0 (22 * l + 1) = (V 7 l 2) := (Sρ4.a7 (s := 2) (f := 1) (by omega) (by omega) (by omega)).trans ((mu_ne (by omega)).trans (rfl))
  rw [e7] at o6 ⊢
  refine z_inv3 hM dX6_copyLane_17 vl_RX6_173 rfl rfl rfl (Nat.le_of_ble_eq_true rfl) (Nat.le_of_ble_eq_true rfl) ?_
  refine y_set (by omega) (by omega) ⟨fun h => by omega, fun h => by omega⟩ ?_
  obtain ⟨ρ8, e_ρ8⟩ : ∃ zz_, zz_ = mu ρ4 31 0 ((22 * m) + 1) (V 7 l 2) := ⟨_, rfl⟩
  rw [← e_ρ8]
  have Sρ8 : SB t σ0 (mu (mu V 7 m 1 (V 7 l 1)) 7 m 2 (V 7 l 2)) ρ8 := by rw [e_ρ8, show ((22 * m) + 1) = 22 * m + 1 from by omega]; exact Sρ4.p7 (by omega) (by omega) (by omega)
  have r16a_ρ8 : ρ8 31 0 (22 * l + 16) = (if V 11 l 3 = 0 then (0 : Int) else 1) := by rw [e_ρ8]; exact (mu_ne (by omega)).trans r16a_ρ4
  have r17b_ρ8 : ρ8 31 0 (22 * l + 17) = 0 := by rw [e_ρ8]; exact (mu_ne (by omega)).trans r17b_ρ4
  have Yρ8 : FX m (mu (mu V 7 m 1 (V 7 l 1)) 7 m 2 (V 7 l 2)) ρ8 := (Yρ4).e (fun m a b c => by rw [e_ρ8]; exact mu_ne (by omega)) (fun m y c => mu_ne (by omega))
  have Xρ8 : KX t m (mu (mu V 7 m 1 (V 7 l 1)) 7 m 2 (V 7 l 2)) ρ8 := (Xρ4).e (fun m a b c => by rw [e_ρ8]; exact ⟨mu_ne (by omega), mu_ne (by omega)⟩) (fun m c => mu_ne (by omega))
  refine r_iincE hC (2) dX6_copyLane_20 rfl rfl (by omega) (by unfold inR; omega) ?_
  show K _ [_, _, _, _] _ _
  refine r_goto (tgt := 2) hC dX6_copyLane_23 rfl ?_
  refine r_iload_n hC dX6_copyLane_2 rfl ?_
  refine r_bipush hC dX6_copyLane_3 rfl ?_
  refine r_icmp_ge (tgt := 26) hC dX6_copyLane_5 rfl (fun h9 => by omega) (fun h9 => ?_)
  refine r_aload_n hC dX6_copyLane_8 rfl ?_
  refine r_iload_n hC dX6_copyLane_9 rfl ?_
  refine r_iload_n hC dX6_copyLane_10 rfl ?_
  refine r_aload_n hC dX6_copyLane_11 rfl ?_
  refine r_iload_n hC dX6_copyLane_12 rfl ?_
  refine r_iload_n hC dX6_copyLane_13 rfl ?_
  refine z_inv2 hM dX6_copyLane_14 vl_RX6_80 rfl rfl rfl (Nat.le_of_ble_eq_true rfl) (Nat.le_of_ble_eq_true rfl) ?_
  refine y_of (by omega) (by omega) (by omega) (fun o10 => ?_)
  have e11 : ρ8 31 0 (22 * l + 2) = (V 7 l 3) := (Sρ8.a7 (s := 3) (f := 2) (by omega) (by omega) (by omega)).trans ((mu_ne (by omega)).trans ((mu_ne (by omega)).trans (rfl)))
  rw [e11] at o10 ⊢
  refine z_inv3 hM dX6_copyLane_17 vl_RX6_173 rfl rfl rfl (Nat.le_of_ble_eq_true rfl) (Nat.le_of_ble_eq_true rfl) ?_
  refine y_set (by omega) (by omega) ⟨fun h => by omega, fun h => by omega⟩ ?_
  obtain ⟨ρ12, e_ρ12⟩ : ∃ zz_, zz_ = mu ρ8 31 0 ((22 * m) + 2) (V 7 l 3) := ⟨_, rfl⟩
  rw [← e_ρ12]
  have Sρ12 : SB t σ0 (mu (mu (mu V 7 m 1 (V 7 l 1)) 7 m 2 (V 7 l 2)) 7 m 3 (V 7 l 3)) ρ12 := by rw [e_ρ12, show ((22 * m) + 2) = 22 * m + 2 from by omega]; exact Sρ8.p7 (by omega) (by omega) (by omega)
  have r16a_ρ12 : ρ12 31 0 (22 * l + 16) = (if V 11 l 3 = 0 then (0 : Int) else 1) := by rw [e_ρ12]; exact (mu_ne (by omega)).trans r16a_ρ8
  have r17b_ρ12 : ρ12 31 0 (22 * l + 17) = 0 := by rw [e_ρ12]; exact (mu_ne (by omega)).trans r17b_ρ8
  have Yρ12 : FX m (mu (mu (mu V 7 m 1 (V 7 l 1)) 7 m 2 (V 7 l 2)) 7 m 3 (V 7 l 3)) ρ12 := (Yρ8).e (fun m a b c => by rw [e_ρ12]; exact mu_ne (by omega)) (fun m y c => mu_ne (by omega))
  have Xρ12 : KX t m (mu (mu (mu V 7 m 1 (V 7 l 1)) 7 m 2 (V 7 l 2)) 7 m 3 (V 7 l 3)) ρ12 := (Xρ8).e (fun m a b c => by rw [e_ρ12]; exact ⟨mu_ne (by omega), mu_ne (by omega)⟩) (fun m c => mu_ne (by omega))
  refine r_iincE hC (3) dX6_copyLane_20 rfl rfl (by omega) (by unfold inR; omega) ?_
  refine r_goto (tgt := 2) hC dX6_copyLane_23 rfl ?_
  refine r_iload_n hC dX6_copyLane_2 rfl ?_
  refine r_bipush hC dX6_copyLane_3 rfl ?_
  refine r_icmp_ge (tgt := 26) hC dX6_copyLane_5 rfl (fun h13 => by omega) (fun h13 => ?_)
  refine r_aload_n hC dX6_copyLane_8 rfl ?_
  refine r_iload_n hC dX6_copyLane_9 rfl ?_
  refine r_iload_n hC dX6_copyLane_10 rfl ?_
  refine r_aload_n hC dX6_copyLane_11 rfl ?_
  refine r_iload_n hC dX6_copyLane_12 rfl ?_
  refine r_iload_n hC dX6_copyLane_13 rfl ?_
  refine z_inv2 hM dX6_copyLane_14 vl_RX6_80 rfl rfl rfl (Nat.le_of_ble_eq_true rfl) (Nat.le_of_ble_eq_true rfl) ?_
  refine y_of (by omega) (by omega) (by omega) (fun o14 => ?_)
  have e15 : ρ12 31 0 (22 * l + 3) = (V 7 l 4) := (Sρ12.a7 (s := 4) (f := 3) (by omega) (by omega) (by omega)).trans ((mu_ne (by omega)).trans ((mu_ne (by omega)).trans ((mu_ne (by omega)).trans (rfl))))
  rw [e15] at o14 ⊢
  refine z_inv3 hM dX6_copyLane_17 vl_RX6_173 rfl rfl rfl (Nat.le_of_ble_eq_true rfl) (Nat.le_of_ble_eq_true rfl) ?_
  refine y_set (by omega) (by omega) ⟨fun h => by omega, fun h => by omega⟩ ?_
  obtain ⟨ρ16, e_ρ16⟩ : ∃ zz_, zz_ = mu ρ12 31 0 ((22 * m) + 3) (V 7 l 4) := ⟨_, rfl⟩
  rw [← e_ρ16]
  have Sρ16 : SB t σ0 (mu (mu (mu (mu V 7 m 1 (V 7 l 1)) 7 m 2 (V 7 l 2)) 7 m 3 (V 7 l 3)) 7 m 4 (V 7 l 4)) ρ16 := by rw [e_ρ16, show ((22 * m) + 3) = 22 * m + 3 from by omega]; exact Sρ12.p7 (by omega) (by omega) (by omega)
  have r16a_ρ16 : ρ16 31 0 (22 * l + 16) = (if V 11 l 3 = 0 then (0 : Int) else 1) := by rw [e_ρ16]; exact (mu_ne (by omega)).trans r16a_ρ12
  have r17b_ρ16 : ρ16 31 0 (22 * l + 17) = 0 := by rw [e_ρ16]; exact (mu_ne (by omega)).trans r17b_ρ12
  have Yρ16 : FX m (mu (mu (mu (mu V 7 m 1 (V 7 l 1)) 7 m 2 (V 7 l 2)) 7 m 3 (V 7 l 3)) 7 m 4 (V 7 l 4)) ρ16 := (Yρ12).e (fun m a b c => by rw [e_ρ16]; exact mu_ne (by omega)) (fun m y c => mu_ne (by omega))
  have Xρ16 : KX t m (mu (mu (mu (mu V 7 m 1 (V 7 l 1)) 7 m 2 (V 7 l 2)) 7 m 3 (V 7 l 3)) 7 m 4 (V 7 l 4)) ρ16 := (Xρ12).e (fun m a b c => by rw [e_ρ16]; exact ⟨mu_ne (by omega), mu_ne (by omega)⟩) (fun m c => mu_ne (by omega))
  refine r_iincE hC (4) dX6_copyLane_20 rfl rfl (by omega) (by unfold inR; omega) ?_
  refine r_goto (tgt := 2) hC dX6_copyLane_23 rfl ?_
  refine r_iload_n hC dX6_copyLane_2 rfl ?_
  refine r_bipush hC dX6_copyLane_3 rfl ?_
  refine r_icmp_ge (tgt := 26) hC dX6_copyLane_5 rfl (fun h17 => by omega) (fun h17 => ?_)
  refine r_aload_n hC dX6_copyLane_8 rfl ?_
  refine r_iload_n hC dX6_copyLane_9 rfl ?_
  refine r_iload_n hC dX6_copyLane_10 rfl ?_
  refine r_aload_n hC dX6_copyLane_11 rfl ?_
  refine r_iload_n hC dX6_copyLane_12 rfl ?_
  refine r_iload_n hC dX6_copyLane_13 rfl ?_
  refine z_inv2 hM dX6_copyLane_14 vl_RX6_80 rfl rfl rfl (Nat.le_of_ble_eq_true rfl) (Nat.le_of_ble_eq_true rfl) ?_
  refine y_of (by omega) (by omega) (by omega) (fun o18 => ?_)
  have e19 : ρ16 31 0 (22 * l + 4) = (V 7 l 5) := (Sρ16.a7 (s := 5) (f := 4) (by omega) (by omega) (by omega)).trans ((mu_ne (by omega)).trans ((mu_ne (by omega)).trans ((mu_ne (by omega)).trans ((mu_ne (by omega)).trans (rfl)))))
  rw [e19] at o18 ⊢
  refine z_inv3 hM dX6_copyLane_17 vl_RX6_173 rfl rfl rfl (Nat.le_of_ble_eq_true rfl) (Nat.le_of_ble_eq_true rfl) ?_
  refine y_set (by omega) (by omega) ⟨fun h => by omega, fun h => by omega⟩ ?_
  obtain ⟨ρ20, e_ρ20⟩ : ∃ zz_, zz_ = mu ρ16 31 0 ((22 * m) + 4) (V 7 l 5) := ⟨_, rfl⟩
  rw [← e_ρ20]
  have Sρ20 : SB t σ0 (mu (mu (mu (mu (mu V 7 m 1 (V 7 l 1)) 7 m 2 (V 7 l 2)) 7 m 3 (V 7 l 3)) 7 m 4 (V 7 l 4)) 7 m 5 (V 7 l 5)) ρ20 := by rw [e_ρ20, show ((22 * m) + 4) = 22 * m + 4 from by omega]; exact Sρ16.p7 (by omega) (by omega) (by omega)
  have r16a_ρ20 : ρ20 31 0 (22 * l + 16) = (if V 11 l 3 = 0 then (0 : Int) else 1) := by rw [e_ρ20]; exact (mu_ne (by omega)).trans r16a_ρ16
  have r17b_ρ20 : ρ20 31 0 (22 * l + 17) = 0 := by rw [e_ρ20]; exact (mu_ne (by omega)).trans r17b_ρ16
  have Yρ20 : FX m (mu (mu (mu (mu (mu V 7 m 1 (V 7 l 1)) 7 m 2 (V 7 l 2)) 7 m 3 (V 7 l 3)) 7 m 4 (V 7 l 4)) 7 m 5 (V 7 l 5)) ρ20 := (Yρ16).e (fun m a b c => by rw [e_ρ20]; exact mu_ne (by omega)) (fun m y c => mu_ne (by omega))
  have Xρ20 : KX t m (mu (mu (mu (mu (mu V 7 m 1 (V 7 l 1)) 7 m 2 (V 7 l 2)) 7 m 3 (V 7 l 3)) 7 m 4 (V 7 l 4)) 7 m 5 (V 7 l 5)) ρ20 := (Xρ16).e (fun m a b c => by rw [e_ρ20]; exact ⟨mu_ne (by omega), mu_ne (by omega)⟩) (fun m c => mu_ne (by omega))
  refine r_iincE hC (5) dX6_copyLane_20 rfl rfl (by omega) (by unfold inR; omega) ?_
  show K _ [_, _, _, _] _ _
  refine r_goto (tgt := 2) hC dX6_copyLane_23 rfl ?_
  refine r_iload_n hC dX6_copyLane_2 rfl ?_
  refine r_bipush hC dX6_copyLane_3 rfl ?_
  refine r_icmp_ge (tgt := 26) hC dX6_copyLane_5 rfl (fun h21 => by omega) (fun h21 => ?_)
  refine r_aload_n hC dX6_copyLane_8 rfl ?_
  refine r_iload_n hC dX6_copyLane_9 rfl ?_
  refine r_iload_n hC dX6_copyLane_10 rfl ?_
  refine r_aload_n hC dX6_copyLane_11 rfl ?_
  refine r_iload_n hC dX6_copyLane_12 rfl ?_
  refine r_iload_n hC dX6_copyLane_13 rfl ?_
  refine z_inv2 hM dX6_copyLane_14 vl_RX6_80 rfl rfl rfl (Nat.le_of_ble_eq_true rfl) (Nat.le_of_ble_eq_true rfl) ?_
  refine y_of (by omega) (by omega) (by omega) (fun o22 => ?_)
  have e23 : ρ20 31 0 (22 * l + 5) = (V 7 l 6) := (Sρ20.a7 (s := 6) (f := 5) (by omega) (by omega) (by omega)).trans ((mu_ne (by omega)).trans ((mu_ne (by omega)).trans ((mu_ne (by omega)).trans ((mu_ne (by omega)).trans ((mu_ne (by omega)).trans (rfl))))))
  rw [e23] at o22 ⊢
  have qo22 : 0 ≤ (V 7 l 6) ∧ (V 7 l 6) ≤ 121 := o22.1 (by omega)
  refine z_inv3 hM dX6_copyLane_17 vl_RX6_173 rfl rfl rfl (Nat.le_of_ble_eq_true rfl) (Nat.le_of_ble_eq_true rfl) ?_
  refine y_set (by omega) (by omega) ⟨fun h => by omega, fun h => by omega⟩ ?_
  obtain ⟨ρ24, e_ρ24⟩ : ∃ zz_, zz_ = mu ρ20 31 0 ((22 * m) + 5) (V 7 l 6) := ⟨_, rfl⟩
  rw [← e_ρ24]
  have Sρ24 : SB t σ0 (mu (mu (mu (mu (mu (mu V 7 m 1 (V 7 l 1)) 7 m 2 (V 7 l 2)) 7 m 3 (V 7 l 3)) 7 m 4 (V 7 l 4)) 7 m 5 (V 7 l 5)) 7 m 6 (V 7 l 6)) ρ24 := by rw [e_ρ24, show ((22 * m) + 5) = 22 * m + 5 from by omega]; exact Sρ20.p7 (by omega) (by omega) (by omega)
  have r16a_ρ24 : ρ24 31 0 (22 * l + 16) = (if V 11 l 3 = 0 then (0 : Int) else 1) := by rw [e_ρ24]; exact (mu_ne (by omega)).trans r16a_ρ20
  have r17b_ρ24 : ρ24 31 0 (22 * l + 17) = 0 := by rw [e_ρ24]; exact (mu_ne (by omega)).trans r17b_ρ20
  have Yρ24 : FX m (mu (mu (mu (mu (mu (mu V 7 m 1 (V 7 l 1)) 7 m 2 (V 7 l 2)) 7 m 3 (V 7 l 3)) 7 m 4 (V 7 l 4)) 7 m 5 (V 7 l 5)) 7 m 6 (V 7 l 6)) ρ24 := (Yρ20).e (fun m a b c => by rw [e_ρ24]; exact mu_ne (by omega)) (fun m y c => mu_ne (by omega))
  have Xρ24 : KX t m (mu (mu (mu (mu (mu (mu V 7 m 1 (V 7 l 1)) 7 m 2 (V 7 l 2)) 7 m 3 (V 7 l 3)) 7 m 4 (V 7 l 4)) 7 m 5 (V 7 l 5)) 7 m 6 (V 7 l 6)) ρ24 := (Xρ20).e (fun m a b c => by rw [e_ρ24]; exact ⟨mu_ne (by omega), mu_ne (by omega)⟩) (fun m c => mu_ne (by omega))
  refine r_iincE hC (6) dX6_copyLane_20 rfl rfl (by omega) (by unfold inR; omega) ?_
  refine r_goto (tgt := 2) hC dX6_copyLane_23 rfl ?_
  refine r_iload_n hC dX6_copyLane_2 rfl ?_
  refine r_bipush hC dX6_copyLane_3 rfl ?_
  refine r_icmp_ge (tgt := 26) hC dX6_copyLane_5 rfl (fun h25 => by omega) (fun h25 => ?_)
  refine r_aload_n hC dX6_copyLane_8 rfl ?_
  refine r_iload_n hC dX6_copyLane_9 rfl ?_
  refine r_iload_n hC dX6_copyLane_10 rfl ?_
  refine r_aload_n hC dX6_copyLane_11 rfl ?_
  refine r_iload_n hC dX6_copyLane_12 rfl ?_
  refine r_iload_n hC dX6_copyLane_13 rfl ?_
  refine z_inv2 hM dX6_copyLane_14 vl_RX6_80 rfl rfl rfl (Nat.le_of_ble_eq_true rfl) (Nat.le_of_ble_eq_true rfl) ?_
  refine y_of (by omega) (by omega) (by omega) (fun o26 => ?_)
  have e27 : ρ24 31 0 (22 * l + 6) = (V 7 l 10) := (Sρ24.a7 (s := 10) (f := 6) (by omega) (by omega) (by omega)).trans ((mu_ne (by omega)).trans ((mu_ne (by omega)).trans ((mu_ne (by omega)).trans ((mu_ne (by omega)).trans ((mu_ne (by omega)).trans ((mu_ne (by omega)).trans (rfl)))))))
  rw [e27] at o26 ⊢
  refine z_inv3 hM dX6_copyLane_17 vl_RX6_173 rfl rfl rfl (Nat.le_of_ble_eq_true rfl) (Nat.le_of_ble_eq_true rfl) ?_
  refine y_set (by omega) (by omega) ⟨fun h => by omega, fun h => by omega⟩ ?_
  obtain ⟨ρ28, e_ρ28⟩ : ∃ zz_, zz_ = mu ρ24 31 0 ((22 * m) + 6) (V 7 l 10) := ⟨_, rfl⟩
  rw [← e_ρ28]
  have Sρ28 : SB t σ0 (mu (mu (mu (mu (mu (mu (mu V 7 m 1 (V 7 l 1)) 7 m 2 (V 7 l 2)) 7 m 3 (V 7 l 3)) 7 m 4 (V 7 l 4)) 7 m 5 (V 7 l 5)) 7 m 6 (V 7 l 6)) 7 m 10 (V 7 l 10)) ρ28 := by rw [e_ρ28, show ((22 * m) + 6) = 22 * m + 6 from by omega]; exact Sρ24.p7 (by omega) (by omega) (by omega)
  have r16a_ρ28 : ρ28 31 0 (22 * l + 16) = (if V 11 l 3 = 0 then (0 : Int) else 1) := by rw [e_ρ28]; exact (mu_ne (by omega)).trans r16a_ρ24
  have r17b_ρ28 : ρ28 31 0 (22 * l + 17) = 0 := by rw [e_ρ28]; exact (mu_ne (by omega)).trans r17b_ρ24
  have Yρ28 : FX m (mu (mu (mu (mu (mu (mu (mu V 7 m 1 (V 7 l 1)) 7 m 2 (V 7 l 2)) 7 m 3 (V 7 l 3)) 7 m 4 (V 7 l 4)) 7 m 5 (V 7 l 5)) 7 m 6 (V 7 l 6)) 7 m 10 (V 7 l 10)) ρ28 := (Yρ24).e (fun m a b c => by rw [e_ρ28]; exact mu_ne (by omega)) (fun m y c => mu_ne (by omega))
  have Xρ28 : KX t m (mu (mu (mu (mu (mu (mu (mu V 7 m 1 (V 7 l 1)) 7 m 2 (V 7 l 2)) 7 m 3 (V 7 l 3)) 7 m 4 (V 7 l 4)) 7 m 5 (V 7 l 5)) 7 m 6 (V 7 l 6)) 7 m 10 (V 7 l 10)) ρ28 := (Xρ24).e (fun m a b c => by rw [e_ρ28]; exact ⟨mu_ne (by omega), mu_ne (by omega)⟩) (fun m c => mu_ne (by omega))
  refine r_iincE hC (7) dX6_copyLane_20 rfl rfl (by omega) (by unfold inR; omega) ?_
  refine r_goto (tgt := 2) hC dX6_copyLane_23 rfl ?_
  refine r_iload_n hC dX6_copyLane_2 rfl ?_
  refine r_bipush hC dX6_copyLane_3 rfl ?_
  refine r_icmp_ge (tgt := 26) hC dX6_copyLane_5 rfl (fun h29 => by omega) (fun h29 => ?_)
  refine r_aload_n hC dX6_copyLane_8 rfl ?_
  refine r_iload_n hC dX6_copyLane_9 rfl ?_
  refine r_iload_n hC dX6_copyLane_10 rfl ?_
  refine r_aload_n hC dX6_copyLane_11 rfl ?_
  refine r_iload_n hC dX6_copyLane_12 rfl ?_
  refine r_iload_n hC dX6_copyLane_13 rfl ?_
  refine z_inv2 hM dX6_copyLane_14 vl_RX6_80 rfl rfl rfl (Nat.le_of_ble_eq_true rfl) (Nat.le_of_ble_eq_true rfl) ?_
  refine y_ofU (by omega) (by omega) (fun vu30 => ?_)
  refine z_inv3 hM dX6_copyLane_17 vl_RX6_173 rfl rfl rfl (Nat.le_of_ble_eq_true rfl) (Nat.le_of_ble_eq_true rfl) ?_
  refine y_set (by omega) (by omega) ⟨fun h => by omega, fun h => by omega⟩ ?_
  obtain ⟨ρ31, e_ρ31⟩ : ∃ zz_, zz_ = mu ρ28 31 0 ((22 * m) + 7) vu30 := ⟨_, rfl⟩
  rw [← e_ρ31]
  have Sρ31 : SB t σ0 (mu (mu (mu (mu (mu (mu (mu V 7 m 1 (V 7 l 1)) 7 m 2 (V 7 l 2)) 7 m 3 (V 7 l 3)) 7 m 4 (V 7 l 4)) 7 m 5 (V 7 l 5)) 7 m 6 (V 7 l 6)) 7 m 10 (V 7 l 10)) ρ31 := by rw [e_ρ31, show ((22 * m) + 7) = 22 * m + 7 from by omega]; exact Sρ28.px (by omega)
  have r16a_ρ31 : ρ31 31 0 (22 * l + 16) = (if V 11 l 3 = 0 then (0 : Int) else 1) := by rw [e_ρ31]; exact (mu_ne (by omega)).trans r16a_ρ28
  have r17b_ρ31 : ρ31 31 0 (22 * l + 17) = 0 := by rw [e_ρ31]; exact (mu_ne (by omega)).trans r17b_ρ28
  have Yρ31 : FX m (mu (mu (mu (mu (mu (mu (mu V 7 m 1 (V 7 l 1)) 7 m 2 (V 7 l 2)) 7 m 3 (V 7 l 3)) 7 m 4 (V 7 l 4)) 7 m 5 (V 7 l 5)) 7 m 6 (V 7 l 6)) 7 m 10 (V 7 l 10)) ρ31 := (Yρ28).e (fun m a b c => by rw [e_ρ31]; exact mu_ne (by omega)) (fun m y c => rfl)
  have Xρ31 : KX t m (mu (mu (mu (mu (mu (mu (mu V 7 m 1 (V 7 l 1)) 7 m 2 (V 7 l 2)) 7 m 3 (V 7 l 3)) 7 m 4 (V 7 l 4)) 7 m 5 (V 7 l 5)) 7 m 6 (V 7 l 6)) 7 m 10 (V 7 l 10)) ρ31 := (Xρ28).e (fun m a b c => by rw [e_ρ31]; exact ⟨mu_ne (by omega), mu_ne (by omega)⟩) (fun m c => rfl)
  refine r_iincE hC (8) dX6_copyLane_20 rfl rfl (by omega) (by unfold inR; omega) ?_
  show K _ [_, _, _, _] _ _
  refine r_goto (tgt := 2) hC dX6_copyLane_23 rfl ?_
  refine r_iload_n hC dX6_copyLane_2 rfl ?_
  refine r_bipush hC dX6_copyLane_3 rfl ?_
  refine r_icmp_ge (tgt := 26) hC dX6_copyLane_5 rfl (fun h32 => by omega) (fun h32 => ?_)
  refine r_aload_n hC dX6_copyLane_8 rfl ?_
  refine r_iload_n hC dX6_copyLane_9 rfl ?_
  refine r_iload_n hC dX6_copyLane_10 rfl ?_
  refine r_aload_n hC dX6_copyLane_11 rfl ?_
  refine r_iload_n hC dX6_copyLane_12 rfl ?_
  refine r_iload_n hC dX6_copyLane_13 rfl ?_
  refine z_inv2 hM dX6_copyLane_14 vl_RX6_80 rfl rfl rfl (Nat.le_of_ble_eq_true rfl) (Nat.le_of_ble_eq_true rfl) ?_
  refine y_of (by omega) (by omega) (by omega) (fun o33 => ?_)
  have e34 : ρ31 31 0 (22 * l + 8) = (V 7 l 12) := (Sρ31.a7 (s := 12) (f := 8) (by omega) (by omega) (by omega)).trans ((mu_ne (by omega)).trans ((mu_ne (by omega)).trans ((mu_ne (by omega)).trans ((mu_ne (by omega)).trans ((mu_ne (by omega)).trans ((mu_ne (by omega)).trans ((mu_ne (by omega)).trans (rfl))))))))
  rw [e34] at o33 ⊢
  refine z_inv3 hM dX6_copyLane_17 vl_RX6_173 rfl rfl rfl (Nat.le_of_ble_eq_true rfl) (Nat.le_of_ble_eq_true rfl) ?_
  refine y_set (by omega) (by omega) ⟨fun h => by omega, fun h => by omega⟩ ?_
  obtain ⟨ρ35, e_ρ35⟩ : ∃ zz_, zz_ = mu ρ31 31 0 ((22 * m) + 8) (V 7 l 12) := ⟨_, rfl⟩
  rw [← e_ρ35]
  have Sρ35 : SB t σ0 (mu (mu (mu (mu (mu (mu (mu (mu V 7 m 1 (V 7 l 1)) 7 m 2 (V 7 l 2)) 7 m 3 (V 7 l 3)) 7 m 4 (V 7 l 4)) 7 m 5 (V 7 l 5)) 7 m 6 (V 7 l 6)) 7 m 10 (V 7 l 10)) 7 m 12 (V 7 l 12)) ρ35 := by rw [e_ρ35, show ((22 * m) + 8) = 22 * m + 8 from by omega]; exact Sρ31.p7 (by omega) (by omega) (by omega)
  have r16a_ρ35 : ρ35 31 0 (22 * l + 16) = (if V 11 l 3 = 0 then (0 : Int) else 1) := by rw [e_ρ35]; exact (mu_ne (by omega)).trans r16a_ρ31
  have r17b_ρ35 : ρ35 31 0 (22 * l + 17) = 0 := by rw [e_ρ35]; exact (mu_ne (by omega)).trans r17b_ρ31
  have Yρ35 : FX m (mu (mu (mu (mu (mu (mu (mu (mu V 7 m 1 (V 7 l 1)) 7 m 2 (V 7 l 2)) 7 m 3 (V 7 l 3)) 7 m 4 (V 7 l 4)) 7 m 5 (V 7 l 5)) 7 m 6 (V 7 l 6)) 7 m 10 (V 7 l 10)) 7 m 12 (V 7 l 12)) ρ35 := (Yρ31).e (fun m a b c => by rw [e_ρ35]; exact mu_ne (by omega)) (fun m y c => mu_ne (by omega))
  have Xρ35 : KX t m (mu (mu (mu (mu (mu (mu (mu (mu V 7 m 1 (V 7 l 1)) 7 m 2 (V 7 l 2)) 7 m 3 (V 7 l 3)) 7 m 4 (V 7 l 4)) 7 m 5 (V 7 l 5)) 7 m 6 (V 7 l 6)) 7 m 10 (V 7 l 10)) 7 m 12 (V 7 l 12)) ρ35 := (Xρ31).e (fun m a b c => by rw [e_ρ35]; exact ⟨mu_ne (by omega), mu_ne (by omega)⟩) (fun m c => mu_ne (by omega))
  refine r_iincE hC (9) dX6_copyLane_20 rfl rfl (by omega) (by unfold inR; omega) ?_
  refine r_goto (tgt := 2) hC dX6_copyLane_23 rfl ?_
  refine r_iload_n hC dX6_copyLane_2 rfl ?_
  refine r_bipush hC dX6_copyLane_3 rfl ?_
  refine r_icmp_ge (tgt := 26) hC dX6_copyLane_5 rfl (fun h36 => by omega) (fun h36 => ?_)
  refine r_aload_n hC dX6_copyLane_8 rfl ?_
  refine r_iload_n hC dX6_copyLane_9 rfl ?_
  refine r_iload_n hC dX6_copyLane_10 rfl ?_
  refine r_aload_n hC dX6_copyLane_11 rfl ?_
  refine r_iload_n hC dX6_copyLane_12 rfl ?_
  refine r_iload_n hC dX6_copyLane_13 rfl ?_
  refine z_inv2 hM dX6_copyLane_14 vl_RX6_80 rfl rfl rfl (Nat.le_of_ble_eq_true rfl) (Nat.le_of_ble_eq_true rfl) ?_
  refine y_of (by omega) (by omega) (by omega) (fun o37 => ?_)
  have e38 : ρ35 31 0 (22 * l + 9) = (V 7 l 13) := (Sρ35.a7 (s := 13) (f := 9) (by omega) (by omega) (by omega)).trans ((mu_ne (by omega)).trans ((mu_ne (by omega)).trans ((mu_ne (by omega)).trans ((mu_ne (by omega)).trans ((mu_ne (by omega)).trans ((mu_ne (by omega)).trans ((mu_ne (by omega)).trans ((mu_ne (by omega)).trans (rfl)))))))))
  rw [e38] at o37 ⊢
  refine z_inv3 hM dX6_copyLane_17 vl_RX6_173 rfl rfl rfl (Nat.le_of_ble_eq_true rfl) (Nat.le_of_ble_eq_true rfl) ?_
  refine y_set (by omega) (by omega) ⟨fun h => by omega, fun h => by omega⟩ ?_
  obtain ⟨ρ39, e_ρ39⟩ : ∃ zz_, zz_ = mu ρ35 31 0 ((22 * m) + 9) (V 7 l 13) := ⟨_, rfl⟩
  rw [← e_ρ39]
  have Sρ39 : SB t σ0 (mu (mu (mu (mu (mu (mu (mu (mu (mu V 7 m 1 (V 7 l 1)) 7 m 2 (V 7 l 2)) 7 m 3 (V 7 l 3)) 7 m 4 (V 7 l 4)) 7 m 5 (V 7 l 5)) 7 m 6 (V 7 l 6)) 7 m 10 (V 7 l 10)) 7 m 12 (V 7 l 12)) 7 m 13 (V 7 l 13)) ρ39 := by rw [e_ρ39, show ((22 * m) + 9) = 22 * m + 9 from by omega]; exact Sρ35.p7 (by omega) (by omega) (by omega)
  have r16a_ρ39 : ρ39 31 0 (22 * l + 16) = (if V 11 l 3 = 0 then (0 : Int) else 1) := by rw [e_ρ39]; exact (mu_ne (by omega)).trans r16a_ρ35
  have r17b_ρ39 : ρ39 31 0 (22 * l + 17) = 0 := by rw [e_ρ39]; exact (mu_ne (by omega)).trans r17b_ρ35
  have Yρ39 : FX m (mu (mu (mu (mu (mu (mu (mu (mu (mu V 7 m 1 (V 7 l 1)) 7 m 2 (V 7 l 2)) 7 m 3 (V 7 l 3)) 7 m 4 (V 7 l 4)) 7 m 5 (V 7 l 5)) 7 m 6 (V 7 l 6)) 7 m 10 (V 7 l 10)) 7 m 12 (V 7 l 12)) 7 m 13 (V 7 l 13)) ρ39 := (Yρ35).e (fun m a b c => by rw [e_ρ39]; exact mu_ne (by omega)) (fun m y c => mu_ne (by omega))
  have Xρ39 : KX t m (mu (mu (mu (mu (mu (mu (mu (mu (mu V 7 m 1 (V 7 l 1)) 7 m 2 (V 7 l 2)) 7 m 3 (V 7 l 3)) 7 m 4 (V 7 l 4)) 7 m 5 (V 7 l 5)) 7 m 6 (V 7 l 6)) 7 m 10 (V 7 l 10)) 7 m 12 (V 7 l 12)) 7 m 13 (V 7 l 13)) ρ39 := (Xρ35).e (fun m a b c => by rw [e_ρ39]; exact ⟨mu_ne (by omega), mu_ne (by omega)⟩) (fun m c => mu_ne (by omega))
  refine r_iincE hC (10) dX6_copyLane_20 rfl rfl (by omega) (by unfold inR; omega) ?_
  refine r_goto (tgt := 2) hC dX6_copyLane_23 rfl ?_
  refine r_iload_n hC dX6_copyLane_2 rfl ?_
  refine r_bipush hC dX6_copyLane_3 rfl ?_
  refine r_icmp_ge (tgt := 26) hC dX6_copyLane_5 rfl (fun h40 => by omega) (fun h40 => ?_)
  refine r_aload_n hC dX6_copyLane_8 rfl ?_
  refine r_iload_n hC dX6_copyLane_9 rfl ?_
  refine r_iload_n hC dX6_copyLane_10 rfl ?_
  refine r_aload_n hC dX6_copyLane_11 rfl ?_
  refine r_iload_n hC dX6_copyLane_12 rfl ?_
  refine r_iload_n hC dX6_copyLane_13 rfl ?_
  refine z_inv2 hM dX6_copyLane_14 vl_RX6_80 rfl rfl rfl (Nat.le_of_ble_eq_true rfl) (Nat.le_of_ble_eq_true rfl) ?_
  refine y_of (by omega) (by omega) (by omega) (fun o41 => ?_)
  have e42 : ρ39 31 0 (22 * l + 10) = (V 7 l 14) := (Sρ39.a7 (s := 14) (f := 10) (by omega) (by omega) (by omega)).trans ((mu_ne (by omega)).trans ((mu_ne (by omega)).trans ((mu_ne (by omega)).trans ((mu_ne (by omega)).trans ((mu_ne (by omega)).trans ((mu_ne (by omega)).trans ((mu_ne (by omega)).trans ((mu_ne (by omega)).trans ((mu_ne (by omega)).trans (rfl))))))))))
  rw [e42] at o41 ⊢
  refine z_inv3 hM dX6_copyLane_17 vl_RX6_173 rfl rfl rfl (Nat.le_of_ble_eq_true rfl) (Nat.le_of_ble_eq_true rfl) ?_
  refine y_set (by omega) (by omega) ⟨fun h => by omega, fun h => by omega⟩ ?_
  obtain ⟨ρ43, e_ρ43⟩ : ∃ zz_, zz_ = mu ρ39 31 0 ((22 * m) + 10) (V 7 l 14) := ⟨_, rfl⟩
  rw [← e_ρ43]
  have Sρ43 : SB t σ0 (mu (mu (mu (mu (mu (mu (mu (mu (mu (mu V 7 m 1 (V 7 l 1)) 7 m 2 (V 7 l 2)) 7 m 3 (V 7 l 3)) 7 m 4 (V 7 l 4)) 7 m 5 (V 7 l 5)) 7 m 6 (V 7 l 6)) 7 m 10 (V 7 l 10)) 7 m 12 (V 7 l 12)) 7 m 13 (V 7 l 13)) 7 m 14 (V 7 l 14)) ρ43 := by rw [e_ρ43, show ((22 * m) + 10) = 22 * m + 10 from by omega]; exact Sρ39.p7 (by omega) (by omega) (by omega)
  have r16a_ρ43 : ρ43 31 0 (22 * l + 16) = (if V 11 l 3 = 0 then (0 : Int) else 1) := by rw [e_ρ43]; exact (mu_ne (by omega)).trans r16a_ρ39
  have r17b_ρ43 : ρ43 31 0 (22 * l + 17) = 0 := by rw [e_ρ43]; exact (mu_ne (by omega)).trans r17b_ρ39
  have Yρ43 : FX m (mu (mu (mu (mu (mu (mu (mu (mu (mu (mu V 7 m 1 (V 7 l 1)) 7 m 2 (V 7 l 2)) 7 m 3 (V 7 l 3)) 7 m 4 (V 7 l 4)) 7 m 5 (V 7 l 5)) 7 m 6 (V 7 l 6)) 7 m 10 (V 7 l 10)) 7 m 12 (V 7 l 12)) 7 m 13 (V 7 l 13)) 7 m 14 (V 7 l 14)) ρ43 := (Yρ39).e (fun m a b c => by rw [e_ρ43]; exact mu_ne (by omega)) (fun m y c => mu_ne (by omega))
  have Xρ43 : KX t m (mu (mu (mu (mu (mu (mu (mu (mu (mu (mu V 7 m 1 (V 7 l 1)) 7 m 2 (V 7 l 2)) 7 m 3 (V 7 l 3)) 7 m 4 (V 7 l 4)) 7 m 5 (V 7 l 5)) 7 m 6 (V 7 l 6)) 7 m 10 (V 7 l 10)) 7 m 12 (V 7 l 12)) 7 m 13 (V 7 l 13)) 7 m 14 (V 7 l 14)) ρ43 := (Xρ39).e (fun m a b c => by rw [e_ρ43]; exact ⟨mu_ne (by omega), mu_ne (by omega)⟩) (fun m c => mu_ne (by omega))
  refine r_iincE hC (11) dX6_copyLane_20 rfl rfl (by omega) (by unfold inR; omega) ?_
  show K _ [_, _, _, _] _ _
  refine r_goto (tgt := 2) hC dX6_copyLane_23 rfl ?_
  refine r_iload_n hC dX6_copyLane_2 rfl ?_
  refine r_bipush hC dX6_copyLane_3 rfl ?_
  refine r_icmp_ge (tgt := 26) hC dX6_copyLane_5 rfl (fun h44 => by omega) (fun h44 => ?_)
  refine r_aload_n hC dX6_copyLane_8 rfl ?_
  refine r_iload_n hC dX6_copyLane_9 rfl ?_
  refine r_iload_n hC dX6_copyLane_10 rfl ?_
  refine r_aload_n hC dX6_copyLane_11 rfl ?_
  refine r_iload_n hC dX6_copyLane_12 rfl ?_
  refine r_iload_n hC dX6_copyLane_13 rfl ?_
  refine z_inv2 hM dX6_copyLane_14 vl_RX6_80 rfl rfl rfl (Nat.le_of_ble_eq_true rfl) (Nat.le_of_ble_eq_true rfl) ?_
  refine y_of (by omega) (by omega) (by omega) (fun o45 => ?_)
  have e46 : ρ43 31 0 (22 * l + 11) = (V 7 l 15) := (Sρ43.a7 (s := 15) (f := 11) (by omega) (by omega) (by omega)).trans ((mu_ne (by omega)).trans ((mu_ne (by omega)).trans ((mu_ne (by omega)).trans ((mu_ne (by omega)).trans ((mu_ne (by omega)).trans ((mu_ne (by omega)).trans ((mu_ne (by omega)).trans ((mu_ne (by omega)).trans ((mu_ne (by omega)).trans ((mu_ne (by omega)).trans (rfl)))))))))))
  rw [e46] at o45 ⊢
  refine z_inv3 hM dX6_copyLane_17 vl_RX6_173 rfl rfl rfl (Nat.le_of_ble_eq_true rfl) (Nat.le_of_ble_eq_true rfl) ?_
  refine y_set (by omega) (by omega) ⟨fun h => by omega, fun h => by omega⟩ ?_
  obtain ⟨ρ47, e_ρ47⟩ : ∃ zz_, zz_ = mu ρ43 31 0 ((22 * m) + 11) (V 7 l 15) := ⟨_, rfl⟩
  rw [← e_ρ47]
  have Sρ47 : SB t σ0 (mu (mu (mu (mu (mu (mu (mu (mu (mu (mu (mu V 7 m 1 (V 7 l 1)) 7 m 2 (V 7 l 2)) 7 m 3 (V 7 l 3)) 7 m 4 (V 7 l 4)) 7 m 5 (V 7 l 5)) 7 m 6 (V 7 l 6)) 7 m 10 (V 7 l 10)) 7 m 12 (V 7 l 12)) 7 m 13 (V 7 l 13)) 7 m 14 (V 7 l 14)) 7 m 15 (V 7 l 15)) ρ47 := by rw [e_ρ47, show ((22 * m) + 11) = 22 * m + 11 from by omega]; exact Sρ43.p7 (by omega) (by omega) (by omega)
  have r16a_ρ47 : ρ47 31 0 (22 * l + 16) = (if V 11 l 3 = 0 then (0 : Int) else 1) := by rw [e_ρ47]; exact (mu_ne (by omega)).trans r16a_ρ43
  have r17b_ρ47 : ρ47 31 0 (22 * l + 17) = 0 := by rw [e_ρ47]; exact (mu_ne (by omega)).trans r17b_ρ43
  have Yρ47 : FX m (mu (mu (mu (mu (mu (mu (mu (mu (mu (mu (mu V 7 m 1 (V 7 l 1)) 7 m 2 (V 7 l 2)) 7 m 3 (V 7 l 3)) 7 m 4 (V 7 l 4)) 7 m 5 (V 7 l 5)) 7 m 6 (V 7 l 6)) 7 m 10 (V 7 l 10)) 7 m 12 (V 7 l 12)) 7 m 13 (V 7 l 13)) 7 m 14 (V 7 l 14)) 7 m 15 (V 7 l 15)) ρ47 := (Yρ43).e (fun m a b c => by rw [e_ρ47]; exact mu_ne (by omega)) (fun m y c => mu_ne (by omega))
  have Xρ47 : KX t m (mu (mu (mu (mu (mu (mu (mu (mu (mu (mu (mu V 7 m 1 (V 7 l 1)) 7 m 2 (V 7 l 2)) 7 m 3 (V 7 l 3)) 7 m 4 (V 7 l 4)) 7 m 5 (V 7 l 5)) 7 m 6 (V 7 l 6)) 7 m 10 (V 7 l 10)) 7 m 12 (V 7 l 12)) 7 m 13 (V 7 l 13)) 7 m 14 (V 7 l 14)) 7 m 15 (V 7 l 15)) ρ47 := (Xρ43).e (fun m a b c => by rw [e_ρ47]; exact ⟨mu_ne (by omega), mu_ne (by omega)⟩) (fun m c => mu_ne (by omega))
  refine r_iincE hC (12) dX6_copyLane_20 rfl rfl (by omega) (by unfold inR; omega) ?_
  refine r_goto (tgt := 2) hC dX6_copyLane_23 rfl ?_
  refine r_iload_n hC dX6_copyLane_2 rfl ?_
  refine r_bipush hC dX6_copyLane_3 rfl ?_
  refine r_icmp_ge (tgt := 26) hC dX6_copyLane_5 rfl (fun h48 => by omega) (fun h48 => ?_)
  refine r_aload_n hC dX6_copyLane_8 rfl ?_
  refine r_iload_n hC dX6_copyLane_9 rfl ?_
  refine r_iload_n hC dX6_copyLane_10 rfl ?_
  refine r_aload_n hC dX6_copyLane_11 rfl ?_
  refine r_iload_n hC dX6_copyLane_12 rfl ?_
  refine r_iload_n hC dX6_copyLane_13 rfl ?_
  refine z_inv2 hM dX6_copyLane_14 vl_RX6_80 rfl rfl rfl (Nat.le_of_ble_eq_true rfl) (Nat.le_of_ble_eq_true rfl) ?_
  refine y_of (by omega) (by omega) (by omega) (fun o49 => ?_)
  have e50 : ρ47 31 0 (22 * l + 12) = (V 11 l 0) := (Sρ47.a11 (s := 0) (f := 12) (by omega) (by omega) (by omega)).trans ((mu_ne (by omega)).trans ((mu_ne (by omega)).trans ((mu_ne (by omega)).trans ((mu_ne (by omega)).trans ((mu_ne (by omega)).trans ((mu_ne (by omega)).trans ((mu_ne (by omega)).trans ((mu_ne (by omega)).trans ((mu_ne (by omega)).trans ((mu_ne (by omega)).trans ((mu_ne (by omega)).trans (rfl))))))))))))
  rw [e50] at o49 ⊢
  refine z_inv3 hM dX6_copyLane_17 vl_RX6_173 rfl rfl rfl (Nat.le_of_ble_eq_true rfl) (Nat.le_of_ble_eq_true rfl) ?_
  refine y_set (by omega) (by omega) ⟨fun h => by omega, fun h => by omega⟩ ?_
  obtain ⟨ρ51, e_ρ51⟩ : ∃ zz_, zz_ = mu ρ47 31 0 ((22 * m) + 12) (V 11 l 0) := ⟨_, rfl⟩
  rw [← e_ρ51]
  have Sρ51 : SB t σ0 (mu (mu (mu (mu (mu (mu (mu (mu (mu (mu (mu (mu V 7 m 1 (V 7 l 1)) 7 m 2 (V 7 l 2)) 7 m 3 (V 7 l 3)) 7 m 4 (V 7 l 4)) 7 m 5 (V 7 l 5)) 7 m 6 (V 7 l 6)) 7 m 10 (V 7 l 10)) 7 m 12 (V 7 l 12)) 7 m 13 (V 7 l 13)) 7 m 14 (V 7 l 14)) 7 m 15 (V 7 l 15)) 11 m 0 (V 11 l 0)) ρ51 := by rw [e_ρ51, show ((22 * m) + 12) = 22 * m + 12 from by omega]; exact Sρ47.p11 (by omega) (by omega) (by omega)
  have r16a_ρ51 : ρ51 31 0 (22 * l + 16) = (if V 11 l 3 = 0 then (0 : Int) else 1) := by rw [e_ρ51]; exact (mu_ne (by omega)).trans r16a_ρ47
  have r17b_ρ51 : ρ51 31 0 (22 * l + 17) = 0 := by rw [e_ρ51]; exact (mu_ne (by omega)).trans r17b_ρ47
  have Yρ51 : FX m (mu (mu (mu (mu (mu (mu (mu (mu (mu (mu (mu (mu V 7 m 1 (V 7 l 1)) 7 m 2 (V 7 l 2)) 7 m 3 (V 7 l 3)) 7 m 4 (V 7 l 4)) 7 m 5 (V 7 l 5)) 7 m 6 (V 7 l 6)) 7 m 10 (V 7 l 10)) 7 m 12 (V 7 l 12)) 7 m 13 (V 7 l 13)) 7 m 14 (V 7 l 14)) 7 m 15 (V 7 l 15)) 11 m 0 (V 11 l 0)) ρ51 := (Yρ47).e (fun m a b c => by rw [e_ρ51]; exact mu_ne (by omega)) (fun m y c => mu_ne (by omega))
  have Xρ51 : KX t m (mu (mu (mu (mu (mu (mu (mu (mu (mu (mu (mu (mu V 7 m 1 (V 7 l 1)) 7 m 2 (V 7 l 2)) 7 m 3 (V 7 l 3)) 7 m 4 (V 7 l 4)) 7 m 5 (V 7 l 5)) 7 m 6 (V 7 l 6)) 7 m 10 (V 7 l 10)) 7 m 12 (V 7 l 12)) 7 m 13 (V 7 l 13)) 7 m 14 (V 7 l 14)) 7 m 15 (V 7 l 15)) 11 m 0 (V 11 l 0)) ρ51 := (Xρ47).e (fun m a b c => by rw [e_ρ51]; exact ⟨mu_ne (by omega), mu_ne (by omega)⟩) (fun m c => mu_ne (by omega))
  refine r_iincE hC (13) dX6_copyLane_20 rfl rfl (by omega) (by unfold inR; omega) ?_
  refine r_goto (tgt := 2) hC dX6_copyLane_23 rfl ?_
  refine r_iload_n hC dX6_copyLane_2 rfl ?_
  refine r_bipush hC dX6_copyLane_3 rfl ?_
  refine r_icmp_ge (tgt := 26) hC dX6_copyLane_5 rfl (fun h52 => by omega) (fun h52 => ?_)
  refine r_aload_n hC dX6_copyLane_8 rfl ?_
  refine r_iload_n hC dX6_copyLane_9 rfl ?_
  refine r_iload_n hC dX6_copyLane_10 rfl ?_
  refine r_aload_n hC dX6_copyLane_11 rfl ?_
  refine r_iload_n hC dX6_copyLane_12 rfl ?_
  refine r_iload_n hC dX6_copyLane_13 rfl ?_
  refine z_inv2 hM dX6_copyLane_14 vl_RX6_80 rfl rfl rfl (Nat.le_of_ble_eq_true rfl) (Nat.le_of_ble_eq_true rfl) ?_
  refine y_of (by omega) (by omega) (by omega) (fun o53 => ?_)
  have e54 : ρ51 31 0 (22 * l + 13) = (V 11 l 1) := (Sρ51.a11 (s := 1) (f := 13) (by omega) (by omega) (by omega)).trans ((mu_ne (by omega)).trans ((mu_ne (by omega)).trans ((mu_ne (by omega)).trans ((mu_ne (by omega)).trans ((mu_ne (by omega)).trans ((mu_ne (by omega)).trans ((mu_ne (by omega)).trans ((mu_ne (by omega)).trans ((mu_ne (by omega)).trans ((mu_ne (by omega)).trans ((mu_ne (by omega)).trans ((mu_ne (by omega)).trans (rfl)))))))))))))
  rw [e54] at o53 ⊢
  refine z_inv3 hM dX6_copyLane_17 vl_RX6_173 rfl rfl rfl (Nat.le_of_ble_eq_true rfl) (Nat.le_of_ble_eq_true rfl) ?_
  refine y_set (by omega) (by omega) ⟨fun h => by omega, fun h => by omega⟩ ?_
  obtain ⟨ρ55, e_ρ55⟩ : ∃ zz_, zz_ = mu ρ51 31 0 ((22 * m) + 13) (V 11 l 1) := ⟨_, rfl⟩
  rw [← e_ρ55]
  have Sρ55 : SB t σ0 (mu (mu (mu (mu (mu (mu (mu (mu (mu (mu (mu (mu (mu V 7 m 1 (V 7 l 1)) 7 m 2 (V 7 l 2)) 7 m 3 (V 7 l 3)) 7 m 4 (V 7 l 4)) 7 m 5 (V 7 l 5)) 7 m 6 (V 7 l 6)) 7 m 10 (V 7 l 10)) 7 m 12 (V 7 l 12)) 7 m 13 (V 7 l 13)) 7 m 14 (V 7 l 14)) 7 m 15 (V 7 l 15)) 11 m 0 (V 11 l 0)) 11 m 1 (V 11 l 1)) ρ55 := by rw [e_ρ55, show ((22 * m) + 13) = 22 * m + 13 from by omega]; exact Sρ51.p11 (by omega) (by omega) (by omega)
  have r16a_ρ55 : ρ55 31 0 (22 * l + 16) = (if V 11 l 3 = 0 then (0 : Int) else 1) := by rw [e_ρ55]; exact (mu_ne (by omega)).trans r16a_ρ51
  have r17b_ρ55 : ρ55 31 0 (22 * l + 17) = 0 := by rw [e_ρ55]; exact (mu_ne (by omega)).trans r17b_ρ51
  have Yρ55 : FX m (mu (mu (mu (mu (mu (mu (mu (mu (mu (mu (mu (mu (mu V 7 m 1 (V 7 l 1)) 7 m 2 (V 7 l 2)) 7 m 3 (V 7 l 3)) 7 m 4 (V 7 l 4)) 7 m 5 (V 7 l 5)) 7 m 6 (V 7 l 6)) 7 m 10 (V 7 l 10)) 7 m 12 (V 7 l 12)) 7 m 13 (V 7 l 13)) 7 m 14 (V 7 l 14)) 7 m 15 (V 7 l 15)) 11 m 0 (V 11 l 0)) 11 m 1 (V 11 l 1)) ρ55 := (Yρ51).e (fun m a b c => by rw [e_ρ55]; exact mu_ne (by omega)) (fun m y c => mu_ne (by omega))
  have Xρ55 : KX t m (mu (mu (mu (mu (mu (mu (mu (mu (mu (mu (mu (mu (mu V 7 m 1 (V 7 l 1)) 7 m 2 (V 7 l 2)) 7 m 3 (V 7 l 3)) 7 m 4 (V 7 l 4)) 7 m 5 (V 7 l 5)) 7 m 6 (V 7 l 6)) 7 m 10 (V 7 l 10)) 7 m 12 (V 7 l 12)) 7 m 13 (V 7 l 13)) 7 m 14 (V 7 l 14)) 7 m 15 (V 7 l 15)) 11 m 0 (V 11 l 0)) 11 m 1 (V 11 l 1)) ρ55 := (Xρ51).e (fun m a b c => by rw [e_ρ55]; exact ⟨mu_ne (by omega), mu_ne (by omega)⟩) (fun m c => mu_ne (by omega))
  refine r_iincE hC (14) dX6_copyLane_20 rfl rfl (by omega) (by unfold inR; omega) ?_
  show K _ [_, _, _, _] _ _
  refine r_goto (tgt := 2) hC dX6_copyLane_23 rfl ?_
  refine r_iload_n hC dX6_copyLane_2 rfl ?_
  refine r_bipush hC dX6_copyLane_3 rfl ?_
  refine r_icmp_ge (tgt := 26) hC dX6_copyLane_5 rfl (fun h56 => by omega) (fun h56 => ?_)
  refine r_aload_n hC dX6_copyLane_8 rfl ?_
  refine r_iload_n hC dX6_copyLane_9 rfl ?_
  refine r_iload_n hC dX6_copyLane_10 rfl ?_
  refine r_aload_n hC dX6_copyLane_11 rfl ?_
  refine r_iload_n hC dX6_copyLane_12 rfl ?_
  refine r_iload_n hC dX6_copyLane_13 rfl ?_
  refine z_inv2 hM dX6_copyLane_14 vl_RX6_80 rfl rfl rfl (Nat.le_of_ble_eq_true rfl) (Nat.le_of_ble_eq_true rfl) ?_
  refine y_of (by omega) (by omega) (by omega) (fun o57 => ?_)
  have e58 : ρ55 31 0 (22 * l + 14) = (V 11 l 2) := (Sρ55.a11 (s := 2) (f := 14) (by omega) (by omega) (by omega)).trans ((mu_ne (by omega)).trans ((mu_ne (by omega)).trans ((mu_ne (by omega)).trans ((mu_ne (by omega)).trans ((mu_ne (by omega)).trans ((mu_ne (by omega)).trans ((mu_ne (by omega)).trans ((mu_ne (by omega)).trans ((mu_ne (by omega)).trans ((mu_ne (by omega)).trans ((mu_ne (by omega)).trans ((mu_ne (by omega)).trans ((mu_ne (by omega)).trans (rfl))))))))))))))
  rw [e58] at o57 ⊢
  refine z_inv3 hM dX6_copyLane_17 vl_RX6_173 rfl rfl rfl (Nat.le_of_ble_eq_true rfl) (Nat.le_of_ble_eq_true rfl) ?_
  refine y_set (by omega) (by omega) ⟨fun h => by omega, fun h => by omega⟩ ?_
  obtain ⟨ρ59, e_ρ59⟩ : ∃ zz_, zz_ = mu ρ55 31 0 ((22 * m) + 14) (V 11 l 2) := ⟨_, rfl⟩
  rw [← e_ρ59]
  have Sρ59 : SB t σ0 (mu (mu (mu (mu (mu (mu (mu (mu (mu (mu (mu (mu (mu (mu V 7 m 1 (V 7 l 1)) 7 m 2 (V 7 l 2)) 7 m 3 (V 7 l 3)) 7 m 4 (V 7 l 4)) 7 m 5 (V 7 l 5)) 7 m 6 (V 7 l 6)) 7 m 10 (V 7 l 10)) 7 m 12 (V 7 l 12)) 7 m 13 (V 7 l 13)) 7 m 14 (V 7 l 14)) 7 m 15 (V 7 l 15)) 11 m 0 (V 11 l 0)) 11 m 1 (V 11 l 1)) 11 m 2 (V 11 l 2)) ρ59 := by rw [e_ρ59, show ((22 * m) + 14) = 22 * m + 14 from by omega]; exact Sρ55.p11 (by omega) (by omega) (by omega)
  have r16a_ρ59 : ρ59 31 0 (22 * l + 16) = (if V 11 l 3 = 0 then (0 : Int) else 1) := by rw [e_ρ59]; exact (mu_ne (by omega)).trans r16a_ρ55
  have r17b_ρ59 : ρ59 31 0 (22 * l + 17) = 0 := by rw [e_ρ59]; exact (mu_ne (by omega)).trans r17b_ρ55
  have Yρ59 : FX m (mu (mu (mu (mu (mu (mu (mu (mu (mu (mu (mu (mu (mu (mu V 7 m 1 (V 7 l 1)) 7 m 2 (V 7 l 2)) 7 m 3 (V 7 l 3)) 7 m 4 (V 7 l 4)) 7 m 5 (V 7 l 5)) 7 m 6 (V 7 l 6)) 7 m 10 (V 7 l 10)) 7 m 12 (V 7 l 12)) 7 m 13 (V 7 l 13)) 7 m 14 (V 7 l 14)) 7 m 15 (V 7 l 15)) 11 m 0 (V 11 l 0)) 11 m 1 (V 11 l 1)) 11 m 2 (V 11 l 2)) ρ59 := (Yρ55).e (fun m a b c => by rw [e_ρ59]; exact mu_ne (by omega)) (fun m y c => mu_ne (by omega))
  have Xρ59 : KX t m (mu (mu (mu (mu (mu (mu (mu (mu (mu (mu (mu (mu (mu (mu V 7 m 1 (V 7 l 1)) 7 m 2 (V 7 l 2)) 7 m 3 (V 7 l 3)) 7 m 4 (V 7 l 4)) 7 m 5 (V 7 l 5)) 7 m 6 (V 7 l 6)) 7 m 10 (V 7 l 10)) 7 m 12 (V 7 l 12)) 7 m 13 (V 7 l 13)) 7 m 14 (V 7 l 14)) 7 m 15 (V 7 l 15)) 11 m 0 (V 11 l 0)) 11 m 1 (V 11 l 1)) 11 m 2 (V 11 l 2)) ρ59 := (Xρ55).e (fun m a b c => by rw [e_ρ59]; exact ⟨mu_ne (by omega), mu_ne (by omega)⟩) (fun m c => mu_ne (by omega))
  refine r_iincE hC (15) dX6_copyLane_20 rfl rfl (by omega) (by unfold inR; omega) ?_
  refine r_goto (tgt := 2) hC dX6_copyLane_23 rfl ?_
  refine r_iload_n hC dX6_copyLane_2 rfl ?_
  refine r_bipush hC dX6_copyLane_3 rfl ?_
  refine r_icmp_ge (tgt := 26) hC dX6_copyLane_5 rfl (fun h60 => by omega) (fun h60 => ?_)
  refine r_aload_n hC dX6_copyLane_8 rfl ?_
  refine r_iload_n hC dX6_copyLane_9 rfl ?_
  refine r_iload_n hC dX6_copyLane_10 rfl ?_
  refine r_aload_n hC dX6_copyLane_11 rfl ?_
  refine r_iload_n hC dX6_copyLane_12 rfl ?_
  refine r_iload_n hC dX6_copyLane_13 rfl ?_
  refine z_inv2 hM dX6_copyLane_14 vl_RX6_80 rfl rfl rfl (Nat.le_of_ble_eq_true rfl) (Nat.le_of_ble_eq_true rfl) ?_
  refine y_of (by omega) (by omega) (by omega) (fun o61 => ?_)
  have e62 : ρ59 31 0 (22 * l + 15) = (V 11 l 3) := (Sρ59.a11 (s := 3) (f := 15) (by omega) (by omega) (by omega)).trans ((mu_ne (by omega)).trans ((mu_ne (by omega)).trans ((mu_ne (by omega)).trans ((mu_ne (by omega)).trans ((mu_ne (by omega)).trans ((mu_ne (by omega)).trans ((mu_ne (by omega)).trans ((mu_ne (by omega)).trans ((mu_ne (by omega)).trans ((mu_ne (by omega)).trans ((mu_ne (by omega)).trans ((mu_ne (by omega)).trans ((mu_ne (by omega)).trans ((mu_ne (by omega)).trans (rfl)))))))))))))))
  rw [e62] at o61 ⊢
  refine z_inv3 hM dX6_copyLane_17 vl_RX6_173 rfl rfl rfl (Nat.le_of_ble_eq_true rfl) (Nat.le_of_ble_eq_true rfl) ?_
  refine y_set (by omega) (by omega) ⟨fun h => by omega, fun h => by omega⟩ ?_
  obtain ⟨ρ63, e_ρ63⟩ : ∃ zz_, zz_ = mu ρ59 31 0 ((22 * m) + 15) (V 11 l 3) := ⟨_, rfl⟩
  rw [← e_ρ63]
  have Sρ63 : SB t σ0 (mu (mu (mu (mu (mu (mu (mu (mu (mu (mu (mu (mu (mu (mu (mu V 7 m 1 (V 7 l 1)) 7 m 2 (V 7 l 2)) 7 m 3 (V 7 l 3)) 7 m 4 (V 7 l 4)) 7 m 5 (V 7 l 5)) 7 m 6 (V 7 l 6)) 7 m 10 (V 7 l 10)) 7 m 12 (V 7 l 12)) 7 m 13 (V 7 l 13)) 7 m 14 (V 7 l 14)) 7 m 15 (V 7 l 15)) 11 m 0 (V 11 l 0)) 11 m 1 (V 11 l 1)) 11 m 2 (V 11 l 2)) 11 m 3 (V 11 l 3)) ρ63 := by rw [e_ρ63, show ((22 * m) + 15) = 22 * m + 15 from by omega]; exact Sρ59.p11 (by omega) (by omega) (by omega)
  have r16a_ρ63 : ρ63 31 0 (22 * l + 16) = (if V 11 l 3 = 0 then (0 : Int) else 1) := by rw [e_ρ63]; exact (mu_ne (by omega)).trans r16a_ρ59
  have r17b_ρ63 : ρ63 31 0 (22 * l + 17) = 0 := by rw [e_ρ63]; exact (mu_ne (by omega)).trans r17b_ρ59
  have Yρ63 : FX m (mu (mu (mu (mu (mu (mu (mu (mu (mu (mu (mu (mu (mu (mu (mu V 7 m 1 (V 7 l 1)) 7 m 2 (V 7 l 2)) 7 m 3 (V 7 l 3)) 7 m 4 (V 7 l 4)) 7 m 5 (V 7 l 5)) 7 m 6 (V 7 l 6)) 7 m 10 (V 7 l 10)) 7 m 12 (V 7 l 12)) 7 m 13 (V 7 l 13)) 7 m 14 (V 7 l 14)) 7 m 15 (V 7 l 15)) 11 m 0 (V 11 l 0)) 11 m 1 (V 11 l 1)) 11 m 2 (V 11 l 2)) 11 m 3 (V 11 l 3)) ρ63 := (Yρ59).e (fun m a b c => by rw [e_ρ63]; exact mu_ne (by omega)) (fun m y c => mu_ne (by omega))
  have Xρ63 : KX t m (mu (mu (mu (mu (mu (mu (mu (mu (mu (mu (mu (mu (mu (mu (mu V 7 m 1 (V 7 l 1)) 7 m 2 (V 7 l 2)) 7 m 3 (V 7 l 3)) 7 m 4 (V 7 l 4)) 7 m 5 (V 7 l 5)) 7 m 6 (V 7 l 6)) 7 m 10 (V 7 l 10)) 7 m 12 (V 7 l 12)) 7 m 13 (V 7 l 13)) 7 m 14 (V 7 l 14)) 7 m 15 (V 7 l 15)) 11 m 0 (V 11 l 0)) 11 m 1 (V 11 l 1)) 11 m 2 (V 11 l 2)) 11 m 3 (V 11 l 3)) ρ63 := (Xρ59).e (fun m a b c => by rw [e_ρ63]; exact ⟨mu_ne (by omega), mu_ne (by omega)⟩) (fun m c => mu_ne (by omega))
  refine r_iincE hC (16) dX6_copyLane_20 rfl rfl (by omega) (by unfold inR; omega) ?_
  refine r_goto (tgt := 2) hC dX6_copyLane_23 rfl ?_
  refine r_iload_n hC dX6_copyLane_2 rfl ?_
  refine r_bipush hC dX6_copyLane_3 rfl ?_
  refine r_icmp_ge (tgt := 26) hC dX6_copyLane_5 rfl (fun h64 => by omega) (fun h64 => ?_)
  refine r_aload_n hC dX6_copyLane_8 rfl ?_
  refine r_iload_n hC dX6_copyLane_9 rfl ?_
  refine r_iload_n hC dX6_copyLane_10 rfl ?_
  refine r_aload_n hC dX6_copyLane_11 rfl ?_
  refine r_iload_n hC dX6_copyLane_12 rfl ?_
  refine r_iload_n hC dX6_copyLane_13 rfl ?_
  refine z_inv2 hM dX6_copyLane_14 vl_RX6_80 rfl rfl rfl (Nat.le_of_ble_eq_true rfl) (Nat.le_of_ble_eq_true rfl) ?_
  refine y_of (by omega) (by omega) (by omega) (fun o65 => ?_)
  rw [r16a_ρ63]
  refine z_inv3 hM dX6_copyLane_17 vl_RX6_173 rfl rfl rfl (Nat.le_of_ble_eq_true rfl) (Nat.le_of_ble_eq_true rfl) ?_
  refine y_set (by omega) (by omega) ⟨fun h => by omega, fun h => by omega⟩ ?_
  obtain ⟨ρ66, e_ρ66⟩ : ∃ zz_, zz_ = mu ρ63 31 0 ((22 * m) + 16) (if V 11 l 3 = 0 then (0 : Int) else 1) := ⟨_, rfl⟩
  rw [← e_ρ66]
  have Sρ66 : SB t σ0 (mu (mu (mu (mu (mu (mu (mu (mu (mu (mu (mu (mu (mu (mu (mu V 7 m 1 (V 7 l 1)) 7 m 2 (V 7 l 2)) 7 m 3 (V 7 l 3)) 7 m 4 (V 7 l 4)) 7 m 5 (V 7 l 5)) 7 m 6 (V 7 l 6)) 7 m 10 (V 7 l 10)) 7 m 12 (V 7 l 12)) 7 m 13 (V 7 l 13)) 7 m 14 (V 7 l 14)) 7 m 15 (V 7 l 15)) 11 m 0 (V 11 l 0)) 11 m 1 (V 11 l 1)) 11 m 2 (V 11 l 2)) 11 m 3 (V 11 l 3)) ρ66 := by rw [e_ρ66, show ((22 * m) + 16) = 22 * m + 16 from by omega]; exact Sρ63.px (by omega)
  have r16a_ρ66 : ρ66 31 0 (22 * l + 16) = (if V 11 l 3 = 0 then (0 : Int) else 1) := by rw [e_ρ66]; exact (mu_ne (by omega)).trans r16a_ρ63
  have r17b_ρ66 : ρ66 31 0 (22 * l + 17) = 0 := by rw [e_ρ66]; exact (mu_ne (by omega)).trans r17b_ρ63
  have r16_ρ66 : ρ66 31 0 (22 * m + 16) = (if V 11 l 3 = 0 then (0 : Int) else 1) := by rw [e_ρ66, show ((22 * m) + 16) = 22 * m + 16 from by omega]; exact mu_self _ _ _ _ _
  have Yρ66 : FX m (mu (mu (mu (mu (mu (mu (mu (mu (mu (mu (mu (mu (mu (mu (mu V 7 m 1 (V 7 l 1)) 7 m 2 (V 7 l 2)) 7 m 3 (V 7 l 3)) 7 m 4 (V 7 l 4)) 7 m 5 (V 7 l 5)) 7 m 6 (V 7 l 6)) 7 m 10 (V 7 l 10)) 7 m 12 (V 7 l 12)) 7 m 13 (V 7 l 13)) 7 m 14 (V 7 l 14)) 7 m 15 (V 7 l 15)) 11 m 0 (V 11 l 0)) 11 m 1 (V 11 l 1)) 11 m 2 (V 11 l 2)) 11 m 3 (V 11 l 3)) ρ66 := (Yρ63).e (fun m a b c => by rw [e_ρ66]; exact mu_ne (by omega)) (fun m y c => rfl)
  have Xρ66 : KX t m (mu (mu (mu (mu (mu (mu (mu (mu (mu (mu (mu (mu (mu (mu (mu V 7 m 1 (V 7 l 1)) 7 m 2 (V 7 l 2)) 7 m 3 (V 7 l 3)) 7 m 4 (V 7 l 4)) 7 m 5 (V 7 l 5)) 7 m 6 (V 7 l 6)) 7 m 10 (V 7 l 10)) 7 m 12 (V 7 l 12)) 7 m 13 (V 7 l 13)) 7 m 14 (V 7 l 14)) 7 m 15 (V 7 l 15)) 11 m 0 (V 11 l 0)) 11 m 1 (V 11 l 1)) 11 m 2 (V 11 l 2)) 11 m 3 (V 11 l 3)) ρ66 := (Xρ63).e (fun m a b c => by rw [e_ρ66]; exact ⟨mu_ne (by omega), mu_ne (by omega)⟩) (fun m c => rfl)
  refine r_iincE hC (17) dX6_copyLane_20 rfl rfl (by omega) (by unfold inR; omega) ?_
  show K _ [_, _, _, _] _ _
  refine r_goto (tgt := 2) hC dX6_copyLane_23 rfl ?_
  refine r_iload_n hC dX6_copyLane_2 rfl ?_
  refine r_bipush hC dX6_copyLane_3 rfl ?_
  refine r_icmp_ge (tgt := 26) hC dX6_copyLane_5 rfl (fun h67 => by omega) (fun h67 => ?_)
  refine r_aload_n hC dX6_copyLane_8 rfl ?_
  refine r_iload_n hC dX6_copyLane_9 rfl ?_
  refine r_iload_n hC dX6_copyLane_10 rfl ?_
  refine r_aload_n hC dX6_copyLane_11 rfl ?_
  refine r_iload_n hC dX6_copyLane_12 rfl ?_
  refine r_iload_n hC dX6_copyLane_13 rfl ?_
  refine z_inv2 hM dX6_copyLane_14 vl_RX6_80 rfl rfl rfl (Nat.le_of_ble_eq_true rfl) (Nat.le_of_ble_eq_true rfl) ?_
  refine y_of (by omega) (by omega) (by omega) (fun o68 => ?_)
  rw [r17b_ρ66]
  refine z_inv3 hM dX6_copyLane_17 vl_RX6_173 rfl rfl rfl (Nat.le_of_ble_eq_true rfl) (Nat.le_of_ble_eq_true rfl) ?_
  refine y_set (by omega) (by omega) ⟨fun h => by omega, fun h => by omega⟩ ?_
  obtain ⟨ρ69, e_ρ69⟩ : ∃ zz_, zz_ = mu ρ66 31 0 ((22 * m) + 17) 0 := ⟨_, rfl⟩
  rw [← e_ρ69]
  have Sρ69 : SB t σ0 (mu (mu (mu (mu (mu (mu (mu (mu (mu (mu (mu (mu (mu (mu (mu V 7 m 1 (V 7 l 1)) 7 m 2 (V 7 l 2)) 7 m 3 (V 7 l 3)) 7 m 4 (V 7 l 4)) 7 m 5 (V 7 l 5)) 7 m 6 (V 7 l 6)) 7 m 10 (V 7 l 10)) 7 m 12 (V 7 l 12)) 7 m 13 (V 7 l 13)) 7 m 14 (V 7 l 14)) 7 m 15 (V 7 l 15)) 11 m 0 (V 11 l 0)) 11 m 1 (V 11 l 1)) 11 m 2 (V 11 l 2)) 11 m 3 (V 11 l 3)) ρ69 := by rw [e_ρ69, show ((22 * m) + 17) = 22 * m + 17 from by omega]; exact Sρ66.px (by omega)
  have r16a_ρ69 : ρ69 31 0 (22 * l + 16) = (if V 11 l 3 = 0 then (0 : Int) else 1) := by rw [e_ρ69]; exact (mu_ne (by omega)).trans r16a_ρ66
  have r17b_ρ69 : ρ69 31 0 (22 * l + 17) = 0 := by rw [e_ρ69]; exact (mu_ne (by omega)).trans r17b_ρ66
  have r16c_ρ69 : ρ69 31 0 (22 * m + 16) = (if V 11 l 3 = 0 then (0 : Int) else 1) := by rw [e_ρ69]; exact (mu_ne (by omega)).trans r16_ρ66
  have r17_ρ69 : ρ69 31 0 (22 * m + 17) = 0 := by rw [e_ρ69, show ((22 * m) + 17) = 22 * m + 17 from by omega]; exact mu_self _ _ _ _ _
  have Yρ69 : FX m (mu (mu (mu (mu (mu (mu (mu (mu (mu (mu (mu (mu (mu (mu (mu V 7 m 1 (V 7 l 1)) 7 m 2 (V 7 l 2)) 7 m 3 (V 7 l 3)) 7 m 4 (V 7 l 4)) 7 m 5 (V 7 l 5)) 7 m 6 (V 7 l 6)) 7 m 10 (V 7 l 10)) 7 m 12 (V 7 l 12)) 7 m 13 (V 7 l 13)) 7 m 14 (V 7 l 14)) 7 m 15 (V 7 l 15)) 11 m 0 (V 11 l 0)) 11 m 1 (V 11 l 1)) 11 m 2 (V 11 l 2)) 11 m 3 (V 11 l 3)) ρ69 := (Yρ66).e (fun m a b c => by rw [e_ρ69]; exact mu_ne (by omega)) (fun m y c => rfl)
  have Xρ69 : KX t m (mu (mu (mu (mu (mu (mu (mu (mu (mu (mu (mu (mu (mu (mu (mu V 7 m 1 (V 7 l 1)) 7 m 2 (V 7 l 2)) 7 m 3 (V 7 l 3)) 7 m 4 (V 7 l 4)) 7 m 5 (V 7 l 5)) 7 m 6 (V 7 l 6)) 7 m 10 (V 7 l 10)) 7 m 12 (V 7 l 12)) 7 m 13 (V 7 l 13)) 7 m 14 (V 7 l 14)) 7 m 15 (V 7 l 15)) 11 m 0 (V 11 l 0)) 11 m 1 (V 11 l 1)) 11 m 2 (V 11 l 2)) 11 m 3 (V 11 l 3)) ρ69 := (Xρ66).e (fun m a b c => by rw [e_ρ69]; exact ⟨mu_ne (by omega), mu_ne (by omega)⟩) (fun m c => rfl)
  refine r_iincE hC (18) dX6_copyLane_20 rfl rfl (by omega) (by unfold inR; omega) ?_
  refine r_goto (tgt := 2) hC dX6_copyLane_23 rfl ?_
  refine r_iload_n hC dX6_copyLane_2 rfl ?_
  refine r_bipush hC dX6_copyLane_3 rfl ?_
  refine r_icmp_ge (tgt := 26) hC dX6_copyLane_5 rfl (fun h70 => by omega) (fun h70 => ?_)
  refine r_aload_n hC dX6_copyLane_8 rfl ?_
  refine r_iload_n hC dX6_copyLane_9 rfl ?_
  refine r_iload_n hC dX6_copyLane_10 rfl ?_
  refine r_aload_n hC dX6_copyLane_11 rfl ?_
  refine r_iload_n hC dX6_copyLane_12 rfl ?_
  refine r_iload_n hC dX6_copyLane_13 rfl ?_
  refine z_inv2 hM dX6_copyLane_14 vl_RX6_80 rfl rfl rfl (Nat.le_of_ble_eq_true rfl) (Nat.le_of_ble_eq_true rfl) ?_
  refine y_of (by omega) (by omega) (by omega) (fun o71 => ?_)
  have e72 : ρ69 31 0 (22 * l + 18) = (V 11 l 4) := (Sρ69.a11 (s := 4) (f := 18) (by omega) (by omega) (by omega)).trans ((mu_ne (by omega)).trans ((mu_ne (by omega)).trans ((mu_ne (by omega)).trans ((mu_ne (by omega)).trans ((mu_ne (by omega)).trans ((mu_ne (by omega)).trans ((mu_ne (by omega)).trans ((mu_ne (by omega)).trans ((mu_ne (by omega)).trans ((mu_ne (by omega)).trans ((mu_ne (by omega)).trans ((mu_ne (by omega)).trans ((mu_ne (by omega)).trans ((mu_ne (by omega)).trans ((mu_ne (by omega)).trans (rfl))))))))))))))))
  rw [e72] at o71 ⊢
  refine z_inv3 hM dX6_copyLane_17 vl_RX6_173 rfl rfl rfl (Nat.le_of_ble_eq_true rfl) (Nat.le_of_ble_eq_true rfl) ?_
  refine y_set (by omega) (by omega) ⟨fun h => by omega, fun h => by omega⟩ ?_
  obtain ⟨ρ73, e_ρ73⟩ : ∃ zz_, zz_ = mu ρ69 31 0 ((22 * m) + 18) (V 11 l 4) := ⟨_, rfl⟩
  rw [← e_ρ73]
  have Sρ73 : SB t σ0 (mu (mu (mu (mu (mu (mu (mu (mu (mu (mu (mu (mu (mu (mu (mu (mu V 7 m 1 (V 7 l 1)) 7 m 2 (V 7 l 2)) 7 m 3 (V 7 l 3)) 7 m 4 (V 7 l 4)) 7 m 5 (V 7 l 5)) 7 m 6 (V 7 l 6)) 7 m 10 (V 7 l 10)) 7 m 12 (V 7 l 12)) 7 m 13 (V 7 l 13)) 7 m 14 (V 7 l 14)) 7 m 15 (V 7 l 15)) 11 m 0 (V 11 l 0)) 11 m 1 (V 11 l 1)) 11 m 2 (V 11 l 2)) 11 m 3 (V 11 l 3)) 11 m 4 (V 11 l 4)) ρ73 := by rw [e_ρ73, show ((22 * m) + 18) = 22 * m + 18 from by omega]; exact Sρ69.p11 (by omega) (by omega) (by omega)
  have r16a_ρ73 : ρ73 31 0 (22 * l + 16) = (if V 11 l 3 = 0 then (0 : Int) else 1) := by rw [e_ρ73]; exact (mu_ne (by omega)).trans r16a_ρ69
  have r17b_ρ73 : ρ73 31 0 (22 * l + 17) = 0 := by rw [e_ρ73]; exact (mu_ne (by omega)).trans r17b_ρ69
  have r16c_ρ73 : ρ73 31 0 (22 * m + 16) = (if V 11 l 3 = 0 then (0 : Int) else 1) := by rw [e_ρ73]; exact (mu_ne (by omega)).trans r16c_ρ69
  have r17d_ρ73 : ρ73 31 0 (22 * m + 17) = 0 := by rw [e_ρ73]; exact (mu_ne (by omega)).trans r17_ρ69
  have Yρ73 : FX m (mu (mu (mu (mu (mu (mu (mu (mu (mu (mu (mu (mu (mu (mu (mu (mu V 7 m 1 (V 7 l 1)) 7 m 2 (V 7 l 2)) 7 m 3 (V 7 l 3)) 7 m 4 (V 7 l 4)) 7 m 5 (V 7 l 5)) 7 m 6 (V 7 l 6)) 7 m 10 (V 7 l 10)) 7 m 12 (V 7 l 12)) 7 m 13 (V 7 l 13)) 7 m 14 (V 7 l 14)) 7 m 15 (V 7 l 15)) 11 m 0 (V 11 l 0)) 11 m 1 (V 11 l 1)) 11 m 2 (V 11 l 2)) 11 m 3 (V 11 l 3)) 11 m 4 (V 11 l 4)) ρ73 := (Yρ69).e (fun m a b c => by rw [e_ρ73]; exact mu_ne (by omega)) (fun m y c => mu_ne (by omega))
  have Xρ73 : KX t m (mu (mu (mu (mu (mu (mu (mu (mu (mu (mu (mu (mu (mu (mu (mu (mu V 7 m 1 (V 7 l 1)) 7 m 2 (V 7 l 2)) 7 m 3 (V 7 l 3)) 7 m 4 (V 7 l 4)) 7 m 5 (V 7 l 5)) 7 m 6 (V 7 l 6)) 7 m 10 (V 7 l 10)) 7 m 12 (V 7 l 12)) 7 m 13 (V 7 l 13)) 7 m 14 (V 7 l 14)) 7 m 15 (V 7 l 15)) 11 m 0 (V 11 l 0)) 11 m 1 (V 11 l 1)) 11 m 2 (V 11 l 2)) 11 m 3 (V 11 l 3)) 11 m 4 (V 11 l 4)) ρ73 := (Xρ69).e (fun m a b c => by rw [e_ρ73]; exact ⟨mu_ne (by omega), mu_ne (by omega)⟩) (fun m c => mu_ne (by omega))
  refine r_iincE hC (19) dX6_copyLane_20 rfl rfl (by omega) (by unfold inR; omega) ?_
  refine r_goto (tgt := 2) hC dX6_copyLane_23 rfl ?_
  refine r_iload_n hC dX6_copyLane_2 rfl ?_
  refine r_bipush hC dX6_copyLane_3 rfl ?_
  refine r_icmp_ge (tgt := 26) hC dX6_copyLane_5 rfl (fun h74 => by omega) (fun h74 => ?_)
  refine r_aload_n hC dX6_copyLane_8 rfl ?_
  refine r_iload_n hC dX6_copyLane_9 rfl ?_
  refine r_iload_n hC dX6_copyLane_10 rfl ?_
  refine r_aload_n hC dX6_copyLane_11 rfl ?_
  refine r_iload_n hC dX6_copyLane_12 rfl ?_
  refine r_iload_n hC dX6_copyLane_13 rfl ?_
  refine z_inv2 hM dX6_copyLane_14 vl_RX6_80 rfl rfl rfl (Nat.le_of_ble_eq_true rfl) (Nat.le_of_ble_eq_true rfl) ?_
  refine y_of (by omega) (by omega) (by omega) (fun o75 => ?_)
  have e76 : ρ73 31 0 (22 * l + 19) = (V 11 l 5) := (Sρ73.a11 (s := 5) (f := 19) (by omega) (by omega) (by omega)).trans ((mu_ne (by omega)).trans ((mu_ne (by omega)).trans ((mu_ne (by omega)).trans ((mu_ne (by omega)).trans ((mu_ne (by omega)).trans ((mu_ne (by omega)).trans ((mu_ne (by omega)).trans ((mu_ne (by omega)).trans ((mu_ne (by omega)).trans ((mu_ne (by omega)).trans ((mu_ne (by omega)).trans ((mu_ne (by omega)).trans ((mu_ne (by omega)).trans ((mu_ne (by omega)).trans ((mu_ne (by omega)).trans ((mu_ne (by omega)).trans (rfl)))))))))))))))))
  rw [e76] at o75 ⊢
  refine z_inv3 hM dX6_copyLane_17 vl_RX6_173 rfl rfl rfl (Nat.le_of_ble_eq_true rfl) (Nat.le_of_ble_eq_true rfl) ?_
  refine y_set (by omega) (by omega) ⟨fun h => by omega, fun h => by omega⟩ ?_
  obtain ⟨ρ77, e_ρ77⟩ : ∃ zz_, zz_ = mu ρ73 31 0 ((22 * m) + 19) (V 11 l 5) := ⟨_, rfl⟩
  rw [← e_ρ77]
  have Sρ77 : SB t σ0 (mu (mu (mu (mu (mu (mu (mu (mu (mu (mu (mu (mu (mu (mu (mu (mu (mu V 7 m 1 (V 7 l 1)) 7 m 2 (V 7 l 2)) 7 m 3 (V 7 l 3)) 7 m 4 (V 7 l 4)) 7 m 5 (V 7 l 5)) 7 m 6 (V 7 l 6)) 7 m 10 (V 7 l 10)) 7 m 12 (V 7 l 12)) 7 m 13 (V 7 l 13)) 7 m 14 (V 7 l 14)) 7 m 15 (V 7 l 15)) 11 m 0 (V 11 l 0)) 11 m 1 (V 11 l 1)) 11 m 2 (V 11 l 2)) 11 m 3 (V 11 l 3)) 11 m 4 (V 11 l 4)) 11 m 5 (V 11 l 5)) ρ77 := by rw [e_ρ77, show ((22 * m) + 19) = 22 * m + 19 from by omega]; exact Sρ73.p11 (by omega) (by omega) (by omega)
  have r16a_ρ77 : ρ77 31 0 (22 * l + 16) = (if V 11 l 3 = 0 then (0 : Int) else 1) := by rw [e_ρ77]; exact (mu_ne (by omega)).trans r16a_ρ73
  have r17b_ρ77 : ρ77 31 0 (22 * l + 17) = 0 := by rw [e_ρ77]; exact (mu_ne (by omega)).trans r17b_ρ73
  have r16c_ρ77 : ρ77 31 0 (22 * m + 16) = (if V 11 l 3 = 0 then (0 : Int) else 1) := by rw [e_ρ77]; exact (mu_ne (by omega)).trans r16c_ρ73
  have r17d_ρ77 : ρ77 31 0 (22 * m + 17) = 0 := by rw [e_ρ77]; exact (mu_ne (by omega)).trans r17d_ρ73
  have Yρ77 : FX m (mu (mu (mu (mu (mu (mu (mu (mu (mu (mu (mu (mu (mu (mu (mu (mu (mu V 7 m 1 (V 7 l 1)) 7 m 2 (V 7 l 2)) 7 m 3 (V 7 l 3)) 7 m 4 (V 7 l 4)) 7 m 5 (V 7 l 5)) 7 m 6 (V 7 l 6)) 7 m 10 (V 7 l 10)) 7 m 12 (V 7 l 12)) 7 m 13 (V 7 l 13)) 7 m 14 (V 7 l 14)) 7 m 15 (V 7 l 15)) 11 m 0 (V 11 l 0)) 11 m 1 (V 11 l 1)) 11 m 2 (V 11 l 2)) 11 m 3 (V 11 l 3)) 11 m 4 (V 11 l 4)) 11 m 5 (V 11 l 5)) ρ77 := (Yρ73).e (fun m a b c => by rw [e_ρ77]; exact mu_ne (by omega)) (fun m y c => mu_ne (by omega))
  have Xρ77 : KX t m (mu (mu (mu (mu (mu (mu (mu (mu (mu (mu (mu (mu (mu (mu (mu (mu (mu V 7 m 1 (V 7 l 1)) 7 m 2 (V 7 l 2)) 7 m 3 (V 7 l 3)) 7 m 4 (V 7 l 4)) 7 m 5 (V 7 l 5)) 7 m 6 (V 7 l 6)) 7 m 10 (V 7 l 10)) 7 m 12 (V 7 l 12)) 7 m 13 (V 7 l 13)) 7 m 14 (V 7 l 14)) 7 m 15 (V 7 l 15)) 11 m 0 (V 11 l 0)) 11 m 1 (V 11 l 1)) 11 m 2 (V 11 l 2)) 11 m 3 (V 11 l 3)) 11 m 4 (V 11 l 4)) 11 m 5 (V 11 l 5)) ρ77 := (Xρ73).e (fun m a b c => by rw [e_ρ77]; exact ⟨mu_ne (by omega), mu_ne (by omega)⟩) (fun m c => mu_ne (by omega))
  refine r_iincE hC (20) dX6_copyLane_20 rfl rfl (by omega) (by unfold inR; omega) ?_
  show K _ [_, _, _, _] _ _
  refine r_goto (tgt := 2) hC dX6_copyLane_23 rfl ?_
  refine r_iload_n hC dX6_copyLane_2 rfl ?_
  refine r_bipush hC dX6_copyLane_3 rfl ?_
  refine r_icmp_ge (tgt := 26) hC dX6_copyLane_5 rfl (fun h78 => by omega) (fun h78 => ?_)
  refine r_aload_n hC dX6_copyLane_8 rfl ?_
  refine r_iload_n hC dX6_copyLane_9 rfl ?_
  refine r_iload_n hC dX6_copyLane_10 rfl ?_
  refine r_aload_n hC dX6_copyLane_11 rfl ?_
  refine r_iload_n hC dX6_copyLane_12 rfl ?_
  refine r_iload_n hC dX6_copyLane_13 rfl ?_
  refine z_inv2 hM dX6_copyLane_14 vl_RX6_80 rfl rfl rfl (Nat.le_of_ble_eq_true rfl) (Nat.le_of_ble_eq_true rfl) ?_
  refine y_of (by omega) (by omega) (by omega) (fun o79 => ?_)
  have e80 : ρ77 31 0 (22 * l + 20) = (V 11 l 6) := (Sρ77.a11 (s := 6) (f := 20) (by omega) (by omega) (by omega)).trans ((mu_ne (by omega)).trans ((mu_ne (by omega)).trans ((mu_ne (by omega)).trans ((mu_ne (by omega)).trans ((mu_ne (by omega)).trans ((mu_ne (by omega)).trans ((mu_ne (by omega)).trans ((mu_ne (by omega)).trans ((mu_ne (by omega)).trans ((mu_ne (by omega)).trans ((mu_ne (by omega)).trans ((mu_ne (by omega)).trans ((mu_ne (by omega)).trans ((mu_ne (by omega)).trans ((mu_ne (by omega)).trans ((mu_ne (by omega)).trans ((mu_ne (by omega)).trans (rfl))))))))))))))))))
  rw [e80] at o79 ⊢
  refine z_inv3 hM dX6_copyLane_17 vl_RX6_173 rfl rfl rfl (Nat.le_of_ble_eq_true rfl) (Nat.le_of_ble_eq_true rfl) ?_
  refine y_set (by omega) (by omega) ⟨fun h => by omega, fun h => by omega⟩ ?_
  obtain ⟨ρ81, e_ρ81⟩ : ∃ zz_, zz_ = mu ρ77 31 0 ((22 * m) + 20) (V 11 l 6) := ⟨_, rfl⟩
  rw [← e_ρ81]
  have Sρ81 : SB t σ0 (mu (mu (mu (mu (mu (mu (mu (mu (mu (mu (mu (mu (mu (mu (mu (mu (mu (mu V 7 m 1 (V 7 l 1)) 7 m 2 (V 7 l 2)) 7 m 3 (V 7 l 3)) 7 m 4 (V 7 l 4)) 7 m 5 (V 7 l 5)) 7 m 6 (V 7 l 6)) 7 m 10 (V 7 l 10)) 7 m 12 (V 7 l 12)) 7 m 13 (V 7 l 13)) 7 m 14 (V 7 l 14)) 7 m 15 (V 7 l 15)) 11 m 0 (V 11 l 0)) 11 m 1 (V 11 l 1)) 11 m 2 (V 11 l 2)) 11 m 3 (V 11 l 3)) 11 m 4 (V 11 l 4)) 11 m 5 (V 11 l 5)) 11 m 6 (V 11 l 6)) ρ81 := by rw [e_ρ81, show ((22 * m) + 20) = 22 * m + 20 from by omega]; exact Sρ77.p11 (by omega) (by omega) (by omega)
  have r16a_ρ81 : ρ81 31 0 (22 * l + 16) = (if V 11 l 3 = 0 then (0 : Int) else 1) := by rw [e_ρ81]; exact (mu_ne (by omega)).trans r16a_ρ77
  have r17b_ρ81 : ρ81 31 0 (22 * l + 17) = 0 := by rw [e_ρ81]; exact (mu_ne (by omega)).trans r17b_ρ77
  have r16c_ρ81 : ρ81 31 0 (22 * m + 16) = (if V 11 l 3 = 0 then (0 : Int) else 1) := by rw [e_ρ81]; exact (mu_ne (by omega)).trans r16c_ρ77
  have r17d_ρ81 : ρ81 31 0 (22 * m + 17) = 0 := by rw [e_ρ81]; exact (mu_ne (by omega)).trans r17d_ρ77
  have Yρ81 : FX m (mu (mu (mu (mu (mu (mu (mu (mu (mu (mu (mu (mu (mu (mu (mu (mu (mu (mu V 7 m 1 (V 7 l 1)) 7 m 2 (V 7 l 2)) 7 m 3 (V 7 l 3)) 7 m 4 (V 7 l 4)) 7 m 5 (V 7 l 5)) 7 m 6 (V 7 l 6)) 7 m 10 (V 7 l 10)) 7 m 12 (V 7 l 12)) 7 m 13 (V 7 l 13)) 7 m 14 (V 7 l 14)) 7 m 15 (V 7 l 15)) 11 m 0 (V 11 l 0)) 11 m 1 (V 11 l 1)) 11 m 2 (V 11 l 2)) 11 m 3 (V 11 l 3)) 11 m 4 (V 11 l 4)) 11 m 5 (V 11 l 5)) 11 m 6 (V 11 l 6)) ρ81 := (Yρ77).e (fun m a b c => by rw [e_ρ81]; exact mu_ne (by omega)) (fun m y c => mu_ne (by omega))
  have Xρ81 : KX t m (mu (mu (mu (mu (mu (mu (mu (mu (mu (mu (mu (mu (mu (mu (mu (mu (mu (mu V 7 m 1 (V 7 l 1)) 7 m 2 (V 7 l 2)) 7 m 3 (V 7 l 3)) 7 m 4 (V 7 l 4)) 7 m 5 (V 7 l 5)) 7 m 6 (V 7 l 6)) 7 m 10 (V 7 l 10)) 7 m 12 (V 7 l 12)) 7 m 13 (V 7 l 13)) 7 m 14 (V 7 l 14)) 7 m 15 (V 7 l 15)) 11 m 0 (V 11 l 0)) 11 m 1 (V 11 l 1)) 11 m 2 (V 11 l 2)) 11 m 3 (V 11 l 3)) 11 m 4 (V 11 l 4)) 11 m 5 (V 11 l 5)) 11 m 6 (V 11 l 6)) ρ81 := (Xρ77).e (fun m a b c => by rw [e_ρ81]; exact ⟨mu_ne (by omega), mu_ne (by omega)⟩) (fun m c => mu_ne (by omega))
  refine r_iincE hC (21) dX6_copyLane_20 rfl rfl (by omega) (by unfold inR; omega) ?_
  refine r_goto (tgt := 2) hC dX6_copyLane_23 rfl ?_
  refine r_iload_n hC dX6_copyLane_2 rfl ?_
  refine r_bipush hC dX6_copyLane_3 rfl ?_
  refine r_icmp_ge (tgt := 26) hC dX6_copyLane_5 rfl (fun h82 => by omega) (fun h82 => ?_)
  refine r_aload_n hC dX6_copyLane_8 rfl ?_
  refine r_iload_n hC dX6_copyLane_9 rfl ?_
  refine r_iload_n hC dX6_copyLane_10 rfl ?_
  refine r_aload_n hC dX6_copyLane_11 rfl ?_
  refine r_iload_n hC dX6_copyLane_12 rfl ?_
  refine r_iload_n hC dX6_copyLane_13 rfl ?_
  refine z_inv2 hM dX6_copyLane_14 vl_RX6_80 rfl rfl rfl (Nat.le_of_ble_eq_true rfl) (Nat.le_of_ble_eq_true rfl) ?_
  refine y_ofU (by omega) (by omega) (fun vu__ => ?_)
  refine z_inv3 hM dX6_copyLane_17 vl_RX6_173 rfl rfl rfl (Nat.le_of_ble_eq_true rfl) (Nat.le_of_ble_eq_true rfl) ?_
  refine y_set (by omega) (by omega) ⟨fun h => by omega, fun h => by omega⟩ ?_
  obtain ⟨ρ83, e_ρ83⟩ : ∃ zz_, zz_ = mu ρ81 31 0 ((22 * m) + 21) vu__ := ⟨_, rfl⟩
  rw [← e_ρ83]
  have Sρ83 : SB t σ0 (mu (mu (mu (mu (mu (mu (mu (mu (mu (mu (mu (mu (mu (mu (mu (mu (mu (mu V 7 m 1 (V 7 l 1)) 7 m 2 (V 7 l 2)) 7 m 3 (V 7 l 3)) 7 m 4 (V 7 l 4)) 7 m 5 (V 7 l 5)) 7 m 6 (V 7 l 6)) 7 m 10 (V 7 l 10)) 7 m 12 (V 7 l 12)) 7 m 13 (V 7 l 13)) 7 m 14 (V 7 l 14)) 7 m 15 (V 7 l 15)) 11 m 0 (V 11 l 0)) 11 m 1 (V 11 l 1)) 11 m 2 (V 11 l 2)) 11 m 3 (V 11 l 3)) 11 m 4 (V 11 l 4)) 11 m 5 (V 11 l 5)) 11 m 6 (V 11 l 6)) ρ83 := by rw [e_ρ83, show ((22 * m) + 21) = 22 * m + 21 from by omega]; exact Sρ81.px (by omega)
  have r16a_ρ83 : ρ83 31 0 (22 * l + 16) = (if V 11 l 3 = 0 then (0 : Int) else 1) := by rw [e_ρ83]; exact (mu_ne (by omega)).trans r16a_ρ81
  have r17b_ρ83 : ρ83 31 0 (22 * l + 17) = 0 := by rw [e_ρ83]; exact (mu_ne (by omega)).trans r17b_ρ81
  have r16c_ρ83 : ρ83 31 0 (22 * m + 16) = (if V 11 l 3 = 0 then (0 : Int) else 1) := by rw [e_ρ83]; exact (mu_ne (by omega)).trans r16c_ρ81
  have r17d_ρ83 : ρ83 31 0 (22 * m + 17) = 0 := by rw [e_ρ83]; exact (mu_ne (by omega)).trans r17d_ρ81
  have r21_ρ83 : ρ83 31 0 (22 * m + 21) = vu__ := by rw [e_ρ83, show ((22 * m) + 21) = 22 * m + 21 from by omega]; exact mu_self _ _ _ _ _
  have Yρ83 : FX m (mu (mu (mu (mu (mu (mu (mu (mu (mu (mu (mu (mu (mu (mu (mu (mu (mu (mu V 7 m 1 (V 7 l 1)) 7 m 2 (V 7 l 2)) 7 m 3 (V 7 l 3)) 7 m 4 (V 7 l 4)) 7 m 5 (V 7 l 5)) 7 m 6 (V 7 l 6)) 7 m 10 (V 7 l 10)) 7 m 12 (V 7 l 12)) 7 m 13 (V 7 l 13)) 7 m 14 (V 7 l 14)) 7 m 15 (V 7 l 15)) 11 m 0 (V 11 l 0)) 11 m 1 (V 11 l 1)) 11 m 2 (V 11 l 2)) 11 m 3 (V 11 l 3)) 11 m 4 (V 11 l 4)) 11 m 5 (V 11 l 5)) 11 m 6 (V 11 l 6)) ρ83 := (Yρ81).e (fun m a b c => by rw [e_ρ83]; exact mu_ne (by omega)) (fun m y c => rfl)
  have Xρ83 : KX t m (mu (mu (mu (mu (mu (mu (mu (mu (mu (mu (mu (mu (mu (mu (mu (mu (mu (mu V 7 m 1 (V 7 l 1)) 7 m 2 (V 7 l 2)) 7 m 3 (V 7 l 3)) 7 m 4 (V 7 l 4)) 7 m 5 (V 7 l 5)) 7 m 6 (V 7 l 6)) 7 m 10 (V 7 l 10)) 7 m 12 (V 7 l 12)) 7 m 13 (V 7 l 13)) 7 m 14 (V 7 l 14)) 7 m 15 (V 7 l 15)) 11 m 0 (V 11 l 0)) 11 m 1 (V 11 l 1)) 11 m 2 (V 11 l 2)) 11 m 3 (V 11 l 3)) 11 m 4 (V 11 l 4)) 11 m 5 (V 11 l 5)) 11 m 6 (V 11 l 6)) ρ83 := (Xρ81).e (fun m a b c => by rw [e_ρ83]; exact ⟨mu_ne (by omega), mu_ne (by omega)⟩) (fun m c => rfl)
  refine r_iincE hC (22) dX6_copyLane_20 rfl rfl (by omega) (by unfold inR; omega) ?_
  refine r_goto (tgt := 2) hC dX6_copyLane_23 rfl ?_
  refine r_iload_n hC dX6_copyLane_2 rfl ?_
  refine r_bipush hC dX6_copyLane_3 rfl ?_
  refine r_icmp_ge (tgt := 26) hC dX6_copyLane_5 rfl (fun h84 => ?_) (fun h84 => by omega)
  have hV : (mu (mu (mu (mu (mu (mu (mu (mu (mu (mu (mu (mu (mu (mu (mu (mu (mu (mu V 7 m 1 (V 7 l 1)) 7 m 2 (V 7 l 2)) 7 m 3 (V 7 l 3)) 7 m 4 (V 7 l 4)) 7 m 5 (V 7 l 5)) 7 m 6 (V 7 l 6)) 7 m 10 (V 7 l 10)) 7 m 12 (V 7 l 12)) 7 m 13 (V 7 l 13)) 7 m 14 (V 7 l 14)) 7 m 15 (V 7 l 15)) 11 m 0 (V 11 l 0)) 11 m 1 (V 11 l 1)) 11 m 2 (V 11 l 2)) 11 m 3 (V 11 l 3)) 11 m 4 (V 11 l 4)) 11 m 5 (V 11 l 5)) 11 m 6 (V 11 l 6)) = cpA V l m := cpA_eq.symm
  have qS := Sρ83
  have qX := Xρ83
  have qY := Yρ83
  rw [hV] at qS qX qY
  have zS : SB t σ0 (mu (cpA V l m) 7 m 0 vu__) ρ83 := qS.v0
  have zK : KF t (mu (cpA V l m) 7 m 0 vu__) ρ83 := (qX.kf (r16c_ρ83.trans (by rw [cpA_11 (by omega)])) r17d_ρ83).v (fun l => mu_ne (by omega))
  have zF : FB (mu (cpA V l m) 7 m 0 vu__) ρ83 := qY.fb r21_ρ83
  refine r_iconst hC dX6_copyLane_26 rfl ?_
  refine r_istore_n hC dX6_copyLane_27 rfl ?_
  have L28 : ∀ (n28 : Nat) (w85 : Int) (ρ86 W86 : Mm), 0 ≤ w85 ∧ w85 ≤ 121 → ((w85) ≤ V 7 l 6) → 121 - w85 < (n28 : Int) → (RS t σ0 W86 ρ86) → (W86 = cpB (mu (cpA V l m) 7 m 0 vu__) l m (w85)) → K 28 [some (vR 30 0), some (vI l), some (vI m), some (vI w85)] [] ρ86 := by
    intro n28
    induction n28 with
    | zero => intro w85 ρ86 W86 f_w85 i0_28 hm  m0_28 m1_28; omega
    | succ n28 ih28 =>
      intro w85 ρ86 W86 f_w85 i0_28 hm28  m0_28 m1_28
      have e6 : W86 7 l 6 = V 7 l 6 := by rw [m1_28, cpB_7, mu_ne (by omega), cpA_ne (by omega)]
      refine r_iload_n hC dX6_copyLane_28 rfl ?_
      refine r_aload_n hC dX6_copyLane_29 rfl ?_
      refine r_iload_n hC dX6_copyLane_30 rfl ?_
      refine z_inv1 hM dX6_copyLane_31 vl_RX6_116 rfl rfl rfl (Nat.le_of_ble_eq_true rfl) (Nat.le_of_ble_eq_true rfl) ?_
      refine y_heldOf (by omega) (fun o87 => ?_)
      have e88 : ρ86 31 0 (22 * l + 5) = (W86 7 l 6) := (m0_28.1.a7 (s := 6) (f := 5) (by omega) (by omega) (by omega)).trans (rfl)
      rw [e88] at o87 ⊢
      have qo87 : 0 ≤ (W86 7 l 6) ∧ (W86 7 l 6) ≤ 121 := o87.1 (by omega)
      refine r_icmp_ge (tgt := 59) hC dX6_copyLane_34 rfl (fun h89 => ?_) (fun h89 => ?_)
      · refine y_vret hK rfl dX6_copyLane_59 ?_
        have q := m0_28
        rw [m1_28, show w85 = V 7 l 6 from by omega, cpM_fin (by omega)] at q
        exact k _ _ q
      · refine r_aload_n hC dX6_copyLane_37 rfl ?_
        refine r_bipush hC dX6_copyLane_38 rfl ?_
        refine r_iload_n hC dX6_copyLane_40 rfl ?_
        refine r_imulE hC ((121 * l)) dX6_copyLane_41 (by omega) (by unfold inR; omega) ?_
        refine r_iload_n hC dX6_copyLane_42 rfl ?_
        refine r_iaddE hC (((121 * l) + w85)) dX6_copyLane_43 (by omega) (by unfold inR; omega) ?_
        refine r_bipush hC dX6_copyLane_44 rfl ?_
        refine r_iload_n hC dX6_copyLane_46 rfl ?_
        refine r_imulE hC ((121 * m)) dX6_copyLane_47 (by omega) (by unfold inR; omega) ?_
        refine r_iload_n hC dX6_copyLane_48 rfl ?_
        refine r_iaddE hC (((121 * m) + w85)) dX6_copyLane_49 (by omega) (by unfold inR; omega) ?_
        refine z_inv2 hM dX6_copyLane_50 vl_RX6_213 rfl rfl rfl (Nat.le_of_ble_eq_true rfl) (Nat.le_of_ble_eq_true rfl) ?_
        refine y_copyEvent (V := W86) (l := l) (a := w85) (m := m) (b := w85) (by omega) (by omega) ht ⟨m0_28.1, m0_28.2.1, m0_28.2.2⟩ (by omega) (by omega) (by omega) (by omega) (by omega) (by omega) (fun ρ90 Rρ90 => ?_)
        refine r_iincE hC ((w85 + 1)) dX6_copyLane_53 rfl rfl (by omega) (by unfold inR; omega) ?_
        refine r_goto (tgt := 28) hC dX6_copyLane_56 rfl ?_
        exact ih28 ((w85 + 1)) ρ90 (ceM W86 l w85 m w85) (by omega) (by omega) (by omega)  (⟨Rρ90.1, Rρ90.2.1, Rρ90.2.2⟩) (by rw [m1_28]; exact cpB_s (by omega) (by omega))
  exact L28 123 (0) ρ83 (mu (cpA V l m) 7 m 0 vu__) (by omega) (by omega) (by omega)  (⟨zS, zK, zF⟩) (cpB_0.symm)
/-- what is known of a LANE that is copied to be tried -/
theorem cp7 {V U ρ W : Mm} {l n : Int} (hU : U = up7 V ρ) (hW : W = mu (cpM U l 7) 7 7 0 n) (hl : 0 ≤ l ∧ l ≤ 3) : (∀ y : Int, (1 ≤ y ∧ y ≤ 6) ∨ y = 10 ∨ (12 ≤ y ∧ y ≤ 15) → W 7 7 y = V 7 l y) ∧ (∀ (c : Nat) (y : Int), c = 8 ∨ c = 9 ∨ c = 10 → 0 ≤ y → y < V 7 l 6 → W c 7 y = V c l y) ∧ (∀ y : Int, 0 ≤ y → y ≤ 6 → W 11 7 y = V 11 l y) ∧ (∀ (c : Nat) (x y : Int), ¬ (x = 7 ∧ (c = 7 ∨ c = 8 ∨ c = 9 ∨ c = 10 ∨ c = 11)) → W c x y = V c x y) ∧ ∀ y : Int, ¬ (0 ≤ y ∧ y < V 7 l 6) → W 9 7 y = ρ 33 0 (847 + y) := by
  have e : ∀ (c : Nat) (y : Int), U c l y = V c l y := fun c y => by rw [hU]; exact up7_ne (by omega)
  have e6 : U 7 l 6 = V 7 l 6 := e 7 6
  subst hW
  refine ⟨fun y hy => ?_, fun c y hc a b => ?_, fun y a b => ?_, fun c x y h => ?_, fun y h => ?_⟩
  · rw [mu_ne (by omega)]
    unfold cpM
    rw [if_pos rfl, if_pos rfl, if_pos (by unfold cpS; omega)]
    exact e 7 y
  · rw [mu_ne (by omega)]
    unfold cpM
    rw [if_pos rfl, if_neg (by omega), if_pos hc, if_pos (by omega)]
    exact e c y
  · rw [mu_ne (by omega)]
    unfold cpM
    rw [if_pos rfl, if_neg (by decide), if_neg (by decide), if_pos rfl, if_pos ⟨a, b⟩]
    exact e 11 y
  · rw [mu_ne (by omega)]
    unfold cpM
    by_cases hx : x = 7
    · rw [if_pos hx, if_neg (by omega), if_neg (by omega), if_neg (by omega), hU]
      exact up7_ne h
    · rw [if_neg hx, hU]
      exact up7_ne h
  · rw [mu_ne (by omega)]
    unfold cpM
    rw [if_pos rfl, if_neg (by decide), if_pos (by decide), if_neg (by omega), hU]
    unfold up7
    rw [if_pos rfl, if_neg (by decide), if_neg (by decide), if_neg (by decide), if_pos rfl]
theorem LK7 {V U ρ W : Mm} {l n : Int} (hG : GI V) (hU : U = up7 V ρ) (hW : W = mu (cpM U l 7) 7 7 0 n) (hl : 0 ≤ l ∧ l ≤ 3) (hb : ∀ j : Int, 0 ≤ j → j ≤ 120 → -1000 ≤ ρ 33 0 (847 + j) ∧ ρ 33 0 (847 + j) ≤ 1000) : LK W 7 ∧ FI (W 11 7) (W 7 7 6) ∧ So (W 8 7) (W 7 7 6) ∧ (0 ≤ W 7 7 6 ∧ W 7 7 6 ≤ 120) ∧ (W 7 7 3 = 1 → 0 ≤ W 7 7 4) := by
  obtain ⟨c1, c2, c3, c4, c5⟩ := cp7 hU hW hl
  have h6 := hG.1.h7 (l := l) (by omega) (by omega)
  have hk := hG.2.1.lk hG.1 (l := l) (by omega) (by omega)
  have e6 := c1 6 (by omega)
  refine ⟨⟨?_, ?_, fun j a b => ?_, fun j a b => ?_, fun w a b c => ?_, fun w a b => ?_⟩, ?_, ?_, ?_, ?_⟩
  · rw [c1 2 (by omega)]; exact hk.1
  · rw [e6]; omega
  · by_cases z : j < V 7 l 6
    · rw [c2 9 j (by omega) a z]; exact hk.2.2.1 j a b
    · rw [c5 j (by omega)]; exact hb j a b
  · rw [c4 15 0 j (by omega)]; exact hk.2.2.2.1 j a b
  · rw [c4 12 w 0 (by omega)] at c
    have := (hG.2.1.2.2.2.2.2.2.1 w a b).1
    unfold opV at this
    omega
  · rw [c4 12 w 3 (by omega)]; exact hk.2.2.2.2.2 w a b
  · rw [e6]; exact FI_c (hG.1.2.1 l hl.1 (by omega)) (fun y a b => c3 y a (by omega))
  · rw [e6]; exact fun j a b => by rw [c2 8 j (by omega) a (by omega), c2 8 (j + 1) (by omega) (by omega) b]; exact hG.2.1.1 l hl.1 (by omega) j a b
  · rw [e6]; exact h6
  · rw [c1 3 (by omega), c1 4 (by omega)]; intro q; have := hG.1.size (i := l) hl.1 (by omega) q; omega
theorem rg7 {W : Mm} (h : ∀ w : Int, 0 ≤ w → w ≤ 7 → W 12 w 0 ≠ 7) : rgM W 7 = W := rgM_id (fun w a b => h w a (by omega))
abbrev wrC (V : Mm) (l z v w : Int) : Prop := lwC V l w ∧ (0 ≤ z ∧ z ≤ 100000) ∧ (-1000 ≤ v ∧ v ≤ 1000) ∧ ¬ (0 ≤ V 7 l 10 ∧ z < wr (V 7 l 10 - V 7 l 5)) ∧ ¬ (V 7 l 3 ≠ 1 ∧ V 7 l 6 = 120)
/-- what the reference answers: it tries -/
def wrY (V : Mm) (l z v w r : Int) : Prop := (¬ wrC V l z v w → r = -2147483648) ∧ (wrC V l z v w → ∃ U ρ W : Mm, ∃ n : Int, U = up7 V ρ ∧ W = mu (cpM U l 7) 7 7 0 n ∧ r = ptV (plM W 7 z v) 7 0 (plM W 7 z v 7 7 6) w)
theorem rg7d {W : Mm} {i : Int} (h : ∀ w : Int, 0 ≤ w → w ≤ 7 → W 12 w 0 ≠ i) : rgM W i = W := rgM_id (fun w a b => h w a (by omega))
theorem dp_12 {W : Mm} {i : Int} (h : ∀ w : Int, 0 ≤ w → w ≤ 7 → W 12 w 0 ≠ i) (x y : Int) : dpM W i 12 x y = W 12 x y := by
  have e : ∀ a b : Int, dfM (mu (remM W i 0) 7 i 13 (wr (W 7 i 13 + 1))) i 12 a b = W 12 a b := fun a b => by rw [dfM_ne (by omega), mu_ne (by omega), remM_ne (by omega)]
  unfold dpM
  rw [rg7d (fun w a b => by rw [e]; exact h w a b)]
  exact e x y
theorem drps_12 {i : Int} : ∀ (n : Nat) {W : Mm}, (∀ w : Int, 0 ≤ w → w ≤ 7 → W 12 w 0 ≠ i) → ∀ x y : Int, drps i n W 12 x y = W 12 x y
  | 0, _, _, _, _ => rfl
  | n + 1, W, h, x, y => by
    show (if goV W i then drps i n (dpM W i) else W) 12 x y = W 12 x y
    split
    · rw [drps_12 n (fun w a b => by rw [dp_12 h]; exact h w a b), dp_12 h]
    · rfl
theorem pl_12 {W : Mm} {i t v : Int} (h : ∀ w : Int, 0 ≤ w → w ≤ 7 → W 12 w 0 ≠ i) (x y : Int) : plM W i t v 12 x y = W 12 x y := by
  have e : ∀ a b : Int, enM W i t v 12 a b = W 12 a b := fun a b => by
    unfold enM
    have q : ∀ a b : Int, (if hU W i t = W 7 i 6 then adM (insM W i (hU W i t) t v) i else lyM (insM W i (hU W i t) t v) i (W 7 i 6 + 1)) 12 a b = W 12 a b := fun a b => by
      split
      · rw [adM_ne (by omega), insM_ne (by omega)]
      · rw [lyM_ne (by omega), insM_ne (by omega)]
    rw [rg7d (fun w a b => by rw [q]; exact h w a b)]
    exact q a b
  unfold plM
  rw [drps_12 _ (fun w a b => by rw [e]; exact h w a b)]
  exact e x y
theorem plM_nx7 {V W : Mm} {t v : Int} {c : Nat} {x y : Int} (_ : True) (hc : c < 30) (hn : ¬ (x = 7 ∧ (c = 7 ∨ c = 8 ∨ c = 9 ∨ c = 10 ∨ c = 11))) (hW : ∀ (c : Nat) (x y : Int), ¬ (x = 7 ∧ (c = 7 ∨ c = 8 ∨ c = 9 ∨ c = 10 ∨ c = 11)) → W c x y = V c x y) (h : ∀ w : Int, 0 ≤ w → w ≤ 7 → W 12 w 0 ≠ 7) : plM W 7 t v c x y = V c x y := by
  by_cases e : c = 12
  · subst e
    rw [pl_12 h]
    exact hW _ _ _ hn
  · rw [plM_nx (by unfold PS; omega)]
    exact hW _ _ _ hn
theorem y_were {eb : Bool} {V : Mm} {d : Nat} {P : Option Vl → Mm → Prop} {σ : Mm} {l z v w : Int}  {σ0 : Mm} (ht : (6 : Int) ≤ 6 ∧ (6 : Int) ≤ 7) (hR : RS 6 σ0 V σ) (hG : GI V)  (k : ∀ (r : Int) (ρ : Mm), wrY V l z v w r → RS 6 σ0 V ρ → P (some (vI r)) ρ) : WT (true, eb, true) (d + 10) 241 [vR 30 0, vI l, vI z, vI v, vI w] σ P := by
  refine WT_in fun K hK => ?_
  have hK : StpY (true, eb, true) cX6_were RX6 (some .int) (WT (true, eb, true) (d + 9)) P K := hK
  have hM := hK.1
  have hC := hK.1.1
  show K 0 [some (vR 30 0), some (vI l), some (vI z), some (vI v), some (vI w), none] [] σ
  refine z_ok hM (fun hok => ?_)
  refine r_rngz hC (fun g0 => ?_)
  have r_l : -2147483648 ≤ l ∧ l ≤ 2147483647 := inR_le (g0 (vI l) (by simp))
  have r_z : -2147483648 ≤ z ∧ z ≤ 2147483647 := inR_le (g0 (vI z) (by simp))
  have r_v : -2147483648 ≤ v ∧ v ≤ 2147483647 := inR_le (g0 (vI v) (by simp))
  have r_w : -2147483648 ≤ w ∧ w ≤ 2147483647 := inR_le (g0 (vI w) (by simp))
  refine r_aload_n hC dX6_were_0 rfl ?_
  refine r_iload_n hC dX6_were_1 rfl ?_
  refine r_iload hC dX6_were_2 rfl ?_
  refine z_inv2 hM dX6_were_4 vl_RX6_207 rfl rfl rfl (Nat.le_of_ble_eq_true rfl) (Nat.le_of_ble_eq_true rfl) ?_
  refine y_isNumber (V := V) ht ⟨hR.1, hR.2.1, hR.2.2⟩ (fun l a b => (hG.2.1.2.2.2.1 l a b).2) (fun h1 => ?_) (fun h1 => ?_)
  · unfold lwC opV at h1
    have n_h1 := numF_rng (V 7 l 2)
    refine r_if_eq (tgt := 50) hC dX6_were_7 rfl (fun h2 => by omega) (fun h2 => ?_)
    refine r_iload_n hC dX6_were_10 rfl ?_
    refine r_iconst hC dX6_were_11 rfl ?_
    refine r_ldc hC dX6_were_12 co_RX6_239 rfl ?_
    refine z_ins3 hM dX6_were_14 tl_RX6_76 rfl (Nat.le_of_ble_eq_true rfl) (Nat.le_of_ble_eq_true rfl) ?_
    refine m_isIn (fun h4 => ?_) (fun h4 => ?_)
    · refine r_if_eq (tgt := 50) hC dX6_were_17 rfl (fun h5 => by omega) (fun h5 => ?_)
      refine r_iload_n hC dX6_were_20 rfl ?_
      refine r_sipush hC dX6_were_21 rfl ?_
      refine r_sipush hC dX6_were_24 rfl ?_
      refine z_ins3 hM dX6_were_27 tl_RX6_76 rfl (Nat.le_of_ble_eq_true rfl) (Nat.le_of_ble_eq_true rfl) ?_
      refine m_isIn (fun h7 => ?_) (fun h7 => ?_)
      · refine r_if_eq (tgt := 50) hC dX6_were_30 rfl (fun h8 => by omega) (fun h8 => ?_)
        refine r_aload_n hC dX6_were_33 rfl ?_
        refine r_iload_n hC dX6_were_34 rfl ?_
        refine r_iload_n hC dX6_were_35 rfl ?_
        refine z_inv2 hM dX6_were_36 vl_RX6_247 rfl rfl rfl (Nat.le_of_ble_eq_true rfl) (Nat.le_of_ble_eq_true rfl) ?_
        refine y_isLost (V := V) (by omega) ht ⟨hR.1, hR.2.1, hR.2.2⟩ (by omega) (fun h9 => ?_) (fun h9 => ?_)
        · refine r_if_ne (tgt := 50) hC dX6_were_39 rfl (fun h10 => ?_) (fun h10 => by omega)
          refine r_ldc hC dX6_were_50 co_RX6_160 rfl ?_
          refine y_iret hK rfl dX6_were_52 ?_
          exact k _ _ ⟨fun _ => rfl, fun q => absurd q (by unfold wrC lwC opV; omega)⟩ ⟨hR.1, hR.2.1, hR.2.2⟩
        · refine r_if_ne (tgt := 50) hC dX6_were_39 rfl (fun h11 => by omega) (fun h11 => ?_)
          refine r_aload_n hC dX6_were_42 rfl ?_
          refine r_iload_n hC dX6_were_43 rfl ?_
          refine z_inv1 hM dX6_were_44 vl_RX6_250 rfl rfl rfl (Nat.le_of_ble_eq_true rfl) (Nat.le_of_ble_eq_true rfl) ?_
          refine y_isFull (V := V) (by omega) ht ⟨hR.1, hR.2.1, hR.2.2⟩ (by omega) (fun h12 => ?_) (fun h12 => ?_)
          · refine r_if_eq (tgt := 53) hC dX6_were_47 rfl (fun h13 => by omega) (fun h13 => ?_)
            refine r_ldc hC dX6_were_50 co_RX6_160 rfl ?_
            refine y_iret hK rfl dX6_were_52 ?_
            exact k _ _ ⟨fun _ => rfl, fun q => absurd q (by unfold wrC lwC opV; omega)⟩ ⟨hR.1, hR.2.1, hR.2.2⟩
          · refine r_if_eq (tgt := 53) hC dX6_were_47 rfl (fun h14 => ?_) (fun h14 => by omega)
            refine r_aload_n hC dX6_were_53 rfl ?_
            refine r_iload_n hC dX6_were_54 rfl ?_
            refine r_bipush hC dX6_were_55 rfl ?_
            refine z_inv2 hM dX6_were_57 vl_RX6_292 rfl rfl rfl (Nat.le_of_ble_eq_true rfl) (Nat.le_of_ble_eq_true rfl) ?_
            have hb7 : ∀ j : Int, 0 ≤ j → j ≤ 120 → -1000 ≤ σ 33 0 (847 + j) ∧ σ 33 0 (847 + j) ≤ 1000 := fun j a b => hok 33 0 (847 + j) (Or.inl trivial)
            obtain ⟨U, hU⟩ : ∃ U : Mm, U = up7 V σ := ⟨_, rfl⟩
            have uR := RS.up7 ⟨hR.1, hR.2.1, hR.2.2⟩
            rw [← hU] at uR
            refine y_copyLaneG (V := U) (l := l) (m := 7) (by omega) (by omega) ⟨by omega, by omega⟩ uR.1 uR.2.1 uR.2.2 (by omega) (by omega) (fun n7 ρc Rc => ?_)
            obtain ⟨W, hW⟩ : ∃ W : Mm, W = mu (cpM U l 7) 7 7 0 n7 := ⟨_, rfl⟩
            rw [← hW] at Rc
            have hcp := cp7 hU hW (by omega)
            have hlk7 := LK7 hG hU hW (by omega) hb7
            clear ht
            have ht : (6 : Int) ≤ 7 ∧ (7 : Int) ≤ 7 := by omega
            refine r_aload_n hC dX6_were_60 rfl ?_
            refine r_bipush hC dX6_were_61 rfl ?_
            refine r_iload_n hC dX6_were_63 rfl ?_
            refine r_iload_n hC dX6_were_64 rfl ?_
            refine z_inv3 hM dX6_were_65 vl_RX6_253 rfl rfl rfl (Nat.le_of_ble_eq_true rfl) (Nat.le_of_ble_eq_true rfl) ?_
            refine y_enter (V := W) (l := 7) (z := z) (v := v) (by omega) (by omega) (by omega) ht Rc (by omega) hlk7.1 hlk7.2.1 hlk7.2.2.1 (by omega) hlk7.2.2.2.2 (fun ρe Re => ?_)
            obtain ⟨X, hX7⟩ : ∃ X : Mm, X = plM W 7 z v := ⟨_, rfl⟩
            rw [← hX7] at Re
            have hlX : LK X 7 := by rw [hX7]; exact LK_pl hlk7.1 (by omega) (by omega) hlk7.2.2.2.2
            have h6X := hlX.2.1
            have hw2 : X 7 7 2 = V 7 l 2 := by rw [hX7, plM_nx (by unfold PS; omega)]; exact hcp.1 2 (by omega)
            refine r_aload_n hC dX6_were_68 rfl ?_
            refine r_bipush hC dX6_were_69 rfl ?_
            refine r_iconst hC dX6_were_71 rfl ?_
            refine r_aload_n hC dX6_were_72 rfl ?_
            refine r_bipush hC dX6_were_73 rfl ?_
            refine z_inv1 hM dX6_were_75 vl_RX6_116 rfl rfl rfl (Nat.le_of_ble_eq_true rfl) (Nat.le_of_ble_eq_true rfl) ?_
            refine y_heldOf (by omega) (fun o15 => ?_)
            have e16 : ρe 31 0 (22 * 7 + 5) = (X 7 7 6) := (Re.1.a7 (s := 6) (f := 5) (by omega) (by omega) (by omega)).trans (rfl)
            rw [e16] at o15 ⊢
            have qo15 : 0 ≤ (X 7 7 6) ∧ (X 7 7 6) ≤ 121 := o15.1 (by omega)
            refine r_iconst hC dX6_were_78 rfl ?_
            refine r_isubE hC (((X 7 7 6) - 1)) dX6_were_79 (by omega) (by unfold inR; omega) ?_
            refine r_iload hC dX6_were_80 rfl ?_
            refine z_inv4 hM dX6_were_82 vl_RX6_243 rfl rfl rfl (Nat.le_of_ble_eq_true rfl) (Nat.le_of_ble_eq_true rfl) ?_
            have n7_ := numF_rng (V 7 l 2)
            refine y_comesFrom (V := X) (by omega) (by omega) (by omega) (by omega) ht ⟨Re.1, Re.2.1, Re.2.2⟩ (by omega) hlX (by rw [hw2]; omega) (fun ρf Rf => ?_)
            have eP : cm (X 16 0) (X 15 0) (X 7 7 2) (fun j => X 9 7 (0 + j)) (X 7 7 6 - 1 + 1 - 0).toNat w = ptV X 7 0 (X 7 7 6) w := by unfold ptV; rw [show (X 7 7 6 - 1 + 1 - 0 : Int) = X 7 7 6 - 0 from by omega]
            rw [eP]
            refine r_istore hC dX6_were_85 rfl ?_
            refine r_aload_n hC dX6_were_87 rfl ?_
            refine r_bipush hC dX6_were_88 rfl ?_
            refine r_iconst hC dX6_were_90 rfl ?_
            refine r_iconst hC dX6_were_91 rfl ?_
            refine z_inv3 hM dX6_were_92 vl_RX6_173 rfl rfl rfl (Nat.le_of_ble_eq_true rfl) (Nat.le_of_ble_eq_true rfl) ?_
            refine y_set (by omega) (by omega) ⟨fun h => by omega, fun h => by omega⟩ ?_
            obtain ⟨ρ17, e_ρ17⟩ : ∃ zz_, zz_ = mu ρf 31 0 ((22 * 7) + 0) 0 := ⟨_, rfl⟩
            rw [← e_ρ17]
            have Sρ17 : SB 7 σ0 (mu X 7 7 1 0) ρ17 := by rw [e_ρ17, show (((22 * 7) + 0) : Int) = 22 * 7 + 0 from by omega]; exact Rf.1.p7 (by omega) (by omega) (by omega)
            have Kρ17 : KF 7 (mu X 7 7 1 0) ρ17 := by rw [e_ρ17]; exact (Rf.2.1).e (fun l a b => ⟨mu_ne (by omega), mu_ne (by omega)⟩) |>.v (fun l => mu_ne (by omega))
            have Fρ17 : FB (mu X 7 7 1 0) ρ17 := by rw [e_ρ17]; exact (Rf.2.2).e (fun l a b => mu_ne (by omega)) |>.v (fun l y a b c => mu_ne (by omega))
            refine r_iload hC dX6_were_95 rfl ?_
            refine y_iret hK rfl dX6_were_97 ?_
            have hA : wrY V l z v w (ptV X 7 0 (X 7 7 6) w) := ⟨fun q => absurd (by unfold wrC lwC opV; omega) q, fun _ => ⟨U, _, W, n7, hU, hW, by rw [← hX7]⟩⟩
            exact k _ _ hA (RS.dn7 ⟨Sρ17, Kρ17, Fρ17⟩ (fun c x y hc hn => (mu_ne (by omega)).trans (by rw [hX7]; exact (plM_nx7 trivial hc hn hcp.2.2.2.1 (fun w a b => by rw [hcp.2.2.2.1 12 w 0 (by omega)]; have := (hG.2.1.2.2.2.2.2.2.1 w a b).1; unfold opV at this; omega)))))
      · refine r_if_eq (tgt := 50) hC dX6_were_30 rfl (fun h18 => ?_) (fun h18 => by omega)
        refine r_ldc hC dX6_were_50 co_RX6_160 rfl ?_
        refine y_iret hK rfl dX6_were_52 ?_
        exact k _ _ ⟨fun _ => rfl, fun q => absurd q (by unfold wrC lwC opV; omega)⟩ ⟨hR.1, hR.2.1, hR.2.2⟩
    · refine r_if_eq (tgt := 50) hC dX6_were_17 rfl (fun h19 => ?_) (fun h19 => by omega)
      refine r_ldc hC dX6_were_50 co_RX6_160 rfl ?_
      refine y_iret hK rfl dX6_were_52 ?_
      exact k _ _ ⟨fun _ => rfl, fun q => absurd q (by unfold wrC lwC opV; omega)⟩ ⟨hR.1, hR.2.1, hR.2.2⟩
  · unfold lwC opV at h1
    have n_h1 := numF_rng (V 7 l 2)
    refine r_if_eq (tgt := 50) hC dX6_were_7 rfl (fun h20 => ?_) (fun h20 => by omega)
    refine r_ldc hC dX6_were_50 co_RX6_160 rfl ?_
    refine y_iret hK rfl dX6_were_52 ?_
    exact k _ _ ⟨fun _ => rfl, fun q => absurd q (by unfold wrC lwC opV; omega)⟩ ⟨hR.1, hR.2.1, hR.2.2⟩
theorem y_cost {eb : Bool} {V : Mm} {d : Nat} {P : Option Vl → Mm → Prop} {σ : Mm} {l m w : Int}  {σ0 : Mm} (ht : (6 : Int) ≤ 6 ∧ (6 : Int) ≤ 7) (hR : RS 6 σ0 V σ) (hG : GI V)  (k : ∀ ρ : Mm, RS 6 σ0 V ρ → P (some (vI (csR V l m w))) ρ) : WT (true, eb, true) (d + 8) 242 [vR 30 0, vI l, vI m, vI w] σ P := by
  refine WT_in fun K hK => ?_
  have hK : StpY (true, eb, true) cX6_cost RX6 (some .int) (WT (true, eb, true) (d + 7)) P K := hK
  have hM := hK.1
  have hC := hK.1.1
  show K 0 [some (vR 30 0), some (vI l), some (vI m), some (vI w), none, none, none, none] [] σ
  refine z_ok hM (fun hok => ?_)
  refine r_rngz hC (fun g0 => ?_)
  have r_l : -2147483648 ≤ l ∧ l ≤ 2147483647 := inR_le (g0 (vI l) (by simp))
  have r_m : -2147483648 ≤ m ∧ m ≤ 2147483647 := inR_le (g0 (vI m) (by simp))
  have r_w : -2147483648 ≤ w ∧ w ≤ 2147483647 := inR_le (g0 (vI w) (by simp))
  refine r_aload_n hC dX6_cost_0 rfl ?_
  refine r_iload_n hC dX6_cost_1 rfl ?_
  refine z_inv1 hM dX6_cost_2 vl_RX6_124 rfl rfl rfl (Nat.le_of_ble_eq_true rfl) (Nat.le_of_ble_eq_true rfl) ?_
  refine y_isLane (V := V) ht ⟨hR.1, hR.2.1, hR.2.2⟩ (fun h1 => ?_) (fun h1 => ?_)
  · unfold opV at h1
    refine r_if_eq (tgt := 28) hC dX6_cost_5 rfl (fun h2 => by omega) (fun h2 => ?_)
    refine r_iload_n hC dX6_cost_8 rfl ?_
    refine r_iconst hC dX6_cost_9 rfl ?_
    refine r_sipush hC dX6_cost_10 rfl ?_
    refine z_ins3 hM dX6_cost_13 tl_RX6_76 rfl (Nat.le_of_ble_eq_true rfl) (Nat.le_of_ble_eq_true rfl) ?_
    refine m_isIn (fun h4 => ?_) (fun h4 => ?_)
    · refine r_if_eq (tgt := 28) hC dX6_cost_16 rfl (fun h5 => by omega) (fun h5 => ?_)
      refine r_iload_n hC dX6_cost_19 rfl ?_
      refine r_iconst hC dX6_cost_20 rfl ?_
      refine r_iconst hC dX6_cost_21 rfl ?_
      refine z_ins3 hM dX6_cost_22 tl_RX6_76 rfl (Nat.le_of_ble_eq_true rfl) (Nat.le_of_ble_eq_true rfl) ?_
      refine m_isIn (fun h7 => ?_) (fun h7 => ?_)
      · refine r_if_ne (tgt := 30) hC dX6_cost_25 rfl (fun h8 => ?_) (fun h8 => by omega)
        refine r_aload_n hC dX6_cost_30 rfl ?_
        refine r_iload_n hC dX6_cost_31 rfl ?_
        refine r_bipush hC dX6_cost_32 rfl ?_
        refine z_inv2 hM dX6_cost_34 vl_RX6_292 rfl rfl rfl (Nat.le_of_ble_eq_true rfl) (Nat.le_of_ble_eq_true rfl) ?_
        have hb7 : ∀ j : Int, 0 ≤ j → j ≤ 120 → -1000 ≤ σ 33 0 (847 + j) ∧ σ 33 0 (847 + j) ≤ 1000 := fun j a b => hok 33 0 (847 + j) (Or.inl trivial)
        obtain ⟨U, hU⟩ : ∃ U : Mm, U = up7 V σ := ⟨_, rfl⟩
        have uR := RS.up7 ⟨hR.1, hR.2.1, hR.2.2⟩
        rw [← hU] at uR
        refine y_copyLaneG (V := U) (l := l) (m := 7) (by omega) (by omega) ⟨by omega, by omega⟩ uR.1 uR.2.1 uR.2.2 (by omega) (by omega) (fun n7 ρc Rc => ?_)
        obtain ⟨W, hW⟩ : ∃ W : Mm, W = mu (cpM U l 7) 7 7 0 n7 := ⟨_, rfl⟩
        rw [← hW] at Rc
        have hcp := cp7 hU hW (by omega)
        have hlk7 := LK7 hG hU hW (by omega) hb7
        clear ht
        have ht : (6 : Int) ≤ 7 ∧ (7 : Int) ≤ 7 := by omega
        refine r_iconst hC dX6_cost_37 rfl ?_
        refine r_istore hC dX6_cost_38 rfl ?_
        refine r_iconst hC dX6_cost_40 rfl ?_
        refine r_istore hC dX6_cost_41 rfl ?_
        refine r_iconst hC dX6_cost_43 rfl ?_
        refine r_istore hC dX6_cost_44 rfl ?_
        have L46 : ∀ (n46 : Nat) (w9 w10 w11 : Int) (ρ12 W12 : Mm), 0 ≤ w9 ∧ w9 ≤ 800 → 0 ≤ w10 ∧ w10 ≤ 200 → 0 ≤ w11 ∧ w11 ≤ 4 → ((w10) ≤ m) → ((w9) = cst (cs0 V l) ((w10)).toNat 5) → ((w11) = cst (cs0 V l) ((w10)).toNat 6) → ((w9) ≤ 4 * (w10)) → 200 - w10 < (n46 : Int) → (RS 7 σ0 W12 ρ12) → (∀ (c : Nat) (x y : Int), c < 30 → ¬ (x = 7 ∧ (c = 7 ∨ c = 8 ∨ c = 9 ∨ c = 10 ∨ c = 11)) → W12 c x y = V c x y) → (∀ y : Int, 0 ≤ y → y ≤ 4 → W12 11 7 y = cst (cs0 V l) ((w10)).toNat y) → (LK W12 7) → K 46 [some (vR 30 0), some (vI l), some (vI m), some (vI w), some (vI w9), some (vI w11), some (vI w10), none] [] ρ12 := by
          intro n46
          induction n46 with
          | zero => intro w9 w10 w11 ρ12 W12 f_w9 f_w10 f_w11 i0_46 i1_46 i2_46 i3_46 hm  m0_46 m1_46 m2_46 m3_46; omega
          | succ n46 ih46 =>
            intro w9 w10 w11 ρ12 W12 f_w9 f_w10 f_w11 i0_46 i1_46 i2_46 i3_46 hm46  m0_46 m1_46 m2_46 m3_46
            have h6V := hG.1.h7 (l := l) (by omega) (by omega)
            have fi := cst_FI (cs0_FI (hG.1.2.1 l (by omega) (by omega))) (w10).toNat
            have fw := FIW fi (by omega)
            have b0 := m2_46 0 (by omega) (by omega)
            have b1 := m2_46 1 (by omega) (by omega)
            have b2 := m2_46 2 (by omega) (by omega)
            have b3 := m2_46 3 (by omega) (by omega)
            have hb7_ : (0 ≤ W12 11 7 0 ∧ W12 11 7 0 ≤ 320) ∧ (0 ≤ W12 11 7 1 ∧ W12 11 7 1 ≤ 320) ∧ (0 ≤ W12 11 7 2 ∧ W12 11 7 2 ≤ 320) ∧ 0 ≤ W12 11 7 3 ∧ W12 11 7 3 ≤ 700 := by rw [b0, b1, b2, b3]; omega
            have fiW : FI (W12 11 7) (V 7 l 6 + ((w10).toNat : Int)) := FI_c fi (fun y a b => m2_46 y a (by omega))
            refine r_iload hC dX6_cost_46 rfl ?_
            refine r_iload_n hC dX6_cost_48 rfl ?_
            refine r_icmp_ge (tgt := 129) hC dX6_cost_49 rfl (fun h13 => ?_) (fun h13 => ?_)
            · refine r_aload_n hC dX6_cost_129 rfl ?_
              refine r_bipush hC dX6_cost_130 rfl ?_
              refine r_iconst hC dX6_cost_132 rfl ?_
              refine r_iconst hC dX6_cost_133 rfl ?_
              refine z_inv3 hM dX6_cost_134 vl_RX6_173 rfl rfl rfl (Nat.le_of_ble_eq_true rfl) (Nat.le_of_ble_eq_true rfl) ?_
              refine y_set (by omega) (by omega) ⟨fun h => by omega, fun h => by omega⟩ ?_
              obtain ⟨ρ14, e_ρ14⟩ : ∃ zz_, zz_ = mu ρ12 31 0 ((22 * 7) + 0) 0 := ⟨_, rfl⟩
              rw [← e_ρ14]
              have Sρ14 : SB 7 σ0 (mu W12 7 7 1 0) ρ14 := by rw [e_ρ14, show (((22 * 7) + 0) : Int) = 22 * 7 + 0 from by omega]; exact m0_46.1.p7 (by omega) (by omega) (by omega)
              have Kρ14 : KF 7 (mu W12 7 7 1 0) ρ14 := by rw [e_ρ14]; exact (m0_46.2.1).e (fun l a b => ⟨mu_ne (by omega), mu_ne (by omega)⟩) |>.v (fun l => mu_ne (by omega))
              have Fρ14 : FB (mu W12 7 7 1 0) ρ14 := by rw [e_ρ14]; exact (m0_46.2.2).e (fun l a b => mu_ne (by omega)) |>.v (fun l y a b c => mu_ne (by omega))
              refine r_iload_n hC dX6_cost_137 rfl ?_
              refine r_if_ne (tgt := 146) hC dX6_cost_138 rfl (fun h15 => ?_) (fun h15 => ?_)
              · refine r_iload hC dX6_cost_146 rfl ?_
                refine y_iret hK rfl dX6_cost_148 ?_
                have hRr : csR V l m w = w11 := by
                  unfold csR
                  rw [if_pos ⟨by unfold opV; omega, by omega, by omega⟩, if_neg (by omega), show m.toNat = (w10).toNat from by omega]
                  exact i2_46.symm
                rw [hRr] at k
                exact k _ (RS.dn7 ⟨Sρ14, Kρ14, Fρ14⟩ (fun c x y hc hn => (mu_ne (by omega)).trans (m1_46 c x y hc hn)))
              · refine r_iload hC dX6_cost_141 rfl ?_
                refine r_goto (tgt := 148) hC dX6_cost_143 rfl ?_
                refine y_iret hK rfl dX6_cost_148 ?_
                have hRr : csR V l m w = w9 := by
                  unfold csR
                  rw [if_pos ⟨by unfold opV; omega, by omega, by omega⟩, if_pos (by omega), show m.toNat = (w10).toNat from by omega]
                  exact i1_46.symm
                rw [hRr] at k
                exact k _ (RS.dn7 ⟨Sρ14, Kρ14, Fρ14⟩ (fun c x y hc hn => (mu_ne (by omega)).trans (m1_46 c x y hc hn)))
            · refine r_aload_n hC dX6_cost_52 rfl ?_
              refine r_bipush hC dX6_cost_53 rfl ?_
              refine r_bipush hC dX6_cost_55 rfl ?_
              refine z_inv2 hM dX6_cost_57 vl_RX6_80 rfl rfl rfl (Nat.le_of_ble_eq_true rfl) (Nat.le_of_ble_eq_true rfl) ?_
              refine y_of (by omega) (by omega) (by omega) (fun o16 => ?_)
              have e17 : ρ12 31 0 (22 * 7 + 14) = (W12 11 7 2) := (m0_46.1.a11 (s := 2) (f := 14) (by omega) (by omega) (by omega)).trans (rfl)
              rw [e17] at o16 ⊢
              refine r_if_le (tgt := 67) hC dX6_cost_60 rfl (fun h18 => ?_) (fun h18 => ?_)
              · refine r_iconst hC dX6_cost_67 rfl ?_
                refine r_istore hC dX6_cost_68 rfl ?_
                refine r_aload_n hC dX6_cost_70 rfl ?_
                refine r_bipush hC dX6_cost_71 rfl ?_
                refine r_bipush hC dX6_cost_73 rfl ?_
                refine r_iconst hC dX6_cost_75 rfl ?_
                refine z_inv3 hM dX6_cost_76 vl_RX6_188 rfl rfl rfl (Nat.le_of_ble_eq_true rfl) (Nat.le_of_ble_eq_true rfl) ?_
                refine y_moreE (a := (W12 11 7 2)) (by omega) (by omega) (by omega) ⟨fun h => by omega, by omega⟩ ((m0_46.1.a11 (s := 2) (f := 14) (by omega) (by omega) (by omega)).trans (rfl)) (by omega) ?_
                rw [show (W12 11 7 2) + 1 = ((W12 11 7 2) + 1) from by omega]
                obtain ⟨ρ19, e_ρ19⟩ : ∃ zz_, zz_ = mu ρ12 31 0 ((22 * 7) + 14) ((W12 11 7 2) + 1) := ⟨_, rfl⟩
                rw [← e_ρ19]
                have Sρ19 : SB 7 σ0 (mu W12 11 7 2 ((W12 11 7 2) + 1)) ρ19 := by rw [e_ρ19, show (((22 * 7) + 14) : Int) = 22 * 7 + 14 from by omega]; exact m0_46.1.p11 (by omega) (by omega) (by omega)
                have Kρ19 : KF 7 (mu W12 11 7 2 ((W12 11 7 2) + 1)) ρ19 := by rw [e_ρ19]; exact (m0_46.2.1).e (fun l a b => ⟨mu_ne (by omega), mu_ne (by omega)⟩) |>.v (fun l => mu_ne (by omega))
                have Fρ19 : FB (mu W12 11 7 2 ((W12 11 7 2) + 1)) ρ19 := by rw [e_ρ19]; exact (m0_46.2.2).e (fun l a b => mu_ne (by omega)) |>.v (fun l y a b c => mu_ne (by omega))
                refine r_aload_n hC dX6_cost_79 rfl ?_
                refine r_bipush hC dX6_cost_80 rfl ?_
                refine r_iload hC dX6_cost_82 rfl ?_
                refine z_inv2 hM dX6_cost_84 vl_RX6_221 rfl rfl rfl (Nat.le_of_ble_eq_true rfl) (Nat.le_of_ble_eq_true rfl) ?_
                have hRn : RS 7 σ0 (mu W12 11 7 2 ((W12 11 7 2) + 1)) ρ19 := ⟨Sρ19, Kρ19, Fρ19⟩
                have hkf := hRn.2.1 7 (by omega) (by omega)
                have q0 : (mu W12 11 7 2 ((W12 11 7 2) + 1)) 11 7 0 = W12 11 7 0 := mu_ne (by omega)
                have q1 : (mu W12 11 7 2 ((W12 11 7 2) + 1)) 11 7 1 = W12 11 7 1 := mu_ne (by omega)
                have q2 : (mu W12 11 7 2 ((W12 11 7 2) + 1)) 11 7 2 = W12 11 7 2 + 1 := mu_self _ _ _ _ _
                have q3 : (mu W12 11 7 2 ((W12 11 7 2) + 1)) 11 7 3 = W12 11 7 3 := mu_ne (by omega)
                have hFI2 := fiW
                unfold FI at hFI2
                have hfl : ∃ fl : Int, fl = (if (mu W12 11 7 2 ((W12 11 7 2) + 1)) 11 7 3 = 0 then 0 else 1) := ⟨_, rfl⟩
                obtain ⟨fl, hfl⟩ := hfl
                have hfl2 : (fl = 0 ∧ (mu W12 11 7 2 ((W12 11 7 2) + 1)) 11 7 3 = 0) ∨ (fl = 1 ∧ (mu W12 11 7 2 ((W12 11 7 2) + 1)) 11 7 3 ≠ 0) := by rw [hfl]; split <;> omega
                have hLn : LK (mu W12 11 7 2 ((W12 11 7 2) + 1)) 7 := m3_46.to (fun c2 x y h => mu_ne (by omega))
                refine y_endMoveW (V := (mu W12 11 7 2 ((W12 11 7 2) + 1))) (l := 7) (c := 0) (fl := fl) (fr := 0) (by omega) (by omega) ht hRn.1 (hRn.2.1.kx 7) hRn.2.2 (by omega) hLn (by omega) (by omega) (hkf.1.trans hfl.symm) hkf.2 (fun ρm Rm => ?_)
                rw [rg7d (fun w a b => by rw [su_ne (by omega), mu_ne (by omega), m1_46 12 w 0 (by omega) (by omega)]; have := (hG.2.1.2.2.2.2.2.2.1 w a b).1; unfold opV at this; omega)] at Rm
                have hadR : emR 0 ((mu W12 11 7 2 ((W12 11 7 2) + 1)) 11 7) = adR (W12 11 7) := by unfold adR; rw [mu_row]; congr 1; first | (rw [if_pos (by omega)]; done) | (rw [if_neg (by omega)]; done)
                have hadm : ∀ y : Int, 0 ≤ y → y ≤ 4 → su (mu W12 11 7 2 ((W12 11 7 2) + 1)) 11 7 (emR 0 ((mu W12 11 7 2 ((W12 11 7 2) + 1)) 11 7)) 11 7 y = adR (W12 11 7) y := fun y a b => by rw [su_at, hadR]
                have hT4 := adT fiW
                have hlat : su (mu W12 11 7 2 ((W12 11 7 2) + 1)) 11 7 (emR 0 ((mu W12 11 7 2 ((W12 11 7 2) + 1)) 11 7)) 11 7 4 = adR (W12 11 7) 4 := hadm 4 (by omega) (by omega)
                refine r_iload hC dX6_cost_87 rfl ?_
                refine r_aload_n hC dX6_cost_89 rfl ?_
                refine r_bipush hC dX6_cost_90 rfl ?_
                refine r_bipush hC dX6_cost_92 rfl ?_
                refine z_inv2 hM dX6_cost_94 vl_RX6_80 rfl rfl rfl (Nat.le_of_ble_eq_true rfl) (Nat.le_of_ble_eq_true rfl) ?_
                refine y_of (by omega) (by omega) (by omega) (fun o20 => ?_)
                have e21 : ρm 31 0 (22 * 7 + 18) = (adR (W12 11 7) 4) := (Rm.1.a11 (s := 4) (f := 18) (by omega) (by omega) (by omega)).trans (hlat)
                rw [e21] at o20 ⊢
                refine r_iaddE hC ((w9 + (adR (W12 11 7) 4))) dX6_cost_97 (by omega) (by unfold inR; omega) ?_
                refine r_istore hC dX6_cost_98 rfl ?_
                refine r_aload_n hC dX6_cost_100 rfl ?_
                refine r_bipush hC dX6_cost_101 rfl ?_
                refine r_bipush hC dX6_cost_103 rfl ?_
                refine z_inv2 hM dX6_cost_105 vl_RX6_80 rfl rfl rfl (Nat.le_of_ble_eq_true rfl) (Nat.le_of_ble_eq_true rfl) ?_
                refine y_of (by omega) (by omega) (by omega) (fun o22 => ?_)
                have e23 : ρm 31 0 (22 * 7 + 18) = (adR (W12 11 7) 4) := (Rm.1.a11 (s := 4) (f := 18) (by omega) (by omega) (by omega)).trans (hlat)
                rw [e23] at o22 ⊢
                refine r_iload hC dX6_cost_108 rfl ?_
                refine r_icmp_le (tgt := 123) hC dX6_cost_110 rfl (fun h24 => ?_) (fun h24 => ?_)
                · refine r_iincE hC ((w10 + 1)) dX6_cost_123 rfl rfl (by omega) (by unfold inR; omega) ?_
                  refine r_goto (tgt := 46) hC dX6_cost_126 rfl ?_
                  refine r_forget hC (ls2 := [some (vR 30 0), some (vI l), some (vI m), some (vI w), some (vI (w9 + (adR (W12 11 7) 4))), some (vI w11), some (vI (w10 + 1)), none]) (lsub_some (lsub_some (lsub_some (lsub_some (lsub_some (lsub_some (lsub_some (lsub_none lsub_nil)))))))) ?_
                  exact ih46 ((w9 + (adR (W12 11 7) 4))) ((w10 + 1)) (w11) ρm (su (mu W12 11 7 2 ((W12 11 7 2) + 1)) 11 7 (emR 0 ((mu W12 11 7 2 ((W12 11 7 2) + 1)) 11 7))) (by omega) (by omega) (by omega) (by omega) (by first | rfl | (rw [cst_s _ (by omega), adR_5, ← i1_46, ← adR_cg (fun y a b => m2_46 y a (by omega)) 4 (by omega) (by omega), wr_id ⟨by omega, by omega⟩])) (by first | rfl | (rw [cst_s _ (by omega), adR_6, ← i2_46, ← adR_cg (fun y a b => m2_46 y a (by omega)) 4 (by omega) (by omega)]; omega)) (by omega) (by omega)  (⟨Rm.1, Rm.2.1, Rm.2.2⟩) (fun c x y hc hn => ((su_ne (by omega)).trans (mu_ne (by omega))).trans (m1_46 c x y hc hn)) (fun y a b => by rw [cst_s _ (by omega)]; exact (hadm y a b).trans (adR_cg (fun y a b => m2_46 y a (by omega)) y a b)) ((LK.su11 (m3_46.to (fun c2 x y h => mu_ne (by omega)))))
                · refine r_aload_n hC dX6_cost_113 rfl ?_
                  refine r_bipush hC dX6_cost_114 rfl ?_
                  refine r_bipush hC dX6_cost_116 rfl ?_
                  refine z_inv2 hM dX6_cost_118 vl_RX6_80 rfl rfl rfl (Nat.le_of_ble_eq_true rfl) (Nat.le_of_ble_eq_true rfl) ?_
                  refine y_of (by omega) (by omega) (by omega) (fun o25 => ?_)
                  have e26 : ρm 31 0 (22 * 7 + 18) = (adR (W12 11 7) 4) := (Rm.1.a11 (s := 4) (f := 18) (by omega) (by omega) (by omega)).trans (hlat)
                  rw [e26] at o25 ⊢
                  refine r_istore hC dX6_cost_121 rfl ?_
                  refine r_iincE hC ((w10 + 1)) dX6_cost_123 rfl rfl (by omega) (by unfold inR; omega) ?_
                  refine r_goto (tgt := 46) hC dX6_cost_126 rfl ?_
                  refine r_forget hC (ls2 := [some (vR 30 0), some (vI l), some (vI m), some (vI w), some (vI (w9 + (adR (W12 11 7) 4))), some (vI (adR (W12 11 7) 4)), some (vI (w10 + 1)), none]) (lsub_some (lsub_some (lsub_some (lsub_some (lsub_some (lsub_some (lsub_some (lsub_none lsub_nil)))))))) ?_
                  exact ih46 ((w9 + (adR (W12 11 7) 4))) ((w10 + 1)) ((adR (W12 11 7) 4)) ρm (su (mu W12 11 7 2 ((W12 11 7 2) + 1)) 11 7 (emR 0 ((mu W12 11 7 2 ((W12 11 7 2) + 1)) 11 7))) (by omega) (by omega) (by omega) (by omega) (by first | rfl | (rw [cst_s _ (by omega), adR_5, ← i1_46, ← adR_cg (fun y a b => m2_46 y a (by omega)) 4 (by omega) (by omega), wr_id ⟨by omega, by omega⟩])) (by first | rfl | (rw [cst_s _ (by omega), adR_6, ← i2_46, ← adR_cg (fun y a b => m2_46 y a (by omega)) 4 (by omega) (by omega)]; omega)) (by omega) (by omega)  (⟨Rm.1, Rm.2.1, Rm.2.2⟩) (fun c x y hc hn => ((su_ne (by omega)).trans (mu_ne (by omega))).trans (m1_46 c x y hc hn)) (fun y a b => by rw [cst_s _ (by omega)]; exact (hadm y a b).trans (adR_cg (fun y a b => m2_46 y a (by omega)) y a b)) ((LK.su11 (m3_46.to (fun c2 x y h => mu_ne (by omega)))))
              · refine r_iconst hC dX6_cost_63 rfl ?_
                refine r_goto (tgt := 68) hC dX6_cost_64 rfl ?_
                refine r_istore hC dX6_cost_68 rfl ?_
                refine r_aload_n hC dX6_cost_70 rfl ?_
                refine r_bipush hC dX6_cost_71 rfl ?_
                refine r_bipush hC dX6_cost_73 rfl ?_
                refine r_iconst hC dX6_cost_75 rfl ?_
                refine z_inv3 hM dX6_cost_76 vl_RX6_188 rfl rfl rfl (Nat.le_of_ble_eq_true rfl) (Nat.le_of_ble_eq_true rfl) ?_
                refine y_moreE (a := (W12 11 7 2)) (by omega) (by omega) (by omega) ⟨fun h => by omega, by omega⟩ ((m0_46.1.a11 (s := 2) (f := 14) (by omega) (by omega) (by omega)).trans (rfl)) (by omega) ?_
                rw [show (W12 11 7 2) + 1 = ((W12 11 7 2) + 1) from by omega]
                obtain ⟨ρ27, e_ρ27⟩ : ∃ zz_, zz_ = mu ρ12 31 0 ((22 * 7) + 14) ((W12 11 7 2) + 1) := ⟨_, rfl⟩
                rw [← e_ρ27]
                have Sρ27 : SB 7 σ0 (mu W12 11 7 2 ((W12 11 7 2) + 1)) ρ27 := by rw [e_ρ27, show (((22 * 7) + 14) : Int) = 22 * 7 + 14 from by omega]; exact m0_46.1.p11 (by omega) (by omega) (by omega)
                have Kρ27 : KF 7 (mu W12 11 7 2 ((W12 11 7 2) + 1)) ρ27 := by rw [e_ρ27]; exact (m0_46.2.1).e (fun l a b => ⟨mu_ne (by omega), mu_ne (by omega)⟩) |>.v (fun l => mu_ne (by omega))
                have Fρ27 : FB (mu W12 11 7 2 ((W12 11 7 2) + 1)) ρ27 := by rw [e_ρ27]; exact (m0_46.2.2).e (fun l a b => mu_ne (by omega)) |>.v (fun l y a b c => mu_ne (by omega))
                refine r_aload_n hC dX6_cost_79 rfl ?_
                refine r_bipush hC dX6_cost_80 rfl ?_
                refine r_iload hC dX6_cost_82 rfl ?_
                refine z_inv2 hM dX6_cost_84 vl_RX6_221 rfl rfl rfl (Nat.le_of_ble_eq_true rfl) (Nat.le_of_ble_eq_true rfl) ?_
                have hRn : RS 7 σ0 (mu W12 11 7 2 ((W12 11 7 2) + 1)) ρ27 := ⟨Sρ27, Kρ27, Fρ27⟩
                have hkf := hRn.2.1 7 (by omega) (by omega)
                have q0 : (mu W12 11 7 2 ((W12 11 7 2) + 1)) 11 7 0 = W12 11 7 0 := mu_ne (by omega)
                have q1 : (mu W12 11 7 2 ((W12 11 7 2) + 1)) 11 7 1 = W12 11 7 1 := mu_ne (by omega)
                have q2 : (mu W12 11 7 2 ((W12 11 7 2) + 1)) 11 7 2 = W12 11 7 2 + 1 := mu_self _ _ _ _ _
                have q3 : (mu W12 11 7 2 ((W12 11 7 2) + 1)) 11 7 3 = W12 11 7 3 := mu_ne (by omega)
                have hFI2 := fiW
                unfold FI at hFI2
                have hfl : ∃ fl : Int, fl = (if (mu W12 11 7 2 ((W12 11 7 2) + 1)) 11 7 3 = 0 then 0 else 1) := ⟨_, rfl⟩
                obtain ⟨fl, hfl⟩ := hfl
                have hfl2 : (fl = 0 ∧ (mu W12 11 7 2 ((W12 11 7 2) + 1)) 11 7 3 = 0) ∨ (fl = 1 ∧ (mu W12 11 7 2 ((W12 11 7 2) + 1)) 11 7 3 ≠ 0) := by rw [hfl]; split <;> omega
                have hLn : LK (mu W12 11 7 2 ((W12 11 7 2) + 1)) 7 := m3_46.to (fun c2 x y h => mu_ne (by omega))
                refine y_endMoveW (V := (mu W12 11 7 2 ((W12 11 7 2) + 1))) (l := 7) (c := 1) (fl := fl) (fr := 0) (by omega) (by omega) ht hRn.1 (hRn.2.1.kx 7) hRn.2.2 (by omega) hLn (by omega) (by omega) (hkf.1.trans hfl.symm) hkf.2 (fun ρm Rm => ?_)
                rw [rg7d (fun w a b => by rw [su_ne (by omega), mu_ne (by omega), m1_46 12 w 0 (by omega) (by omega)]; have := (hG.2.1.2.2.2.2.2.2.1 w a b).1; unfold opV at this; omega)] at Rm
                have hadR : emR 1 ((mu W12 11 7 2 ((W12 11 7 2) + 1)) 11 7) = adR (W12 11 7) := by unfold adR; rw [mu_row]; congr 1; first | (rw [if_pos (by omega)]; done) | (rw [if_neg (by omega)]; done)
                have hadm : ∀ y : Int, 0 ≤ y → y ≤ 4 → su (mu W12 11 7 2 ((W12 11 7 2) + 1)) 11 7 (emR 1 ((mu W12 11 7 2 ((W12 11 7 2) + 1)) 11 7)) 11 7 y = adR (W12 11 7) y := fun y a b => by rw [su_at, hadR]
                have hT4 := adT fiW
                have hlat : su (mu W12 11 7 2 ((W12 11 7 2) + 1)) 11 7 (emR 1 ((mu W12 11 7 2 ((W12 11 7 2) + 1)) 11 7)) 11 7 4 = adR (W12 11 7) 4 := hadm 4 (by omega) (by omega)
                refine r_iload hC dX6_cost_87 rfl ?_
                refine r_aload_n hC dX6_cost_89 rfl ?_
                refine r_bipush hC dX6_cost_90 rfl ?_
                refine r_bipush hC dX6_cost_92 rfl ?_
                refine z_inv2 hM dX6_cost_94 vl_RX6_80 rfl rfl rfl (Nat.le_of_ble_eq_true rfl) (Nat.le_of_ble_eq_true rfl) ?_
                refine y_of (by omega) (by omega) (by omega) (fun o28 => ?_)
                have e29 : ρm 31 0 (22 * 7 + 18) = (adR (W12 11 7) 4) := (Rm.1.a11 (s := 4) (f := 18) (by omega) (by omega) (by omega)).trans (hlat)
                rw [e29] at o28 ⊢
                refine r_iaddE hC ((w9 + (adR (W12 11 7) 4))) dX6_cost_97 (by omega) (by unfold inR; omega) ?_
                refine r_istore hC dX6_cost_98 rfl ?_
                refine r_aload_n hC dX6_cost_100 rfl ?_
                refine r_bipush hC dX6_cost_101 rfl ?_
                refine r_bipush hC dX6_cost_103 rfl ?_
                refine z_inv2 hM dX6_cost_105 vl_RX6_80 rfl rfl rfl (Nat.le_of_ble_eq_true rfl) (Nat.le_of_ble_eq_true rfl) ?_
                refine y_of (by omega) (by omega) (by omega) (fun o30 => ?_)
                have e31 : ρm 31 0 (22 * 7 + 18) = (adR (W12 11 7) 4) := (Rm.1.a11 (s := 4) (f := 18) (by omega) (by omega) (by omega)).trans (hlat)
                rw [e31] at o30 ⊢
                refine r_iload hC dX6_cost_108 rfl ?_
                refine r_icmp_le (tgt := 123) hC dX6_cost_110 rfl (fun h32 => ?_) (fun h32 => ?_)
                · refine r_iincE hC ((w10 + 1)) dX6_cost_123 rfl rfl (by omega) (by unfold inR; omega) ?_
                  refine r_goto (tgt := 46) hC dX6_cost_126 rfl ?_
                  refine r_forget hC (ls2 := [some (vR 30 0), some (vI l), some (vI m), some (vI w), some (vI (w9 + (adR (W12 11 7) 4))), some (vI w11), some (vI (w10 + 1)), none]) (lsub_some (lsub_some (lsub_some (lsub_some (lsub_some (lsub_some (lsub_some (lsub_none lsub_nil)))))))) ?_
                  exact ih46 ((w9 + (adR (W12 11 7) 4))) ((w10 + 1)) (w11) ρm (su (mu W12 11 7 2 ((W12 11 7 2) + 1)) 11 7 (emR 1 ((mu W12 11 7 2 ((W12 11 7 2) + 1)) 11 7))) (by omega) (by omega) (by omega) (by omega) (by first | rfl | (rw [cst_s _ (by omega), adR_5, ← i1_46, ← adR_cg (fun y a b => m2_46 y a (by omega)) 4 (by omega) (by omega), wr_id ⟨by omega, by omega⟩])) (by first | rfl | (rw [cst_s _ (by omega), adR_6, ← i2_46, ← adR_cg (fun y a b => m2_46 y a (by omega)) 4 (by omega) (by omega)]; omega)) (by omega) (by omega)  (⟨Rm.1, Rm.2.1, Rm.2.2⟩) (fun c x y hc hn => ((su_ne (by omega)).trans (mu_ne (by omega))).trans (m1_46 c x y hc hn)) (fun y a b => by rw [cst_s _ (by omega)]; exact (hadm y a b).trans (adR_cg (fun y a b => m2_46 y a (by omega)) y a b)) ((LK.su11 (m3_46.to (fun c2 x y h => mu_ne (by omega)))))
                · refine r_aload_n hC dX6_cost_113 rfl ?_
                  refine r_bipush hC dX6_cost_114 rfl ?_
                  refine r_bipush hC dX6_cost_116 rfl ?_
                  refine z_inv2 hM dX6_cost_118 vl_RX6_80 rfl rfl rfl (Nat.le_of_ble_eq_true rfl) (Nat.le_of_ble_eq_true rfl) ?_
                  refine y_of (by omega) (by omega) (by omega) (fun o33 => ?_)
                  have e34 : ρm 31 0 (22 * 7 + 18) = (adR (W12 11 7) 4) := (Rm.1.a11 (s := 4) (f := 18) (by omega) (by omega) (by omega)).trans (hlat)
                  rw [e34] at o33 ⊢
                  refine r_istore hC dX6_cost_121 rfl ?_
                  refine r_iincE hC ((w10 + 1)) dX6_cost_123 rfl rfl (by omega) (by unfold inR; omega) ?_
                  refine r_goto (tgt := 46) hC dX6_cost_126 rfl ?_
                  refine r_forget hC (ls2 := [some (vR 30 0), some (vI l), some (vI m), some (vI w), some (vI (w9 + (adR (W12 11 7) 4))), some (vI (adR (W12 11 7) 4)), some (vI (w10 + 1)), none]) (lsub_some (lsub_some (lsub_some (lsub_some (lsub_some (lsub_some (lsub_some (lsub_none lsub_nil)))))))) ?_
                  exact ih46 ((w9 + (adR (W12 11 7) 4))) ((w10 + 1)) ((adR (W12 11 7) 4)) ρm (su (mu W12 11 7 2 ((W12 11 7 2) + 1)) 11 7 (emR 1 ((mu W12 11 7 2 ((W12 11 7 2) + 1)) 11 7))) (by omega) (by omega) (by omega) (by omega) (by first | rfl | (rw [cst_s _ (by omega), adR_5, ← i1_46, ← adR_cg (fun y a b => m2_46 y a (by omega)) 4 (by omega) (by omega), wr_id ⟨by omega, by omega⟩])) (by first | rfl | (rw [cst_s _ (by omega), adR_6, ← i2_46, ← adR_cg (fun y a b => m2_46 y a (by omega)) 4 (by omega) (by omega)]; omega)) (by omega) (by omega)  (⟨Rm.1, Rm.2.1, Rm.2.2⟩) (fun c x y hc hn => ((su_ne (by omega)).trans (mu_ne (by omega))).trans (m1_46 c x y hc hn)) (fun y a b => by rw [cst_s _ (by omega)]; exact (hadm y a b).trans (adR_cg (fun y a b => m2_46 y a (by omega)) y a b)) ((LK.su11 (m3_46.to (fun c2 x y h => mu_ne (by omega)))))
        exact L46 202 (0) (0) (0) ρc W (by omega) (by omega) (by omega) (by omega) (by first | rfl | (rw [cst_s _ (by omega), adR_5, ← i1_46, ← adR_cg (fun y a b => m2_46 y a (by omega)) 4 (by omega) (by omega), wr_id ⟨by omega, by omega⟩])) (by first | rfl | (rw [cst_s _ (by omega), adR_6, ← i2_46, ← adR_cg (fun y a b => m2_46 y a (by omega)) 4 (by omega) (by omega)]; omega)) (by omega) (by omega)  (⟨Rc.1, Rc.2.1, Rc.2.2⟩) (fun c x y hc hn => hcp.2.2.2.1 c x y hn) (fun y a b => by rw [hcp.2.2.1 y a (by omega)]; rcases (by omega : y = 0 ∨ y = 1 ∨ y = 2 ∨ y = 3 ∨ y = 4) with rfl | rfl | rfl | rfl | rfl <;> rfl) (hlk7.1)
      · refine r_if_ne (tgt := 30) hC dX6_cost_25 rfl (fun h35 => by omega) (fun h35 => ?_)
        refine r_iconst hC dX6_cost_28 rfl ?_
        refine y_iret hK rfl dX6_cost_29 ?_
        have hRr : csR V l m w = -1 := if_neg (by unfold csC opV; omega)
        rw [hRr] at k
        exact k _ ⟨hR.1, hR.2.1, hR.2.2⟩
    · refine r_if_eq (tgt := 28) hC dX6_cost_16 rfl (fun h36 => ?_) (fun h36 => by omega)
      refine r_iconst hC dX6_cost_28 rfl ?_
      refine y_iret hK rfl dX6_cost_29 ?_
      have hRr : csR V l m w = -1 := if_neg (by unfold csC opV; omega)
      rw [hRr] at k
      exact k _ ⟨hR.1, hR.2.1, hR.2.2⟩
  · unfold opV at h1
    refine r_if_eq (tgt := 28) hC dX6_cost_5 rfl (fun h37 => ?_) (fun h37 => by omega)
    refine r_iconst hC dX6_cost_28 rfl ?_
    refine y_iret hK rfl dX6_cost_29 ?_
    have hRr : csR V l m w = -1 := if_neg (by unfold csC opV; omega)
    rw [hRr] at k
    exact k _ ⟨hR.1, hR.2.1, hR.2.2⟩
