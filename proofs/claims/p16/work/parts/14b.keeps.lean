-- B: the reference: burst, leave, until, take, alter
theorem y_burst {eb : Bool} {t : Int} {V : Mm} {d : Nat} {P : Option Vl → Mm → Prop} {σ : Mm} {l m v z : Int}  {σ0 : Mm} (ht : 6 ≤ t ∧ t ≤ 7) (hR : RS t σ0 V σ) (hG : GI V)  (k : ∀ ρ : Mm, RS t σ0 (buM V l m v z) ρ → P (some (vI (buR V l m v z))) ρ) : WT (true, eb, true) (d + 11) 206 [vR 30 0, vI l, vI m, vI v, vI z] σ P := by
  refine WT_in fun K hK => ?_
  have hK : StpY (true, eb, true) cX6_burst RX6 (some .int) (WT (true, eb, true) (d + 10)) P K := hK
  have hM := hK.1
  have hC := hK.1.1
  show K 0 [some (vR 30 0), some (vI l), some (vI m), some (vI v), some (vI z), none, none] [] σ
  refine r_rngz hC (fun g0 => ?_)
  have r_l : -2147483648 ≤ l ∧ l ≤ 2147483647 := inR_le (g0 (vI l) (by simp))
  have r_m : -2147483648 ≤ m ∧ m ≤ 2147483647 := inR_le (g0 (vI m) (by simp))
  have r_v : -2147483648 ≤ v ∧ v ≤ 2147483647 := inR_le (g0 (vI v) (by simp))
  have r_z : -2147483648 ≤ z ∧ z ≤ 2147483647 := inR_le (g0 (vI z) (by simp))
  refine r_aload_n hC dX6_burst_0 rfl ?_
  refine r_iload_n hC dX6_burst_1 rfl ?_
  refine z_inv1 hM dX6_burst_2 vl_RX6_124 rfl rfl rfl (Nat.le_of_ble_eq_true rfl) (Nat.le_of_ble_eq_true rfl) ?_
  refine y_isLane (V := V) ht ⟨hR.1, hR.2.1, hR.2.2⟩ (fun h1 => ?_) (fun h1 => ?_)
  · unfold opV at h1
    refine r_if_eq (tgt := 32) hC dX6_burst_5 rfl (fun h2 => by omega) (fun h2 => ?_)
    have h6 := hG.1.h7 (l := l) (by first | assumption | decide | exact xs_ (by decide) | exact xc_ (by decide) | exact x31_ (by decide) | omega) (by first | assumption | decide | exact xs_ (by decide) | exact xc_ (by decide) | exact x31_ (by decide) | omega)
    have h10 := hG.2.1.2.1 l (by first | assumption | decide | exact xs_ (by decide) | exact xc_ (by decide) | exact x31_ (by decide) | omega) (by first | assumption | decide | exact xs_ (by decide) | exact xc_ (by decide) | exact x31_ (by decide) | omega)
    have hlk := hG.2.1.2.2.2.2.2.1 l (by first | assumption | decide | exact xs_ (by decide) | exact xc_ (by decide) | exact x31_ (by decide) | omega) (by first | assumption | decide | exact xs_ (by decide) | exact xc_ (by decide) | exact x31_ (by decide) | omega)
    unfold opV at hlk
    have hk13 : -1 ≤ V 13 l 0 ∧ V 13 l 0 ≤ 3 := by omega
    have hkn := hG.1.2.2.2 l (by first | assumption | decide | exact xs_ (by decide) | exact xc_ (by decide) | exact x31_ (by decide) | omega) (by first | assumption | decide | exact xs_ (by decide) | exact xc_ (by decide) | exact x31_ (by decide) | omega)
    have ew : -40 ≤ m → m ≤ 41 → wr (V 7 l 10 + m) = V 7 l 10 + m := fun a b => wr_id ⟨by omega, by omega⟩
    have ecm1 := Int.mul_comm z (m - 1)
    refine r_iload_n hC dX6_burst_8 rfl ?_
    refine r_iconst hC dX6_burst_9 rfl ?_
    refine r_bipush hC dX6_burst_10 rfl ?_
    refine z_ins3 hM dX6_burst_12 tl_RX6_76 rfl (Nat.le_of_ble_eq_true rfl) (Nat.le_of_ble_eq_true rfl) ?_
    refine m_isIn (fun h4 => ?_) (fun h4 => ?_)
    · refine r_if_eq (tgt := 32) hC dX6_burst_15 rfl (fun h5 => by omega) (fun h5 => ?_)
      refine r_iload hC dX6_burst_18 rfl ?_
      refine r_sipush hC dX6_burst_20 rfl ?_
      refine r_sipush hC dX6_burst_23 rfl ?_
      refine z_ins3 hM dX6_burst_26 tl_RX6_76 rfl (Nat.le_of_ble_eq_true rfl) (Nat.le_of_ble_eq_true rfl) ?_
      refine m_isIn (fun h7 => ?_) (fun h7 => ?_)
      · refine r_if_ne (tgt := 34) hC dX6_burst_29 rfl (fun h8 => ?_) (fun h8 => by omega)
        refine r_iload_n hC dX6_burst_34 rfl ?_
        refine r_sipush hC dX6_burst_35 rfl ?_
        refine r_sipush hC dX6_burst_38 rfl ?_
        refine z_ins3 hM dX6_burst_41 tl_RX6_76 rfl (Nat.le_of_ble_eq_true rfl) (Nat.le_of_ble_eq_true rfl) ?_
        refine m_isIn (fun h10 => ?_) (fun h10 => ?_)
        · refine r_if_eq (tgt := 81) hC dX6_burst_44 rfl (fun h11 => by omega) (fun h11 => ?_)
          refine r_iload_n hC dX6_burst_47 rfl ?_
          refine r_iload hC dX6_burst_48 rfl ?_
          refine r_iload_n hC dX6_burst_50 rfl ?_
          refine r_iconst hC dX6_burst_51 rfl ?_
          refine r_isubE hC ((m - 1)) dX6_burst_52 (by first | assumption | decide | exact xs_ (by decide) | exact xc_ (by decide) | exact x31_ (by decide) | omega) (by unfold inR; omega) ?_
          have m12 := mul_bd2 (a := (m - 1)) (b := z) (A := 39) (B := 1000) (by first | assumption | decide | exact xs_ (by decide) | exact xc_ (by decide) | exact x31_ (by decide) | omega) (by first | assumption | decide | exact xs_ (by decide) | exact xc_ (by decide) | exact x31_ (by decide) | omega) (by first | assumption | decide | exact xs_ (by decide) | exact xc_ (by decide) | exact x31_ (by decide) | omega) (by first | assumption | decide | exact xs_ (by decide) | exact xc_ (by decide) | exact x31_ (by decide) | omega)
          refine r_imulE hC ((z * (m - 1))) dX6_burst_53 (by first | assumption | decide | exact xs_ (by decide) | exact xc_ (by decide) | exact x31_ (by decide) | omega) (by unfold inR; omega) ?_
          refine r_iaddE hC ((v + (z * (m - 1)))) dX6_burst_54 (by first | assumption | decide | exact xs_ (by decide) | exact xc_ (by decide) | exact x31_ (by decide) | omega) (by unfold inR; omega) ?_
          refine r_sipush hC dX6_burst_55 rfl ?_
          refine r_sipush hC dX6_burst_58 rfl ?_
          refine z_ins3 hM dX6_burst_61 tl_RX6_76 rfl (Nat.le_of_ble_eq_true rfl) (Nat.le_of_ble_eq_true rfl) ?_
          refine m_isIn (fun h14 => ?_) (fun h14 => ?_)
          · refine r_if_eq (tgt := 81) hC dX6_burst_64 rfl (fun h15 => by omega) (fun h15 => ?_)
            refine r_aload_n hC dX6_burst_67 rfl ?_
            refine r_iload_n hC dX6_burst_68 rfl ?_
            refine r_bipush hC dX6_burst_69 rfl ?_
            refine z_inv2 hM dX6_burst_71 vl_RX6_80 rfl rfl rfl (Nat.le_of_ble_eq_true rfl) (Nat.le_of_ble_eq_true rfl) ?_
            refine y_of (by first | assumption | decide | exact xs_ (by decide) | exact xc_ (by decide) | exact x31_ (by decide) | omega) (by first | assumption | decide | exact xs_ (by decide) | exact xc_ (by decide) | exact x31_ (by decide) | omega) (by first | assumption | decide | exact xs_ (by decide) | exact xc_ (by decide) | exact x31_ (by decide) | omega) (fun o16 => ?_)
            have e17 : σ 31 0 (22 * l + 6) = (V 7 l 10) := (hR.1.a7 (s := 10) (f := 6) (by first | assumption | decide | exact xs_ (by decide) | exact xc_ (by decide) | exact x31_ (by decide) | omega) (by first | assumption | decide | exact xs_ (by decide) | exact xc_ (by decide) | exact x31_ (by decide) | omega) (by first | assumption | decide | exact xs_ (by decide) | exact xc_ (by decide) | exact x31_ (by decide) | omega)).trans (rfl)
            rw [e17] at o16 ⊢
            refine r_iload_n hC dX6_burst_74 rfl ?_
            refine r_iaddE hC (((V 7 l 10) + m)) dX6_burst_75 (by first | assumption | decide | exact xs_ (by decide) | exact xc_ (by decide) | exact x31_ (by decide) | omega) (by unfold inR; omega) ?_
            refine r_ldc hC dX6_burst_76 co_RX6_239 rfl ?_
            refine r_icmp_le (tgt := 83) hC dX6_burst_78 rfl (fun h18 => ?_) (fun h18 => ?_)
            · refine r_aload_n hC dX6_burst_83 rfl ?_
              refine r_iload_n hC dX6_burst_84 rfl ?_
              refine r_iconst hC dX6_burst_85 rfl ?_
              refine z_inv2 hM dX6_burst_86 vl_RX6_80 rfl rfl rfl (Nat.le_of_ble_eq_true rfl) (Nat.le_of_ble_eq_true rfl) ?_
              refine y_of (by first | assumption | decide | exact xs_ (by decide) | exact xc_ (by decide) | exact x31_ (by decide) | omega) (by first | assumption | decide | exact xs_ (by decide) | exact xc_ (by decide) | exact x31_ (by decide) | omega) (by first | assumption | decide | exact xs_ (by decide) | exact xc_ (by decide) | exact x31_ (by decide) | omega) (fun o19 => ?_)
              have e20 : σ 31 0 (22 * l + 2) = (V 7 l 3) := (hR.1.a7 (s := 3) (f := 2) (by first | assumption | decide | exact xs_ (by decide) | exact xc_ (by decide) | exact x31_ (by decide) | omega) (by first | assumption | decide | exact xs_ (by decide) | exact xc_ (by decide) | exact x31_ (by decide) | omega) (by first | assumption | decide | exact xs_ (by decide) | exact xc_ (by decide) | exact x31_ (by decide) | omega)).trans (rfl)
              rw [e20] at o19 ⊢
              refine r_iconst hC dX6_burst_89 rfl ?_
              refine r_icmp_eq (tgt := 107) hC dX6_burst_90 rfl (fun h21 => ?_) (fun h21 => ?_)
              · refine r_aload_n hC dX6_burst_107 rfl ?_
                refine r_iload_n hC dX6_burst_108 rfl ?_
                refine r_bipush hC dX6_burst_109 rfl ?_
                refine z_inv2 hM dX6_burst_111 vl_RX6_80 rfl rfl rfl (Nat.le_of_ble_eq_true rfl) (Nat.le_of_ble_eq_true rfl) ?_
                refine y_of (by first | assumption | decide | exact xs_ (by decide) | exact xc_ (by decide) | exact x31_ (by decide) | omega) (by first | assumption | decide | exact xs_ (by decide) | exact xc_ (by decide) | exact x31_ (by decide) | omega) (by first | assumption | decide | exact xs_ (by decide) | exact xc_ (by decide) | exact x31_ (by decide) | omega) (fun o22 => ?_)
                have e23 : σ 31 0 (22 * l + 6) = (V 7 l 10) := (hR.1.a7 (s := 10) (f := 6) (by first | assumption | decide | exact xs_ (by decide) | exact xc_ (by decide) | exact x31_ (by decide) | omega) (by first | assumption | decide | exact xs_ (by decide) | exact xc_ (by decide) | exact x31_ (by decide) | omega) (by first | assumption | decide | exact xs_ (by decide) | exact xc_ (by decide) | exact x31_ (by decide) | omega)).trans (rfl)
                rw [e23] at o22 ⊢
                refine r_iconst hC dX6_burst_114 rfl ?_
                refine r_iaddE hC (((V 7 l 10) + 1)) dX6_burst_115 (by first | assumption | decide | exact xs_ (by decide) | exact xc_ (by decide) | exact x31_ (by decide) | omega) (by unfold inR; omega) ?_
                refine r_istore hC dX6_burst_116 rfl ?_
                refine r_iconst hC dX6_burst_118 rfl ?_
                refine r_istore hC dX6_burst_119 rfl ?_
                have L121 : ∀ (n121 : Nat) (w24 : Int) (ρ25 W25 : Mm), 0 ≤ w24 ∧ w24 ≤ 40 → ((w24) ≤ m) → 40 - w24 < (n121 : Int) → (RS t σ0 W25 ρ25) → (CI W25) → (GJ W25) → (bst l z (m - (w24)).toNat (v + (w24) * z) W25 = bst l z m.toNat v V) → (W25 7 l 10 = V 7 l 10 + (w24)) → (W25 7 l 3 = V 7 l 3) → (V 7 l 3 ≠ 1 → W25 7 l 6 + m - (w24) ≤ 120) → (W25 13 l 0 = V 13 l 0) → (∀ x : Int, 0 ≤ x → x ≤ 3 → x ≠ l → x ≠ V 13 l 0 → W25 7 x 6 = V 7 x 6 ∧ W25 7 x 15 = V 7 x 15) → K 121 [some (vR 30 0), some (vI l), some (vI m), some (vI v), some (vI z), some (vI ((V 7 l 10) + 1)), some (vI w24)] [] ρ25 := by
                  intro n121
                  induction n121 with
                  | zero => intro w24 ρ25 W25 f_w24 i0_121 hm  m0_121 m1_121 m2_121 m3_121 m4_121 m5_121 m6_121 m7_121 m8_121; omega
                  | succ n121 ih121 =>
                    intro w24 ρ25 W25 f_w24 i0_121 hm121  m0_121 m1_121 m2_121 m3_121 m4_121 m5_121 m6_121 m7_121 m8_121
                    refine r_iload hC dX6_burst_121 rfl ?_
                    refine r_iload_n hC dX6_burst_123 rfl ?_
                    refine r_icmp_ge (tgt := 160) hC dX6_burst_124 rfl (fun h26 => ?_) (fun h26 => ?_)
                    · refine r_aload_n hC dX6_burst_160 rfl ?_
                      refine r_iload_n hC dX6_burst_161 rfl ?_
                      refine z_inv1 hM dX6_burst_162 vl_RX6_259 rfl rfl rfl (Nat.le_of_ble_eq_true rfl) (Nat.le_of_ble_eq_true rfl) ?_
                      have e13 := m7_121
                      have hms : ∀ x : Int, 0 ≤ x → x ≤ 3 → x ≠ l → x ≠ V 13 l 0 → W25 7 x 6 ≤ W25 7 x 15 := fun x a b c d => by
                        rw [(m8_121 x a b c d).1, (m8_121 x a b c d).2]
                        exact hG.2.2 x a (by first | assumption | decide | exact xs_ (by decide) | exact xc_ (by decide) | exact x31_ (by decide) | omega)
                      refine y_behindCall (V := W25) (by first | assumption | decide | exact xs_ (by decide) | exact xc_ (by decide) | exact x31_ (by decide) | omega) ht ⟨m0_121.1, m0_121.2.1, m0_121.2.2⟩ (by rw [e13]; omega) (by rw [e13]; omega) (fun x a b c d => hms x a b c (by rw [e13] at d; exact d)) (fun ρ27 Rρ27 => ?_)
                      refine y_iret hK rfl dX6_burst_165 ?_
                      have hM : buM V l m v z = (ntM W25) := by
                        have e0 : bst l z m.toNat v V = W25 := by
                          rw [← m3_121, show (m - w24).toNat = 0 from by omega]
                          rfl
                        unfold buM
                        rw [if_pos ⟨by omega, by omega, by omega, by omega, by omega, by rw [ew (by first | assumption | decide | exact xs_ (by decide) | exact xc_ (by decide) | exact x31_ (by decide) | omega) (by first | assumption | decide | exact xs_ (by decide) | exact xc_ (by decide) | exact x31_ (by decide) | omega)]; omega, by omega⟩, e0]
                      have hRr : buR V l m v z = (W25 7 l 6) := by
                        unfold buR
                        rw [if_pos ⟨by omega, by omega, by omega, by omega, by omega, by rw [ew (by first | assumption | decide | exact xs_ (by decide) | exact xc_ (by decide) | exact x31_ (by decide) | omega) (by first | assumption | decide | exact xs_ (by decide) | exact xc_ (by decide) | exact x31_ (by decide) | omega)]; omega, by omega⟩, hM]
                        exact ntM_ne (by first | assumption | decide | exact xs_ (by decide) | exact xc_ (by decide) | exact x31_ (by decide) | omega)
                      rw [hM] at k
                      rw [hRr] at k
                      exact k _ ⟨Rρ27.1, Rρ27.2.1, Rρ27.2.2⟩
                    · have hW10 := m4_121
                      have hW3 := m5_121
                      have hW6 := m1_121.h7 (l := l) (by first | assumption | decide | exact xs_ (by decide) | exact xc_ (by decide) | exact x31_ (by decide) | omega) (by first | assumption | decide | exact xs_ (by decide) | exact xc_ (by decide) | exact x31_ (by decide) | omega)
                      have ecm := Int.mul_comm z w24
                      have lb := lin_btw (v := v) (s := z) (i := w24) (m := (m - 1)) (by first | assumption | decide | exact xs_ (by decide) | exact xc_ (by decide) | exact x31_ (by decide) | omega) (by first | assumption | decide | exact xs_ (by decide) | exact xc_ (by decide) | exact x31_ (by decide) | omega) (by first | assumption | decide | exact xs_ (by decide) | exact xc_ (by decide) | exact x31_ (by decide) | omega) (by have := Int.mul_comm z (m - 1); omega)
                      have et_ : wr (W25 7 l 10 + 1) = (((V 7 l 10) + 1) + w24) := by rw [m4_121, wr_id ⟨by omega, by omega⟩]; omega
                      refine r_aload_n hC dX6_burst_127 rfl ?_
                      refine r_iload_n hC dX6_burst_128 rfl ?_
                      refine r_iload hC dX6_burst_129 rfl ?_
                      refine r_iload hC dX6_burst_131 rfl ?_
                      refine r_iaddE hC ((((V 7 l 10) + 1) + w24)) dX6_burst_133 (by first | assumption | decide | exact xs_ (by decide) | exact xc_ (by decide) | exact x31_ (by decide) | omega) (by unfold inR; omega) ?_
                      refine z_inv2 hM dX6_burst_134 vl_RX6_256 rfl rfl rfl (Nat.le_of_ble_eq_true rfl) (Nat.le_of_ble_eq_true rfl) ?_
                      refine y_give (V := W25) (by first | assumption | decide | exact xs_ (by decide) | exact xc_ (by decide) | exact x31_ (by decide) | omega) (by first | assumption | decide | exact xs_ (by decide) | exact xc_ (by decide) | exact x31_ (by decide) | omega) ht ⟨m0_121.1, m0_121.2.1, m0_121.2.2⟩ m1_121 m2_121 (fun ρ28 Rρ28 => ?_)
                      refine r_aload_n hC dX6_burst_137 rfl ?_
                      refine r_iload_n hC dX6_burst_138 rfl ?_
                      refine r_iload hC dX6_burst_139 rfl ?_
                      refine r_iload hC dX6_burst_141 rfl ?_
                      refine r_iaddE hC ((((V 7 l 10) + 1) + w24)) dX6_burst_143 (by first | assumption | decide | exact xs_ (by decide) | exact xc_ (by decide) | exact x31_ (by decide) | omega) (by unfold inR; omega) ?_
                      refine r_iload_n hC dX6_burst_144 rfl ?_
                      refine r_iload hC dX6_burst_145 rfl ?_
                      refine r_iload hC dX6_burst_147 rfl ?_
                      have m29 := mul_bd2 (a := w24) (b := z) (A := 39) (B := 1000) (by first | assumption | decide | exact xs_ (by decide) | exact xc_ (by decide) | exact x31_ (by decide) | omega) (by first | assumption | decide | exact xs_ (by decide) | exact xc_ (by decide) | exact x31_ (by decide) | omega) (by first | assumption | decide | exact xs_ (by decide) | exact xc_ (by decide) | exact x31_ (by decide) | omega) (by first | assumption | decide | exact xs_ (by decide) | exact xc_ (by decide) | exact x31_ (by decide) | omega)
                      refine r_imulE hC ((z * w24)) dX6_burst_149 (by first | assumption | decide | exact xs_ (by decide) | exact xc_ (by decide) | exact x31_ (by decide) | omega) (by unfold inR; omega) ?_
                      refine r_iaddE hC ((v + (z * w24))) dX6_burst_150 (by first | assumption | decide | exact xs_ (by decide) | exact xc_ (by decide) | exact x31_ (by decide) | omega) (by unfold inR; omega) ?_
                      refine z_inv3 hM dX6_burst_151 vl_RX6_253 rfl rfl rfl (Nat.le_of_ble_eq_true rfl) (Nat.le_of_ble_eq_true rfl) ?_
                      -- a value between
                      have u3_151 : (gvM W25 l (((V 7 l 10) + 1) + w24)) 7 l 3 = (W25 7 l 3) := ((gv_7 m1_121 (by first | assumption | decide | exact xs_ (by decide) | exact xc_ (by decide) | exact x31_ (by decide) | omega) (by first | assumption | decide | exact xs_ (by decide) | exact xc_ (by decide) | exact x31_ (by decide) | omega)).trans (rfl))
                      have u6_151 : (gvM W25 l (((V 7 l 10) + 1) + w24)) 7 l 6 = (W25 7 l 6) := ((gv_7 m1_121 (by first | assumption | decide | exact xs_ (by decide) | exact xc_ (by decide) | exact x31_ (by decide) | omega) (by first | assumption | decide | exact xs_ (by decide) | exact xc_ (by decide) | exact x31_ (by decide) | omega)).trans (rfl))
                      have nf_151 : ¬ fuV (gvM W25 l (((V 7 l 10) + 1) + w24)) l := by unfold fuV; omega
                      have c_151 : CI (gvM W25 l (((V 7 l 10) + 1) + w24)) := (CI.gv m1_121)
                      have j_151 : GJ (gvM W25 l (((V 7 l 10) + 1) + w24)) := (GJ.gv m2_121 m1_121 (by first | assumption | decide | exact xs_ (by decide) | exact xc_ (by decide) | exact x31_ (by decide) | omega) (by first | assumption | decide | exact xs_ (by decide) | exact xc_ (by decide) | exact x31_ (by decide) | omega))
                      refine y_enter (V := (gvM W25 l (((V 7 l 10) + 1) + w24))) (l := l) (z := (((V 7 l 10) + 1) + w24)) (v := (v + (z * w24))) (by first | assumption | decide | exact xs_ (by decide) | exact xc_ (by decide) | exact x31_ (by decide) | omega) (by first | assumption | decide | exact xs_ (by decide) | exact xc_ (by decide) | exact x31_ (by decide) | omega) (by first | assumption | decide | exact xs_ (by decide) | exact xc_ (by decide) | exact x31_ (by decide) | omega) ht ⟨Rρ28.1, Rρ28.2.1, Rρ28.2.2⟩ (by first | assumption | decide | exact xs_ (by decide) | exact xc_ (by decide) | exact x31_ (by decide) | omega) (j_151.lk c_151 (by first | assumption | decide | exact xs_ (by decide) | exact xc_ (by decide) | exact x31_ (by decide) | omega) (by first | assumption | decide | exact xs_ (by decide) | exact xc_ (by decide) | exact x31_ (by decide) | omega)) (c_151.2.1 l (by first | assumption | decide | exact xs_ (by decide) | exact xc_ (by decide) | exact x31_ (by decide) | omega) (by first | assumption | decide | exact xs_ (by decide) | exact xc_ (by decide) | exact x31_ (by decide) | omega)) (j_151.1 l (by first | assumption | decide | exact xs_ (by decide) | exact xc_ (by decide) | exact x31_ (by decide) | omega) (by first | assumption | decide | exact xs_ (by decide) | exact xc_ (by decide) | exact x31_ (by decide) | omega)) (c_151.h7 (by first | assumption | decide | exact xs_ (by decide) | exact xc_ (by decide) | exact x31_ (by decide) | omega) (by first | assumption | decide | exact xs_ (by decide) | exact xc_ (by decide) | exact x31_ (by decide) | omega)).2 (fun q => by have := c_151.size (i := l) (by first | assumption | decide | exact xs_ (by decide) | exact xc_ (by decide) | exact x31_ (by decide) | omega) (by first | assumption | decide | exact xs_ (by decide) | exact xc_ (by decide) | exact x31_ (by decide) | omega) q; omega) (fun ρ30 Rρ30 => ?_)
                      refine r_iincE hC ((w24 + 1)) dX6_burst_154 rfl rfl (by first | assumption | decide | exact xs_ (by decide) | exact xc_ (by decide) | exact x31_ (by decide) | omega) (by unfold inR; omega) ?_
                      refine r_goto (tgt := 121) hC dX6_burst_157 rfl ?_
                      exact ih121 ((w24 + 1)) ρ30 (plM (gvM W25 l (((V 7 l 10) + 1) + w24)) l (((V 7 l 10) + 1) + w24) (v + (z * w24))) (by first | assumption | decide | exact xs_ (by decide) | exact xc_ (by decide) | exact x31_ (by decide) | omega) (by first | assumption | decide | exact xs_ (by decide) | exact xc_ (by decide) | exact x31_ (by decide) | omega) (by first | assumption | decide | exact xs_ (by decide) | exact xc_ (by decide) | exact x31_ (by decide) | omega)  (⟨Rρ30.1, Rρ30.2.1, Rρ30.2.2⟩) ((CI.pl c_151 (by first | assumption | decide | exact xs_ (by decide) | exact xc_ (by decide) | exact x31_ (by decide) | omega) (by first | assumption | decide | exact xs_ (by decide) | exact xc_ (by decide) | exact x31_ (by decide) | omega) nf_151)) ((GJ.pl j_151 (by first | assumption | decide | exact xs_ (by decide) | exact xc_ (by decide) | exact x31_ (by decide) | omega) (by first | assumption | decide | exact xs_ (by decide) | exact xc_ (by decide) | exact x31_ (by decide) | omega) (c_151.h7 (by first | assumption | decide | exact xs_ (by decide) | exact xc_ (by decide) | exact x31_ (by decide) | omega) (by first | assumption | decide | exact xs_ (by decide) | exact xc_ (by decide) | exact x31_ (by decide) | omega)) (by first | assumption | decide | exact xs_ (by decide) | exact xc_ (by decide) | exact x31_ (by decide) | omega) (by first | assumption | decide | exact xs_ (by decide) | exact xc_ (by decide) | exact x31_ (by decide) | omega))) (by have q := m3_121; rw [show (m - w24).toNat = (m - (w24 + 1)).toNat + 1 from by omega, bst_s, et_] at q; rw [show v + (w24 + 1) * z = v + w24 * z + z from by rw [Int.add_mul]; omega, show v + z * w24 = v + w24 * z from by rw [Int.mul_comm]]; exact q) (by rw [pl_10, gv_7 m1_121 (by first | assumption | decide | exact xs_ (by decide) | exact xc_ (by decide) | exact x31_ (by decide) | omega) (by first | assumption | decide | exact xs_ (by decide) | exact xc_ (by decide) | exact x31_ (by decide) | omega)]; omega) ((plM_nx (by unfold PS; omega)).trans ((gv_7 m1_121 (by first | assumption | decide | exact xs_ (by decide) | exact xc_ (by decide) | exact x31_ (by decide) | omega) (by first | assumption | decide | exact xs_ (by decide) | exact xc_ (by decide) | exact x31_ (by decide) | omega)).trans m5_121)) (fun q => by have hp := pl_6 (CI.gv m1_121 (i := l) (t := (((V 7 l 10) + 1) + w24))) (i := l) (t := (((V 7 l 10) + 1) + w24)) (v := (v + (z * w24))) (by first | assumption | decide | exact xs_ (by decide) | exact xc_ (by decide) | exact x31_ (by decide) | omega) (by first | assumption | decide | exact xs_ (by decide) | exact xc_ (by decide) | exact x31_ (by decide) | omega); rw [gv_7 m1_121 (by first | assumption | decide | exact xs_ (by decide) | exact xc_ (by decide) | exact x31_ (by decide) | omega) (by first | assumption | decide | exact xs_ (by decide) | exact xc_ (by decide) | exact x31_ (by decide) | omega)] at hp; have := m6_121 q; omega) ((plM_nx (by unfold PS; omega)).trans ((gvM_nx (by unfold PS; omega) (by first | assumption | decide | exact xs_ (by decide) | exact xc_ (by decide) | exact x31_ (by decide) | omega)).trans m7_121)) (fun x a b c d => by rw [plM_nx (by unfold PS; omega), plM_nx (by unfold PS; omega), gvM_nx (by rw [m7_121]; unfold PS; omega) (by first | assumption | decide | exact xs_ (by decide) | exact xc_ (by decide) | exact x31_ (by decide) | omega), gvM_nx (by rw [m7_121]; unfold PS; omega) (by first | assumption | decide | exact xs_ (by decide) | exact xc_ (by decide) | exact x31_ (by decide) | omega)]; exact m8_121 x a b c d)
                exact L121 42 (0) σ V (by first | assumption | decide | exact xs_ (by decide) | exact xc_ (by decide) | exact x31_ (by decide) | omega) (by first | assumption | decide | exact xs_ (by decide) | exact xc_ (by decide) | exact x31_ (by decide) | omega) (by first | assumption | decide | exact xs_ (by decide) | exact xc_ (by decide) | exact x31_ (by decide) | omega)  (⟨hR.1, hR.2.1, hR.2.2⟩) (hG.1) (hG.2.1) (by rw [show (m - 0).toNat = m.toNat from by omega, show v + 0 * z = v from by omega]) (by first | assumption | decide | exact xs_ (by decide) | exact xc_ (by decide) | exact x31_ (by decide) | omega) (rfl) (fun _ => by omega) (rfl) (fun x a b c d => ⟨rfl, rfl⟩)
              · refine r_aload_n hC dX6_burst_93 rfl ?_
                refine r_iload_n hC dX6_burst_94 rfl ?_
                refine z_inv1 hM dX6_burst_95 vl_RX6_116 rfl rfl rfl (Nat.le_of_ble_eq_true rfl) (Nat.le_of_ble_eq_true rfl) ?_
                refine y_heldOf (by first | assumption | decide | exact xs_ (by decide) | exact xc_ (by decide) | exact x31_ (by decide) | omega) (fun o31 => ?_)
                have e32 : σ 31 0 (22 * l + 5) = (V 7 l 6) := (hR.1.a7 (s := 6) (f := 5) (by first | assumption | decide | exact xs_ (by decide) | exact xc_ (by decide) | exact x31_ (by decide) | omega) (by first | assumption | decide | exact xs_ (by decide) | exact xc_ (by decide) | exact x31_ (by decide) | omega) (by first | assumption | decide | exact xs_ (by decide) | exact xc_ (by decide) | exact x31_ (by decide) | omega)).trans (rfl)
                rw [e32] at o31 ⊢
                have qo31 : 0 ≤ (V 7 l 6) ∧ (V 7 l 6) ≤ 121 := o31.1 (by first | assumption | decide | exact xs_ (by decide) | exact xc_ (by decide) | exact x31_ (by decide) | omega)
                refine r_iload_n hC dX6_burst_98 rfl ?_
                refine r_iaddE hC (((V 7 l 6) + m)) dX6_burst_99 (by first | assumption | decide | exact xs_ (by decide) | exact xc_ (by decide) | exact x31_ (by decide) | omega) (by unfold inR; omega) ?_
                refine r_bipush hC dX6_burst_100 rfl ?_
                refine r_icmp_le (tgt := 107) hC dX6_burst_102 rfl (fun h33 => ?_) (fun h33 => ?_)
                · refine r_aload_n hC dX6_burst_107 rfl ?_
                  refine r_iload_n hC dX6_burst_108 rfl ?_
                  refine r_bipush hC dX6_burst_109 rfl ?_
                  refine z_inv2 hM dX6_burst_111 vl_RX6_80 rfl rfl rfl (Nat.le_of_ble_eq_true rfl) (Nat.le_of_ble_eq_true rfl) ?_
                  refine y_of (by first | assumption | decide | exact xs_ (by decide) | exact xc_ (by decide) | exact x31_ (by decide) | omega) (by first | assumption | decide | exact xs_ (by decide) | exact xc_ (by decide) | exact x31_ (by decide) | omega) (by first | assumption | decide | exact xs_ (by decide) | exact xc_ (by decide) | exact x31_ (by decide) | omega) (fun o34 => ?_)
                  have e35 : σ 31 0 (22 * l + 6) = (V 7 l 10) := (hR.1.a7 (s := 10) (f := 6) (by first | assumption | decide | exact xs_ (by decide) | exact xc_ (by decide) | exact x31_ (by decide) | omega) (by first | assumption | decide | exact xs_ (by decide) | exact xc_ (by decide) | exact x31_ (by decide) | omega) (by first | assumption | decide | exact xs_ (by decide) | exact xc_ (by decide) | exact x31_ (by decide) | omega)).trans (rfl)
                  rw [e35] at o34 ⊢
                  refine r_iconst hC dX6_burst_114 rfl ?_
                  refine r_iaddE hC (((V 7 l 10) + 1)) dX6_burst_115 (by first | assumption | decide | exact xs_ (by decide) | exact xc_ (by decide) | exact x31_ (by decide) | omega) (by unfold inR; omega) ?_
                  refine r_istore hC dX6_burst_116 rfl ?_
                  refine r_iconst hC dX6_burst_118 rfl ?_
                  refine r_istore hC dX6_burst_119 rfl ?_
                  have L121 : ∀ (n121 : Nat) (w36 : Int) (ρ37 W37 : Mm), 0 ≤ w36 ∧ w36 ≤ 40 → ((w36) ≤ m) → 40 - w36 < (n121 : Int) → (RS t σ0 W37 ρ37) → (CI W37) → (GJ W37) → (bst l z (m - (w36)).toNat (v + (w36) * z) W37 = bst l z m.toNat v V) → (W37 7 l 10 = V 7 l 10 + (w36)) → (W37 7 l 3 = V 7 l 3) → (V 7 l 3 ≠ 1 → W37 7 l 6 + m - (w36) ≤ 120) → (W37 13 l 0 = V 13 l 0) → (∀ x : Int, 0 ≤ x → x ≤ 3 → x ≠ l → x ≠ V 13 l 0 → W37 7 x 6 = V 7 x 6 ∧ W37 7 x 15 = V 7 x 15) → K 121 [some (vR 30 0), some (vI l), some (vI m), some (vI v), some (vI z), some (vI ((V 7 l 10) + 1)), some (vI w36)] [] ρ37 := by
                    intro n121
                    induction n121 with
                    | zero => intro w36 ρ37 W37 f_w36 i0_121 hm  m0_121 m1_121 m2_121 m3_121 m4_121 m5_121 m6_121 m7_121 m8_121; omega
                    | succ n121 ih121 =>
                      intro w36 ρ37 W37 f_w36 i0_121 hm121  m0_121 m1_121 m2_121 m3_121 m4_121 m5_121 m6_121 m7_121 m8_121
                      refine r_iload hC dX6_burst_121 rfl ?_
                      refine r_iload_n hC dX6_burst_123 rfl ?_
                      refine r_icmp_ge (tgt := 160) hC dX6_burst_124 rfl (fun h38 => ?_) (fun h38 => ?_)
                      · refine r_aload_n hC dX6_burst_160 rfl ?_
                        refine r_iload_n hC dX6_burst_161 rfl ?_
                        refine z_inv1 hM dX6_burst_162 vl_RX6_259 rfl rfl rfl (Nat.le_of_ble_eq_true rfl) (Nat.le_of_ble_eq_true rfl) ?_
                        have e13 := m7_121
                        have hms : ∀ x : Int, 0 ≤ x → x ≤ 3 → x ≠ l → x ≠ V 13 l 0 → W37 7 x 6 ≤ W37 7 x 15 := fun x a b c d => by
                          rw [(m8_121 x a b c d).1, (m8_121 x a b c d).2]
                          exact hG.2.2 x a (by first | assumption | decide | exact xs_ (by decide) | exact xc_ (by decide) | exact x31_ (by decide) | omega)
                        refine y_behindCall (V := W37) (by first | assumption | decide | exact xs_ (by decide) | exact xc_ (by decide) | exact x31_ (by decide) | omega) ht ⟨m0_121.1, m0_121.2.1, m0_121.2.2⟩ (by rw [e13]; omega) (by rw [e13]; omega) (fun x a b c d => hms x a b c (by rw [e13] at d; exact d)) (fun ρ39 Rρ39 => ?_)
                        refine y_iret hK rfl dX6_burst_165 ?_
                        have hM : buM V l m v z = (ntM W37) := by
                          have e0 : bst l z m.toNat v V = W37 := by
                            rw [← m3_121, show (m - w36).toNat = 0 from by omega]
                            rfl
                          unfold buM
                          rw [if_pos ⟨by omega, by omega, by omega, by omega, by omega, by rw [ew (by first | assumption | decide | exact xs_ (by decide) | exact xc_ (by decide) | exact x31_ (by decide) | omega) (by first | assumption | decide | exact xs_ (by decide) | exact xc_ (by decide) | exact x31_ (by decide) | omega)]; omega, by omega⟩, e0]
                        have hRr : buR V l m v z = (W37 7 l 6) := by
                          unfold buR
                          rw [if_pos ⟨by omega, by omega, by omega, by omega, by omega, by rw [ew (by first | assumption | decide | exact xs_ (by decide) | exact xc_ (by decide) | exact x31_ (by decide) | omega) (by first | assumption | decide | exact xs_ (by decide) | exact xc_ (by decide) | exact x31_ (by decide) | omega)]; omega, by omega⟩, hM]
                          exact ntM_ne (by first | assumption | decide | exact xs_ (by decide) | exact xc_ (by decide) | exact x31_ (by decide) | omega)
                        rw [hM] at k
                        rw [hRr] at k
                        exact k _ ⟨Rρ39.1, Rρ39.2.1, Rρ39.2.2⟩
                      · have hW10 := m4_121
                        have hW3 := m5_121
                        have hW6 := m1_121.h7 (l := l) (by first | assumption | decide | exact xs_ (by decide) | exact xc_ (by decide) | exact x31_ (by decide) | omega) (by first | assumption | decide | exact xs_ (by decide) | exact xc_ (by decide) | exact x31_ (by decide) | omega)
                        have ecm := Int.mul_comm z w36
                        have lb := lin_btw (v := v) (s := z) (i := w36) (m := (m - 1)) (by first | assumption | decide | exact xs_ (by decide) | exact xc_ (by decide) | exact x31_ (by decide) | omega) (by first | assumption | decide | exact xs_ (by decide) | exact xc_ (by decide) | exact x31_ (by decide) | omega) (by first | assumption | decide | exact xs_ (by decide) | exact xc_ (by decide) | exact x31_ (by decide) | omega) (by have := Int.mul_comm z (m - 1); omega)
                        have et_ : wr (W37 7 l 10 + 1) = (((V 7 l 10) + 1) + w36) := by rw [m4_121, wr_id ⟨by omega, by omega⟩]; omega
                        refine r_aload_n hC dX6_burst_127 rfl ?_
                        refine r_iload_n hC dX6_burst_128 rfl ?_
                        refine r_iload hC dX6_burst_129 rfl ?_
                        refine r_iload hC dX6_burst_131 rfl ?_
                        refine r_iaddE hC ((((V 7 l 10) + 1) + w36)) dX6_burst_133 (by first | assumption | decide | exact xs_ (by decide) | exact xc_ (by decide) | exact x31_ (by decide) | omega) (by unfold inR; omega) ?_
                        refine z_inv2 hM dX6_burst_134 vl_RX6_256 rfl rfl rfl (Nat.le_of_ble_eq_true rfl) (Nat.le_of_ble_eq_true rfl) ?_
                        refine y_give (V := W37) (by first | assumption | decide | exact xs_ (by decide) | exact xc_ (by decide) | exact x31_ (by decide) | omega) (by first | assumption | decide | exact xs_ (by decide) | exact xc_ (by decide) | exact x31_ (by decide) | omega) ht ⟨m0_121.1, m0_121.2.1, m0_121.2.2⟩ m1_121 m2_121 (fun ρ40 Rρ40 => ?_)
                        refine r_aload_n hC dX6_burst_137 rfl ?_
                        refine r_iload_n hC dX6_burst_138 rfl ?_
                        refine r_iload hC dX6_burst_139 rfl ?_
                        refine r_iload hC dX6_burst_141 rfl ?_
                        refine r_iaddE hC ((((V 7 l 10) + 1) + w36)) dX6_burst_143 (by first | assumption | decide | exact xs_ (by decide) | exact xc_ (by decide) | exact x31_ (by decide) | omega) (by unfold inR; omega) ?_
                        refine r_iload_n hC dX6_burst_144 rfl ?_
                        refine r_iload hC dX6_burst_145 rfl ?_
                        refine r_iload hC dX6_burst_147 rfl ?_
                        have m41 := mul_bd2 (a := w36) (b := z) (A := 39) (B := 1000) (by first | assumption | decide | exact xs_ (by decide) | exact xc_ (by decide) | exact x31_ (by decide) | omega) (by first | assumption | decide | exact xs_ (by decide) | exact xc_ (by decide) | exact x31_ (by decide) | omega) (by first | assumption | decide | exact xs_ (by decide) | exact xc_ (by decide) | exact x31_ (by decide) | omega) (by first | assumption | decide | exact xs_ (by decide) | exact xc_ (by decide) | exact x31_ (by decide) | omega)
                        refine r_imulE hC ((z * w36)) dX6_burst_149 (by first | assumption | decide | exact xs_ (by decide) | exact xc_ (by decide) | exact x31_ (by decide) | omega) (by unfold inR; omega) ?_
                        refine r_iaddE hC ((v + (z * w36))) dX6_burst_150 (by first | assumption | decide | exact xs_ (by decide) | exact xc_ (by decide) | exact x31_ (by decide) | omega) (by unfold inR; omega) ?_
                        refine z_inv3 hM dX6_burst_151 vl_RX6_253 rfl rfl rfl (Nat.le_of_ble_eq_true rfl) (Nat.le_of_ble_eq_true rfl) ?_
                        -- a value between
                        have u3_151 : (gvM W37 l (((V 7 l 10) + 1) + w36)) 7 l 3 = (W37 7 l 3) := ((gv_7 m1_121 (by first | assumption | decide | exact xs_ (by decide) | exact xc_ (by decide) | exact x31_ (by decide) | omega) (by first | assumption | decide | exact xs_ (by decide) | exact xc_ (by decide) | exact x31_ (by decide) | omega)).trans (rfl))
                        have u6_151 : (gvM W37 l (((V 7 l 10) + 1) + w36)) 7 l 6 = (W37 7 l 6) := ((gv_7 m1_121 (by first | assumption | decide | exact xs_ (by decide) | exact xc_ (by decide) | exact x31_ (by decide) | omega) (by first | assumption | decide | exact xs_ (by decide) | exact xc_ (by decide) | exact x31_ (by decide) | omega)).trans (rfl))
                        have nf_151 : ¬ fuV (gvM W37 l (((V 7 l 10) + 1) + w36)) l := by unfold fuV; omega
                        have c_151 : CI (gvM W37 l (((V 7 l 10) + 1) + w36)) := (CI.gv m1_121)
                        have j_151 : GJ (gvM W37 l (((V 7 l 10) + 1) + w36)) := (GJ.gv m2_121 m1_121 (by first | assumption | decide | exact xs_ (by decide) | exact xc_ (by decide) | exact x31_ (by decide) | omega) (by first | assumption | decide | exact xs_ (by decide) | exact xc_ (by decide) | exact x31_ (by decide) | omega))
                        refine y_enter (V := (gvM W37 l (((V 7 l 10) + 1) + w36))) (l := l) (z := (((V 7 l 10) + 1) + w36)) (v := (v + (z * w36))) (by first | assumption | decide | exact xs_ (by decide) | exact xc_ (by decide) | exact x31_ (by decide) | omega) (by first | assumption | decide | exact xs_ (by decide) | exact xc_ (by decide) | exact x31_ (by decide) | omega) (by first | assumption | decide | exact xs_ (by decide) | exact xc_ (by decide) | exact x31_ (by decide) | omega) ht ⟨Rρ40.1, Rρ40.2.1, Rρ40.2.2⟩ (by first | assumption | decide | exact xs_ (by decide) | exact xc_ (by decide) | exact x31_ (by decide) | omega) (j_151.lk c_151 (by first | assumption | decide | exact xs_ (by decide) | exact xc_ (by decide) | exact x31_ (by decide) | omega) (by first | assumption | decide | exact xs_ (by decide) | exact xc_ (by decide) | exact x31_ (by decide) | omega)) (c_151.2.1 l (by first | assumption | decide | exact xs_ (by decide) | exact xc_ (by decide) | exact x31_ (by decide) | omega) (by first | assumption | decide | exact xs_ (by decide) | exact xc_ (by decide) | exact x31_ (by decide) | omega)) (j_151.1 l (by first | assumption | decide | exact xs_ (by decide) | exact xc_ (by decide) | exact x31_ (by decide) | omega) (by first | assumption | decide | exact xs_ (by decide) | exact xc_ (by decide) | exact x31_ (by decide) | omega)) (c_151.h7 (by first | assumption | decide | exact xs_ (by decide) | exact xc_ (by decide) | exact x31_ (by decide) | omega) (by first | assumption | decide | exact xs_ (by decide) | exact xc_ (by decide) | exact x31_ (by decide) | omega)).2 (fun q => by have := c_151.size (i := l) (by first | assumption | decide | exact xs_ (by decide) | exact xc_ (by decide) | exact x31_ (by decide) | omega) (by first | assumption | decide | exact xs_ (by decide) | exact xc_ (by decide) | exact x31_ (by decide) | omega) q; omega) (fun ρ42 Rρ42 => ?_)
                        refine r_iincE hC ((w36 + 1)) dX6_burst_154 rfl rfl (by first | assumption | decide | exact xs_ (by decide) | exact xc_ (by decide) | exact x31_ (by decide) | omega) (by unfold inR; omega) ?_
                        refine r_goto (tgt := 121) hC dX6_burst_157 rfl ?_
                        exact ih121 ((w36 + 1)) ρ42 (plM (gvM W37 l (((V 7 l 10) + 1) + w36)) l (((V 7 l 10) + 1) + w36) (v + (z * w36))) (by first | assumption | decide | exact xs_ (by decide) | exact xc_ (by decide) | exact x31_ (by decide) | omega) (by first | assumption | decide | exact xs_ (by decide) | exact xc_ (by decide) | exact x31_ (by decide) | omega) (by first | assumption | decide | exact xs_ (by decide) | exact xc_ (by decide) | exact x31_ (by decide) | omega)  (⟨Rρ42.1, Rρ42.2.1, Rρ42.2.2⟩) ((CI.pl c_151 (by first | assumption | decide | exact xs_ (by decide) | exact xc_ (by decide) | exact x31_ (by decide) | omega) (by first | assumption | decide | exact xs_ (by decide) | exact xc_ (by decide) | exact x31_ (by decide) | omega) nf_151)) ((GJ.pl j_151 (by first | assumption | decide | exact xs_ (by decide) | exact xc_ (by decide) | exact x31_ (by decide) | omega) (by first | assumption | decide | exact xs_ (by decide) | exact xc_ (by decide) | exact x31_ (by decide) | omega) (c_151.h7 (by first | assumption | decide | exact xs_ (by decide) | exact xc_ (by decide) | exact x31_ (by decide) | omega) (by first | assumption | decide | exact xs_ (by decide) | exact xc_ (by decide) | exact x31_ (by decide) | omega)) (by first | assumption | decide | exact xs_ (by decide) | exact xc_ (by decide) | exact x31_ (by decide) | omega) (by first | assumption | decide | exact xs_ (by decide) | exact xc_ (by decide) | exact x31_ (by decide) | omega))) (by have q := m3_121; rw [show (m - w36).toNat = (m - (w36 + 1)).toNat + 1 from by omega, bst_s, et_] at q; rw [show v + (w36 + 1) * z = v + w36 * z + z from by rw [Int.add_mul]; omega, show v + z * w36 = v + w36 * z from by rw [Int.mul_comm]]; exact q) (by rw [pl_10, gv_7 m1_121 (by first | assumption | decide | exact xs_ (by decide) | exact xc_ (by decide) | exact x31_ (by decide) | omega) (by first | assumption | decide | exact xs_ (by decide) | exact xc_ (by decide) | exact x31_ (by decide) | omega)]; omega) ((plM_nx (by unfold PS; omega)).trans ((gv_7 m1_121 (by first | assumption | decide | exact xs_ (by decide) | exact xc_ (by decide) | exact x31_ (by decide) | omega) (by first | assumption | decide | exact xs_ (by decide) | exact xc_ (by decide) | exact x31_ (by decide) | omega)).trans m5_121)) (fun q => by have hp := pl_6 (CI.gv m1_121 (i := l) (t := (((V 7 l 10) + 1) + w36))) (i := l) (t := (((V 7 l 10) + 1) + w36)) (v := (v + (z * w36))) (by first | assumption | decide | exact xs_ (by decide) | exact xc_ (by decide) | exact x31_ (by decide) | omega) (by first | assumption | decide | exact xs_ (by decide) | exact xc_ (by decide) | exact x31_ (by decide) | omega); rw [gv_7 m1_121 (by first | assumption | decide | exact xs_ (by decide) | exact xc_ (by decide) | exact x31_ (by decide) | omega) (by first | assumption | decide | exact xs_ (by decide) | exact xc_ (by decide) | exact x31_ (by decide) | omega)] at hp; have := m6_121 q; omega) ((plM_nx (by unfold PS; omega)).trans ((gvM_nx (by unfold PS; omega) (by first | assumption | decide | exact xs_ (by decide) | exact xc_ (by decide) | exact x31_ (by decide) | omega)).trans m7_121)) (fun x a b c d => by rw [plM_nx (by unfold PS; omega), plM_nx (by unfold PS; omega), gvM_nx (by rw [m7_121]; unfold PS; omega) (by first | assumption | decide | exact xs_ (by decide) | exact xc_ (by decide) | exact x31_ (by decide) | omega), gvM_nx (by rw [m7_121]; unfold PS; omega) (by first | assumption | decide | exact xs_ (by decide) | exact xc_ (by decide) | exact x31_ (by decide) | omega)]; exact m8_121 x a b c d)
                  exact L121 42 (0) σ V (by first | assumption | decide | exact xs_ (by decide) | exact xc_ (by decide) | exact x31_ (by decide) | omega) (by first | assumption | decide | exact xs_ (by decide) | exact xc_ (by decide) | exact x31_ (by decide) | omega) (by first | assumption | decide | exact xs_ (by decide) | exact xc_ (by decide) | exact x31_ (by decide) | omega)  (⟨hR.1, hR.2.1, hR.2.2⟩) (hG.1) (hG.2.1) (by rw [show (m - 0).toNat = m.toNat from by omega, show v + 0 * z = v from by omega]) (by first | assumption | decide | exact xs_ (by decide) | exact xc_ (by decide) | exact x31_ (by decide) | omega) (rfl) (fun _ => by omega) (rfl) (fun x a b c d => ⟨rfl, rfl⟩)
                · refine r_iconst hC dX6_burst_105 rfl ?_
                  refine y_iret hK rfl dX6_burst_106 ?_
                  have hM : buM V l m v z = V := by
                    exact if_neg (by intro q; have q2 := q.2.1; have q3 := q.2.2.1; have q4 := q.2.2.2.1; have q5 := q.2.2.2.2.1; have q6 := q.2.2.2.2.2.1; have q7 := q.2.2.2.2.2.2; have q1 := q.1; first | omega | (rw [ew (by first | assumption | decide | exact xs_ (by decide) | exact xc_ (by decide) | exact x31_ (by decide) | omega) (by first | assumption | decide | exact xs_ (by decide) | exact xc_ (by decide) | exact x31_ (by decide) | omega)] at q6; omega))
                  have hRr : buR V l m v z = (-1) := by
                    exact if_neg (by intro q; have q2 := q.2.1; have q3 := q.2.2.1; have q4 := q.2.2.2.1; have q5 := q.2.2.2.2.1; have q6 := q.2.2.2.2.2.1; have q7 := q.2.2.2.2.2.2; have q1 := q.1; first | omega | (rw [ew (by first | assumption | decide | exact xs_ (by decide) | exact xc_ (by decide) | exact x31_ (by decide) | omega) (by first | assumption | decide | exact xs_ (by decide) | exact xc_ (by decide) | exact x31_ (by decide) | omega)] at q6; omega))
                  rw [hM] at k
                  rw [hRr] at k
                  exact k _ ⟨hR.1, hR.2.1, hR.2.2⟩
            · refine r_iconst hC dX6_burst_81 rfl ?_
              refine y_iret hK rfl dX6_burst_82 ?_
              have hM : buM V l m v z = V := by
                exact if_neg (by intro q; have q2 := q.2.1; have q3 := q.2.2.1; have q4 := q.2.2.2.1; have q5 := q.2.2.2.2.1; have q6 := q.2.2.2.2.2.1; have q7 := q.2.2.2.2.2.2; have q1 := q.1; first | omega | (rw [ew (by first | assumption | decide | exact xs_ (by decide) | exact xc_ (by decide) | exact x31_ (by decide) | omega) (by first | assumption | decide | exact xs_ (by decide) | exact xc_ (by decide) | exact x31_ (by decide) | omega)] at q6; omega))
              have hRr : buR V l m v z = (-1) := by
                exact if_neg (by intro q; have q2 := q.2.1; have q3 := q.2.2.1; have q4 := q.2.2.2.1; have q5 := q.2.2.2.2.1; have q6 := q.2.2.2.2.2.1; have q7 := q.2.2.2.2.2.2; have q1 := q.1; first | omega | (rw [ew (by first | assumption | decide | exact xs_ (by decide) | exact xc_ (by decide) | exact x31_ (by decide) | omega) (by first | assumption | decide | exact xs_ (by decide) | exact xc_ (by decide) | exact x31_ (by decide) | omega)] at q6; omega))
              rw [hM] at k
              rw [hRr] at k
              exact k _ ⟨hR.1, hR.2.1, hR.2.2⟩
          · refine r_if_eq (tgt := 81) hC dX6_burst_64 rfl (fun h43 => ?_) (fun h43 => by omega)
            refine r_iconst hC dX6_burst_81 rfl ?_
            refine y_iret hK rfl dX6_burst_82 ?_
            have hM : buM V l m v z = V := by
              exact if_neg (by intro q; have q2 := q.2.1; have q3 := q.2.2.1; have q4 := q.2.2.2.1; have q5 := q.2.2.2.2.1; have q6 := q.2.2.2.2.2.1; have q7 := q.2.2.2.2.2.2; have q1 := q.1; first | omega | (rw [ew (by first | assumption | decide | exact xs_ (by decide) | exact xc_ (by decide) | exact x31_ (by decide) | omega) (by first | assumption | decide | exact xs_ (by decide) | exact xc_ (by decide) | exact x31_ (by decide) | omega)] at q6; omega))
            have hRr : buR V l m v z = (-1) := by
              exact if_neg (by intro q; have q2 := q.2.1; have q3 := q.2.2.1; have q4 := q.2.2.2.1; have q5 := q.2.2.2.2.1; have q6 := q.2.2.2.2.2.1; have q7 := q.2.2.2.2.2.2; have q1 := q.1; first | omega | (rw [ew (by first | assumption | decide | exact xs_ (by decide) | exact xc_ (by decide) | exact x31_ (by decide) | omega) (by first | assumption | decide | exact xs_ (by decide) | exact xc_ (by decide) | exact x31_ (by decide) | omega)] at q6; omega))
            rw [hM] at k
            rw [hRr] at k
            exact k _ ⟨hR.1, hR.2.1, hR.2.2⟩
        · refine r_if_eq (tgt := 81) hC dX6_burst_44 rfl (fun h44 => ?_) (fun h44 => by omega)
          refine r_iconst hC dX6_burst_81 rfl ?_
          refine y_iret hK rfl dX6_burst_82 ?_
          have hM : buM V l m v z = V := by
            exact if_neg (by intro q; have q2 := q.2.1; have q3 := q.2.2.1; have q4 := q.2.2.2.1; have q5 := q.2.2.2.2.1; have q6 := q.2.2.2.2.2.1; have q7 := q.2.2.2.2.2.2; have q1 := q.1; first | omega | (rw [ew (by first | assumption | decide | exact xs_ (by decide) | exact xc_ (by decide) | exact x31_ (by decide) | omega) (by first | assumption | decide | exact xs_ (by decide) | exact xc_ (by decide) | exact x31_ (by decide) | omega)] at q6; omega))
          have hRr : buR V l m v z = (-1) := by
            exact if_neg (by intro q; have q2 := q.2.1; have q3 := q.2.2.1; have q4 := q.2.2.2.1; have q5 := q.2.2.2.2.1; have q6 := q.2.2.2.2.2.1; have q7 := q.2.2.2.2.2.2; have q1 := q.1; first | omega | (rw [ew (by first | assumption | decide | exact xs_ (by decide) | exact xc_ (by decide) | exact x31_ (by decide) | omega) (by first | assumption | decide | exact xs_ (by decide) | exact xc_ (by decide) | exact x31_ (by decide) | omega)] at q6; omega))
          rw [hM] at k
          rw [hRr] at k
          exact k _ ⟨hR.1, hR.2.1, hR.2.2⟩
      · refine r_if_ne (tgt := 34) hC dX6_burst_29 rfl (fun h45 => by omega) (fun h45 => ?_)
        refine r_iconst hC dX6_burst_32 rfl ?_
        refine y_iret hK rfl dX6_burst_33 ?_
        have hM : buM V l m v z = V := by
          exact if_neg (by intro q; have q2 := q.2.1; have q3 := q.2.2.1; have q4 := q.2.2.2.1; have q5 := q.2.2.2.2.1; have q6 := q.2.2.2.2.2.1; have q7 := q.2.2.2.2.2.2; have q1 := q.1; first | omega | (rw [ew (by first | assumption | decide | exact xs_ (by decide) | exact xc_ (by decide) | exact x31_ (by decide) | omega) (by first | assumption | decide | exact xs_ (by decide) | exact xc_ (by decide) | exact x31_ (by decide) | omega)] at q6; omega))
        have hRr : buR V l m v z = (-1) := by
          exact if_neg (by intro q; have q2 := q.2.1; have q3 := q.2.2.1; have q4 := q.2.2.2.1; have q5 := q.2.2.2.2.1; have q6 := q.2.2.2.2.2.1; have q7 := q.2.2.2.2.2.2; have q1 := q.1; first | omega | (rw [ew (by first | assumption | decide | exact xs_ (by decide) | exact xc_ (by decide) | exact x31_ (by decide) | omega) (by first | assumption | decide | exact xs_ (by decide) | exact xc_ (by decide) | exact x31_ (by decide) | omega)] at q6; omega))
        rw [hM] at k
        rw [hRr] at k
        exact k _ ⟨hR.1, hR.2.1, hR.2.2⟩
    · refine r_if_eq (tgt := 32) hC dX6_burst_15 rfl (fun h46 => ?_) (fun h46 => by omega)
      refine r_iconst hC dX6_burst_32 rfl ?_
      refine y_iret hK rfl dX6_burst_33 ?_
      have hM : buM V l m v z = V := by
        exact if_neg (by intro q; have q2 := q.2.1; have q3 := q.2.2.1; have q4 := q.2.2.2.1; have q5 := q.2.2.2.2.1; have q6 := q.2.2.2.2.2.1; have q7 := q.2.2.2.2.2.2; have q1 := q.1; first | omega | (rw [ew (by first | assumption | decide | exact xs_ (by decide) | exact xc_ (by decide) | exact x31_ (by decide) | omega) (by first | assumption | decide | exact xs_ (by decide) | exact xc_ (by decide) | exact x31_ (by decide) | omega)] at q6; omega))
      have hRr : buR V l m v z = (-1) := by
        exact if_neg (by intro q; have q2 := q.2.1; have q3 := q.2.2.1; have q4 := q.2.2.2.1; have q5 := q.2.2.2.2.1; have q6 := q.2.2.2.2.2.1; have q7 := q.2.2.2.2.2.2; have q1 := q.1; first | omega | (rw [ew (by first | assumption | decide | exact xs_ (by decide) | exact xc_ (by decide) | exact x31_ (by decide) | omega) (by first | assumption | decide | exact xs_ (by decide) | exact xc_ (by decide) | exact x31_ (by decide) | omega)] at q6; omega))
      rw [hM] at k
      rw [hRr] at k
      exact k _ ⟨hR.1, hR.2.1, hR.2.2⟩
  · unfold opV at h1
    refine r_if_eq (tgt := 32) hC dX6_burst_5 rfl (fun h47 => ?_) (fun h47 => by omega)
    refine r_iconst hC dX6_burst_32 rfl ?_
    refine y_iret hK rfl dX6_burst_33 ?_
    have hM : buM V l m v z = V := by
      exact if_neg (by intro q; have q2 := q.2.1; have q3 := q.2.2.1; have q4 := q.2.2.2.1; have q5 := q.2.2.2.2.1; have q6 := q.2.2.2.2.2.1; have q7 := q.2.2.2.2.2.2; have q1 := q.1; first | omega | (rw [ew (by first | assumption | decide | exact xs_ (by decide) | exact xc_ (by decide) | exact x31_ (by decide) | omega) (by first | assumption | decide | exact xs_ (by decide) | exact xc_ (by decide) | exact x31_ (by decide) | omega)] at q6; omega))
    have hRr : buR V l m v z = (-1) := by
      exact if_neg (by intro q; have q2 := q.2.1; have q3 := q.2.2.1; have q4 := q.2.2.2.1; have q5 := q.2.2.2.2.1; have q6 := q.2.2.2.2.2.1; have q7 := q.2.2.2.2.2.2; have q1 := q.1; first | omega | (rw [ew (by first | assumption | decide | exact xs_ (by decide) | exact xc_ (by decide) | exact x31_ (by decide) | omega) (by first | assumption | decide | exact xs_ (by decide) | exact xc_ (by decide) | exact x31_ (by decide) | omega)] at q6; omega))
    rw [hM] at k
    rw [hRr] at k
    exact k _ ⟨hR.1, hR.2.1, hR.2.2⟩
theorem y_leave {eb : Bool} {t : Int} {V : Mm} {d : Nat} {P : Option Vl → Mm → Prop} {σ : Mm} {l m : Int}  {σ0 : Mm} (ht : 6 ≤ t ∧ t ≤ 7) (hR : RS t σ0 V σ) (hG : GI V)  (k : ∀ ρ : Mm, RS t σ0 (leM V l m) ρ → P (some (vI (leR V l m))) ρ) : WT (true, eb, true) (d + 9) 207 [vR 30 0, vI l, vI m] σ P := by
  refine WT_in fun K hK => ?_
  have hK : StpY (true, eb, true) cX6_leave RX6 (some .int) (WT (true, eb, true) (d + 8)) P K := hK
  have hM := hK.1
  have hC := hK.1.1
  show K 0 [some (vR 30 0), some (vI l), some (vI m), none] [] σ
  refine r_rngz hC (fun g0 => ?_)
  have r_l : -2147483648 ≤ l ∧ l ≤ 2147483647 := inR_le (g0 (vI l) (by simp))
  have r_m : -2147483648 ≤ m ∧ m ≤ 2147483647 := inR_le (g0 (vI m) (by simp))
  refine r_aload_n hC dX6_leave_0 rfl ?_
  refine r_iload_n hC dX6_leave_1 rfl ?_
  refine z_inv1 hM dX6_leave_2 vl_RX6_124 rfl rfl rfl (Nat.le_of_ble_eq_true rfl) (Nat.le_of_ble_eq_true rfl) ?_
  refine y_isLane (V := V) ht ⟨hR.1, hR.2.1, hR.2.2⟩ (fun h1 => ?_) (fun h1 => ?_)
  · unfold opV at h1
    refine r_if_eq (tgt := 21) hC dX6_leave_5 rfl (fun h2 => by omega) (fun h2 => ?_)
    have h6 := hG.1.h7 (l := l) (by first | assumption | decide | exact xs_ (by decide) | exact xc_ (by decide) | exact x31_ (by decide) | omega) (by first | assumption | decide | exact xs_ (by decide) | exact xc_ (by decide) | exact x31_ (by decide) | omega)
    have h10 := hG.2.1.2.1 l (by first | assumption | decide | exact xs_ (by decide) | exact xc_ (by decide) | exact x31_ (by decide) | omega) (by first | assumption | decide | exact xs_ (by decide) | exact xc_ (by decide) | exact x31_ (by decide) | omega)
    have hlk := hG.2.1.2.2.2.2.2.1 l (by first | assumption | decide | exact xs_ (by decide) | exact xc_ (by decide) | exact x31_ (by decide) | omega) (by first | assumption | decide | exact xs_ (by decide) | exact xc_ (by decide) | exact x31_ (by decide) | omega)
    unfold opV at hlk
    have hk13 : -1 ≤ V 13 l 0 ∧ V 13 l 0 ≤ 3 := by omega
    have hkn := hG.1.2.2.2 l (by first | assumption | decide | exact xs_ (by decide) | exact xc_ (by decide) | exact x31_ (by decide) | omega) (by first | assumption | decide | exact xs_ (by decide) | exact xc_ (by decide) | exact x31_ (by decide) | omega)
    refine r_iload_n hC dX6_leave_8 rfl ?_
    refine r_iconst hC dX6_leave_9 rfl ?_
    refine r_aload_n hC dX6_leave_10 rfl ?_
    refine r_iload_n hC dX6_leave_11 rfl ?_
    refine z_inv1 hM dX6_leave_12 vl_RX6_116 rfl rfl rfl (Nat.le_of_ble_eq_true rfl) (Nat.le_of_ble_eq_true rfl) ?_
    refine y_heldOf (by first | assumption | decide | exact xs_ (by decide) | exact xc_ (by decide) | exact x31_ (by decide) | omega) (fun o3 => ?_)
    have e4 : σ 31 0 (22 * l + 5) = (V 7 l 6) := (hR.1.a7 (s := 6) (f := 5) (by first | assumption | decide | exact xs_ (by decide) | exact xc_ (by decide) | exact x31_ (by decide) | omega) (by first | assumption | decide | exact xs_ (by decide) | exact xc_ (by decide) | exact x31_ (by decide) | omega) (by first | assumption | decide | exact xs_ (by decide) | exact xc_ (by decide) | exact x31_ (by decide) | omega)).trans (rfl)
    rw [e4] at o3 ⊢
    have qo3 : 0 ≤ (V 7 l 6) ∧ (V 7 l 6) ≤ 121 := o3.1 (by first | assumption | decide | exact xs_ (by decide) | exact xc_ (by decide) | exact x31_ (by decide) | omega)
    refine z_ins3 hM dX6_leave_15 tl_RX6_76 rfl (Nat.le_of_ble_eq_true rfl) (Nat.le_of_ble_eq_true rfl) ?_
    refine m_isIn (fun h6 => ?_) (fun h6 => ?_)
    · refine r_if_ne (tgt := 23) hC dX6_leave_18 rfl (fun h7 => ?_) (fun h7 => by omega)
      refine r_iconst hC dX6_leave_23 rfl ?_
      refine r_istore_n hC dX6_leave_24 rfl ?_
      have L25 : ∀ (n25 : Nat) (w8 : Int) (ρ9 W9 : Mm), 0 ≤ w8 ∧ w8 ≤ 121 → ((w8) ≤ m) → 121 - w8 < (n25 : Int) → (RS t σ0 W9 ρ9) → (CI W9) → (GJ W9) → (dpN l (m - (w8)).toNat W9 = dpN l (m).toNat V) → (W9 7 l 6 = V 7 l 6 - (w8)) → K 25 [some (vR 30 0), some (vI l), some (vI m), some (vI w8)] [] ρ9 := by
        intro n25
        induction n25 with
        | zero => intro w8 ρ9 W9 f_w8 i0_25 hm  m0_25 m1_25 m2_25 m3_25 m4_25; omega
        | succ n25 ih25 =>
          intro w8 ρ9 W9 f_w8 i0_25 hm25  m0_25 m1_25 m2_25 m3_25 m4_25
          have hW6 := m4_25
          refine r_iload_n hC dX6_leave_25 rfl ?_
          refine r_iload_n hC dX6_leave_26 rfl ?_
          refine r_icmp_ge (tgt := 41) hC dX6_leave_27 rfl (fun h10 => ?_) (fun h10 => ?_)
          · refine r_aload_n hC dX6_leave_41 rfl ?_
            refine r_iload_n hC dX6_leave_42 rfl ?_
            refine z_inv1 hM dX6_leave_43 vl_RX6_116 rfl rfl rfl (Nat.le_of_ble_eq_true rfl) (Nat.le_of_ble_eq_true rfl) ?_
            refine y_heldOf (by first | assumption | decide | exact xs_ (by decide) | exact xc_ (by decide) | exact x31_ (by decide) | omega) (fun o11 => ?_)
            have e12 : ρ9 31 0 (22 * l + 5) = (W9 7 l 6) := (m0_25.1.a7 (s := 6) (f := 5) (by first | assumption | decide | exact xs_ (by decide) | exact xc_ (by decide) | exact x31_ (by decide) | omega) (by first | assumption | decide | exact xs_ (by decide) | exact xc_ (by decide) | exact x31_ (by decide) | omega) (by first | assumption | decide | exact xs_ (by decide) | exact xc_ (by decide) | exact x31_ (by decide) | omega)).trans (rfl)
            rw [e12] at o11 ⊢
            have qo11 : 0 ≤ (W9 7 l 6) ∧ (W9 7 l 6) ≤ 121 := o11.1 (by first | assumption | decide | exact xs_ (by decide) | exact xc_ (by decide) | exact x31_ (by decide) | omega)
            refine y_iret hK rfl dX6_leave_46 ?_
            have hM : leM V l m = W9 := by
              have e0 : dpN l (m).toNat V = W9 := by
                rw [← m3_25, show (m - w8).toNat = 0 from by omega]
                rfl
              unfold leM
              rw [if_pos (by first | assumption | decide | exact xs_ (by decide) | exact xc_ (by decide) | exact x31_ (by decide) | omega), e0]
            have hRr : leR V l m = (W9 7 l 6) := by
              unfold leR
              rw [if_pos (by first | assumption | decide | exact xs_ (by decide) | exact xc_ (by decide) | exact x31_ (by decide) | omega), hM]
            rw [hM] at k
            rw [hRr] at k
            exact k _ ⟨m0_25.1, m0_25.2.1, m0_25.2.2⟩
          · refine r_aload_n hC dX6_leave_30 rfl ?_
            refine r_iload_n hC dX6_leave_31 rfl ?_
            refine z_inv1 hM dX6_leave_32 vl_RX6_233 rfl rfl rfl (Nat.le_of_ble_eq_true rfl) (Nat.le_of_ble_eq_true rfl) ?_
            have hW1 : 1 ≤ W9 7 l 6 := by omega
            refine y_drop (V := W9) (by first | assumption | decide | exact xs_ (by decide) | exact xc_ (by decide) | exact x31_ (by decide) | omega) ht ⟨m0_25.1, m0_25.2.1, m0_25.2.2⟩ (by first | assumption | decide | exact xs_ (by decide) | exact xc_ (by decide) | exact x31_ (by decide) | omega) (m2_25.lk m1_25 (by first | assumption | decide | exact xs_ (by decide) | exact xc_ (by decide) | exact x31_ (by decide) | omega) (by first | assumption | decide | exact xs_ (by decide) | exact xc_ (by decide) | exact x31_ (by decide) | omega)) (m1_25.2.1 l (by first | assumption | decide | exact xs_ (by decide) | exact xc_ (by decide) | exact x31_ (by decide) | omega) (by first | assumption | decide | exact xs_ (by decide) | exact xc_ (by decide) | exact x31_ (by decide) | omega)) hW1 (fun ρ13 Rρ13 => ?_)
            refine r_iincE hC ((w8 + 1)) dX6_leave_35 rfl rfl (by first | assumption | decide | exact xs_ (by decide) | exact xc_ (by decide) | exact x31_ (by decide) | omega) (by unfold inR; omega) ?_
            refine r_goto (tgt := 25) hC dX6_leave_38 rfl ?_
            exact ih25 ((w8 + 1)) ρ13 (dpM W9 l) (by first | assumption | decide | exact xs_ (by decide) | exact xc_ (by decide) | exact x31_ (by decide) | omega) (by first | assumption | decide | exact xs_ (by decide) | exact xc_ (by decide) | exact x31_ (by decide) | omega) (by first | assumption | decide | exact xs_ (by decide) | exact xc_ (by decide) | exact x31_ (by decide) | omega)  (⟨Rρ13.1, Rρ13.2.1, Rρ13.2.2⟩) ((CI.dp m1_25 (by first | assumption | decide | exact xs_ (by decide) | exact xc_ (by decide) | exact x31_ (by decide) | omega) (by first | assumption | decide | exact xs_ (by decide) | exact xc_ (by decide) | exact x31_ (by decide) | omega) hW1)) ((GJ.dp m2_25 (by first | assumption | decide | exact xs_ (by decide) | exact xc_ (by decide) | exact x31_ (by decide) | omega) (by first | assumption | decide | exact xs_ (by decide) | exact xc_ (by decide) | exact x31_ (by decide) | omega) (by have := m1_25.h7 (l := l) (by first | assumption | decide | exact xs_ (by decide) | exact xc_ (by decide) | exact x31_ (by decide) | omega) (by first | assumption | decide | exact xs_ (by decide) | exact xc_ (by decide) | exact x31_ (by decide) | omega); omega))) (by have q := m3_25; rw [show (m - w8).toNat = (m - (w8 + 1)).toNat + 1 from by omega, dpN_s] at q; exact q) (by rw [dpM_6]; omega)
      exact L25 123 (0) σ V (by first | assumption | decide | exact xs_ (by decide) | exact xc_ (by decide) | exact x31_ (by decide) | omega) (by first | assumption | decide | exact xs_ (by decide) | exact xc_ (by decide) | exact x31_ (by decide) | omega) (by first | assumption | decide | exact xs_ (by decide) | exact xc_ (by decide) | exact x31_ (by decide) | omega)  (⟨hR.1, hR.2.1, hR.2.2⟩) (hG.1) (hG.2.1) (by rw [show (m - 0).toNat = (m).toNat from by omega]) (by first | assumption | decide | exact xs_ (by decide) | exact xc_ (by decide) | exact x31_ (by decide) | omega)
    · refine r_if_ne (tgt := 23) hC dX6_leave_18 rfl (fun h14 => by omega) (fun h14 => ?_)
      refine r_iconst hC dX6_leave_21 rfl ?_
      refine y_iret hK rfl dX6_leave_22 ?_
      have hM : leM V l m = V := by
        exact if_neg (by first | assumption | decide | exact xs_ (by decide) | exact xc_ (by decide) | exact x31_ (by decide) | omega)
      have hRr : leR V l m = (-1) := by
        exact if_neg (by first | assumption | decide | exact xs_ (by decide) | exact xc_ (by decide) | exact x31_ (by decide) | omega)
      rw [hM] at k
      rw [hRr] at k
      exact k _ ⟨hR.1, hR.2.1, hR.2.2⟩
  · unfold opV at h1
    refine r_if_eq (tgt := 21) hC dX6_leave_5 rfl (fun h15 => ?_) (fun h15 => by omega)
    refine r_iconst hC dX6_leave_21 rfl ?_
    refine y_iret hK rfl dX6_leave_22 ?_
    have hM : leM V l m = V := by
      exact if_neg (by first | assumption | decide | exact xs_ (by decide) | exact xc_ (by decide) | exact x31_ (by decide) | omega)
    have hRr : leR V l m = (-1) := by
      exact if_neg (by first | assumption | decide | exact xs_ (by decide) | exact xc_ (by decide) | exact x31_ (by decide) | omega)
    rw [hM] at k
    rw [hRr] at k
    exact k _ ⟨hR.1, hR.2.1, hR.2.2⟩
theorem y_until {eb : Bool} {t : Int} {V : Mm} {d : Nat} {P : Option Vl → Mm → Prop} {σ : Mm} {l z : Int}  {σ0 : Mm} (ht : 6 ≤ t ∧ t ≤ 7) (hR : RS t σ0 V σ) (hG : GI V)  (k : ∀ ρ : Mm, RS t σ0 (unM V l z) ρ → P (some (vI (unR V l z))) ρ) : WT (true, eb, true) (d + 9) 208 [vR 30 0, vI l, vI z] σ P := by
  refine WT_in fun K hK => ?_
  have hK : StpY (true, eb, true) cX6_until RX6 (some .int) (WT (true, eb, true) (d + 8)) P K := hK
  have hM := hK.1
  have hC := hK.1.1
  show K 0 [some (vR 30 0), some (vI l), some (vI z), none, none] [] σ
  refine r_rngz hC (fun g0 => ?_)
  have r_l : -2147483648 ≤ l ∧ l ≤ 2147483647 := inR_le (g0 (vI l) (by simp))
  have r_z : -2147483648 ≤ z ∧ z ≤ 2147483647 := inR_le (g0 (vI z) (by simp))
  refine r_aload_n hC dX6_until_0 rfl ?_
  refine r_iload_n hC dX6_until_1 rfl ?_
  refine z_inv1 hM dX6_until_2 vl_RX6_124 rfl rfl rfl (Nat.le_of_ble_eq_true rfl) (Nat.le_of_ble_eq_true rfl) ?_
  refine y_isLane (V := V) ht ⟨hR.1, hR.2.1, hR.2.2⟩ (fun h1 => ?_) (fun h1 => ?_)
  · unfold opV at h1
    refine r_if_ne (tgt := 10) hC dX6_until_5 rfl (fun h2 => ?_) (fun h2 => by omega)
    have h6 := hG.1.h7 (l := l) (by first | assumption | decide | exact xs_ (by decide) | exact xc_ (by decide) | exact x31_ (by decide) | omega) (by first | assumption | decide | exact xs_ (by decide) | exact xc_ (by decide) | exact x31_ (by decide) | omega)
    have h10 := hG.2.1.2.1 l (by first | assumption | decide | exact xs_ (by decide) | exact xc_ (by decide) | exact x31_ (by decide) | omega) (by first | assumption | decide | exact xs_ (by decide) | exact xc_ (by decide) | exact x31_ (by decide) | omega)
    have hlk := hG.2.1.2.2.2.2.2.1 l (by first | assumption | decide | exact xs_ (by decide) | exact xc_ (by decide) | exact x31_ (by decide) | omega) (by first | assumption | decide | exact xs_ (by decide) | exact xc_ (by decide) | exact x31_ (by decide) | omega)
    unfold opV at hlk
    have hk13 : -1 ≤ V 13 l 0 ∧ V 13 l 0 ≤ 3 := by omega
    have hkn := hG.1.2.2.2 l (by first | assumption | decide | exact xs_ (by decide) | exact xc_ (by decide) | exact x31_ (by decide) | omega) (by first | assumption | decide | exact xs_ (by decide) | exact xc_ (by decide) | exact x31_ (by decide) | omega)
    refine r_aload_n hC dX6_until_10 rfl ?_
    refine r_iload_n hC dX6_until_11 rfl ?_
    refine r_iload_n hC dX6_until_12 rfl ?_
    refine z_inv2 hM dX6_until_13 vl_RX6_224 rfl rfl rfl (Nat.le_of_ble_eq_true rfl) (Nat.le_of_ble_eq_true rfl) ?_
    refine y_placeOf (by first | assumption | decide | exact xs_ (by decide) | exact xc_ (by decide) | exact x31_ (by decide) | omega) ht ⟨hR.1, hR.2.1, hR.2.2⟩ (by first | assumption | decide | exact xs_ (by decide) | exact xc_ (by decide) | exact x31_ (by decide) | omega) (hG.2.1.1 l (by first | assumption | decide | exact xs_ (by decide) | exact xc_ (by decide) | exact x31_ (by decide) | omega) (by first | assumption | decide | exact xs_ (by decide) | exact xc_ (by decide) | exact x31_ (by decide) | omega)) (by first | assumption | decide | exact xs_ (by decide) | exact xc_ (by decide) | exact x31_ (by decide) | omega) (fun h3 => ?_)
    refine r_istore_n hC dX6_until_16 rfl ?_
    refine r_iconst hC dX6_until_17 rfl ?_
    refine r_istore hC dX6_until_18 rfl ?_
    have L20 : ∀ (n20 : Nat) (w4 : Int) (ρ5 W5 : Mm), 0 ≤ w4 ∧ w4 ≤ 121 → ((w4) ≤ hU V l z) → 121 - w4 < (n20 : Int) → (RS t σ0 W5 ρ5) → (CI W5) → (GJ W5) → (dpN l (hU V l z - (w4)).toNat W5 = dpN l (hU V l z).toNat V) → (W5 7 l 6 = V 7 l 6 - (w4)) → K 20 [some (vR 30 0), some (vI l), some (vI z), some (vI (hU V l z)), some (vI w4)] [] ρ5 := by
      intro n20
      induction n20 with
      | zero => intro w4 ρ5 W5 f_w4 i0_20 hm  m0_20 m1_20 m2_20 m3_20 m4_20; omega
      | succ n20 ih20 =>
        intro w4 ρ5 W5 f_w4 i0_20 hm20  m0_20 m1_20 m2_20 m3_20 m4_20
        have hW6 := m4_20
        refine r_iload hC dX6_until_20 rfl ?_
        refine r_iload_n hC dX6_until_22 rfl ?_
        refine r_icmp_ge (tgt := 37) hC dX6_until_23 rfl (fun h6 => ?_) (fun h6 => ?_)
        · refine r_iload_n hC dX6_until_37 rfl ?_
          refine y_iret hK rfl dX6_until_38 ?_
          have hM : unM V l z = W5 := by
            have e0 : dpN l (hU V l z).toNat V = W5 := by
              rw [← m3_20, show (hU V l z - w4).toNat = 0 from by omega]
              rfl
            unfold unM
            rw [if_pos (by first | assumption | decide | exact xs_ (by decide) | exact xc_ (by decide) | exact x31_ (by decide) | omega), e0]
          have hRr : unR V l z = (hU V l z) := by
            unfold unR
            rw [if_pos (by first | assumption | decide | exact xs_ (by decide) | exact xc_ (by decide) | exact x31_ (by decide) | omega)]
          rw [hM] at k
          rw [hRr] at k
          exact k _ ⟨m0_20.1, m0_20.2.1, m0_20.2.2⟩
        · refine r_aload_n hC dX6_until_26 rfl ?_
          refine r_iload_n hC dX6_until_27 rfl ?_
          refine z_inv1 hM dX6_until_28 vl_RX6_233 rfl rfl rfl (Nat.le_of_ble_eq_true rfl) (Nat.le_of_ble_eq_true rfl) ?_
          have hW1 : 1 ≤ W5 7 l 6 := by omega
          refine y_drop (V := W5) (by first | assumption | decide | exact xs_ (by decide) | exact xc_ (by decide) | exact x31_ (by decide) | omega) ht ⟨m0_20.1, m0_20.2.1, m0_20.2.2⟩ (by first | assumption | decide | exact xs_ (by decide) | exact xc_ (by decide) | exact x31_ (by decide) | omega) (m2_20.lk m1_20 (by first | assumption | decide | exact xs_ (by decide) | exact xc_ (by decide) | exact x31_ (by decide) | omega) (by first | assumption | decide | exact xs_ (by decide) | exact xc_ (by decide) | exact x31_ (by decide) | omega)) (m1_20.2.1 l (by first | assumption | decide | exact xs_ (by decide) | exact xc_ (by decide) | exact x31_ (by decide) | omega) (by first | assumption | decide | exact xs_ (by decide) | exact xc_ (by decide) | exact x31_ (by decide) | omega)) hW1 (fun ρ7 Rρ7 => ?_)
          refine r_iincE hC ((w4 + 1)) dX6_until_31 rfl rfl (by first | assumption | decide | exact xs_ (by decide) | exact xc_ (by decide) | exact x31_ (by decide) | omega) (by unfold inR; omega) ?_
          refine r_goto (tgt := 20) hC dX6_until_34 rfl ?_
          exact ih20 ((w4 + 1)) ρ7 (dpM W5 l) (by first | assumption | decide | exact xs_ (by decide) | exact xc_ (by decide) | exact x31_ (by decide) | omega) (by first | assumption | decide | exact xs_ (by decide) | exact xc_ (by decide) | exact x31_ (by decide) | omega) (by first | assumption | decide | exact xs_ (by decide) | exact xc_ (by decide) | exact x31_ (by decide) | omega)  (⟨Rρ7.1, Rρ7.2.1, Rρ7.2.2⟩) ((CI.dp m1_20 (by first | assumption | decide | exact xs_ (by decide) | exact xc_ (by decide) | exact x31_ (by decide) | omega) (by first | assumption | decide | exact xs_ (by decide) | exact xc_ (by decide) | exact x31_ (by decide) | omega) hW1)) ((GJ.dp m2_20 (by first | assumption | decide | exact xs_ (by decide) | exact xc_ (by decide) | exact x31_ (by decide) | omega) (by first | assumption | decide | exact xs_ (by decide) | exact xc_ (by decide) | exact x31_ (by decide) | omega) (by have := m1_20.h7 (l := l) (by first | assumption | decide | exact xs_ (by decide) | exact xc_ (by decide) | exact x31_ (by decide) | omega) (by first | assumption | decide | exact xs_ (by decide) | exact xc_ (by decide) | exact x31_ (by decide) | omega); omega))) (by have q := m3_20; rw [show (hU V l z - w4).toNat = (hU V l z - (w4 + 1)).toNat + 1 from by omega, dpN_s] at q; exact q) (by rw [dpM_6]; omega)
    exact L20 123 (0) σ V (by first | assumption | decide | exact xs_ (by decide) | exact xc_ (by decide) | exact x31_ (by decide) | omega) (by first | assumption | decide | exact xs_ (by decide) | exact xc_ (by decide) | exact x31_ (by decide) | omega) (by first | assumption | decide | exact xs_ (by decide) | exact xc_ (by decide) | exact x31_ (by decide) | omega)  (⟨hR.1, hR.2.1, hR.2.2⟩) (hG.1) (hG.2.1) (by rw [show (hU V l z - 0).toNat = (hU V l z).toNat from by omega]) (by first | assumption | decide | exact xs_ (by decide) | exact xc_ (by decide) | exact x31_ (by decide) | omega)
  · unfold opV at h1
    refine r_if_ne (tgt := 10) hC dX6_until_5 rfl (fun h8 => by omega) (fun h8 => ?_)
    refine r_iconst hC dX6_until_8 rfl ?_
    refine y_iret hK rfl dX6_until_9 ?_
    have hM : unM V l z = V := by
      exact if_neg (by first | assumption | decide | exact xs_ (by decide) | exact xc_ (by decide) | exact x31_ (by decide) | omega)
    have hRr : unR V l z = (-1) := by
      exact if_neg (by first | assumption | decide | exact xs_ (by decide) | exact xc_ (by decide) | exact x31_ (by decide) | omega)
    rw [hM] at k
    rw [hRr] at k
    exact k _ ⟨hR.1, hR.2.1, hR.2.2⟩
theorem y_isEvent {eb : Bool} {t : Int} {V : Mm} {d : Nat} {P : Option Vl → Mm → Prop} {σ : Mm} {l x : Int}  {σ0 : Mm} (ht : 6 ≤ t ∧ t ≤ 7) (hR : RS t σ0 V σ)  (k1 : evC V l x → P (some (vI 1)) σ) (k0 : ¬ evC V l x → P (some (vI 0)) σ) : WT (true, eb, true) (d + 3) 209 [vR 30 0, vI l, vI x] σ P := by
  refine WT_in fun K hK => ?_
  have hK : StpY (true, eb, true) cX6_isEvent RX6 (some .boolean) (WT (true, eb, true) (d + 2)) P K := hK
  have hM := hK.1
  have hC := hK.1.1
  show K 0 [some (vR 30 0), some (vI l), some (vI x)] [] σ
  refine r_rngz hC (fun g0 => ?_)
  have r_l : -2147483648 ≤ l ∧ l ≤ 2147483647 := inR_le (g0 (vI l) (by simp))
  have r_x : -2147483648 ≤ x ∧ x ≤ 2147483647 := inR_le (g0 (vI x) (by simp))
  refine r_aload_n hC dX6_isEvent_0 rfl ?_
  refine r_iload_n hC dX6_isEvent_1 rfl ?_
  refine z_inv1 hM dX6_isEvent_2 vl_RX6_124 rfl rfl rfl (Nat.le_of_ble_eq_true rfl) (Nat.le_of_ble_eq_true rfl) ?_
  refine y_isLane (V := V) ht ⟨hR.1, hR.2.1, hR.2.2⟩ (fun h1 => ?_) (fun h1 => ?_)
  · unfold opV at h1
    refine r_if_eq (tgt := 27) hC dX6_isEvent_5 rfl (fun h2 => by omega) (fun h2 => ?_)
    refine r_iload_n hC dX6_isEvent_8 rfl ?_
    refine r_iconst hC dX6_isEvent_9 rfl ?_
    refine r_aload_n hC dX6_isEvent_10 rfl ?_
    refine r_iload_n hC dX6_isEvent_11 rfl ?_
    refine z_inv1 hM dX6_isEvent_12 vl_RX6_116 rfl rfl rfl (Nat.le_of_ble_eq_true rfl) (Nat.le_of_ble_eq_true rfl) ?_
    refine y_heldOf (by first | assumption | decide | exact xs_ (by decide) | exact xc_ (by decide) | exact x31_ (by decide) | omega) (fun o3 => ?_)
    have e4 : σ 31 0 (22 * l + 5) = (V 7 l 6) := (hR.1.a7 (s := 6) (f := 5) (by first | assumption | decide | exact xs_ (by decide) | exact xc_ (by decide) | exact x31_ (by decide) | omega) (by first | assumption | decide | exact xs_ (by decide) | exact xc_ (by decide) | exact x31_ (by decide) | omega) (by first | assumption | decide | exact xs_ (by decide) | exact xc_ (by decide) | exact x31_ (by decide) | omega)).trans (rfl)
    rw [e4] at o3 ⊢
    have qo3 : 0 ≤ (V 7 l 6) ∧ (V 7 l 6) ≤ 121 := o3.1 (by first | assumption | decide | exact xs_ (by decide) | exact xc_ (by decide) | exact x31_ (by decide) | omega)
    refine r_iconst hC dX6_isEvent_15 rfl ?_
    refine r_isubE hC (((V 7 l 6) - 1)) dX6_isEvent_16 (by first | assumption | decide | exact xs_ (by decide) | exact xc_ (by decide) | exact x31_ (by decide) | omega) (by unfold inR; omega) ?_
    refine z_ins3 hM dX6_isEvent_17 tl_RX6_76 rfl (Nat.le_of_ble_eq_true rfl) (Nat.le_of_ble_eq_true rfl) ?_
    refine m_isIn (fun h6 => ?_) (fun h6 => ?_)
    · refine r_if_eq (tgt := 27) hC dX6_isEvent_20 rfl (fun h7 => by omega) (fun h7 => ?_)
      refine r_iconst hC dX6_isEvent_23 rfl ?_
      refine r_goto (tgt := 28) hC dX6_isEvent_24 rfl ?_
      refine y_zret hK rfl dX6_isEvent_28 (by first | assumption | decide | exact xs_ (by decide) | exact xc_ (by decide) | exact x31_ (by decide) | omega) ?_
      exact k1 (by first | assumption | decide | exact xs_ (by decide) | exact xc_ (by decide) | exact x31_ (by decide) | omega)
    · refine r_if_eq (tgt := 27) hC dX6_isEvent_20 rfl (fun h8 => ?_) (fun h8 => by omega)
      refine r_iconst hC dX6_isEvent_27 rfl ?_
      refine y_zret hK rfl dX6_isEvent_28 (by first | assumption | decide | exact xs_ (by decide) | exact xc_ (by decide) | exact x31_ (by decide) | omega) ?_
      exact k0 (by first | assumption | decide | exact xs_ (by decide) | exact xc_ (by decide) | exact x31_ (by decide) | omega)
  · unfold opV at h1
    refine r_if_eq (tgt := 27) hC dX6_isEvent_5 rfl (fun h9 => ?_) (fun h9 => by omega)
    refine r_iconst hC dX6_isEvent_27 rfl ?_
    refine y_zret hK rfl dX6_isEvent_28 (by first | assumption | decide | exact xs_ (by decide) | exact xc_ (by decide) | exact x31_ (by decide) | omega) ?_
    exact k0 (by first | assumption | decide | exact xs_ (by decide) | exact xc_ (by decide) | exact x31_ (by decide) | omega)
theorem y_take {eb : Bool} {t : Int} {V : Mm} {d : Nat} {P : Option Vl → Mm → Prop} {σ : Mm} {l x : Int}  {σ0 : Mm} (ht : 6 ≤ t ∧ t ≤ 7) (hR : RS t σ0 V σ) (hG : GI V)  (k : ∀ ρ : Mm, RS t σ0 (taM V l x) ρ → P (some (vI (taR V l x))) ρ) : WT (true, eb, true) (d + 8) 210 [vR 30 0, vI l, vI x] σ P := by
  refine WT_in fun K hK => ?_
  have hK : StpY (true, eb, true) cX6_take RX6 (some .int) (WT (true, eb, true) (d + 7)) P K := hK
  have hM := hK.1
  have hC := hK.1.1
  show K 0 [some (vR 30 0), some (vI l), some (vI x), none] [] σ
  refine r_rngz hC (fun g0 => ?_)
  have r_l : -2147483648 ≤ l ∧ l ≤ 2147483647 := inR_le (g0 (vI l) (by simp))
  have r_x : -2147483648 ≤ x ∧ x ≤ 2147483647 := inR_le (g0 (vI x) (by simp))
  refine r_aload_n hC dX6_take_0 rfl ?_
  refine r_iload_n hC dX6_take_1 rfl ?_
  refine r_iload_n hC dX6_take_2 rfl ?_
  refine z_inv2 hM dX6_take_3 vl_RX6_262 rfl rfl rfl (Nat.le_of_ble_eq_true rfl) (Nat.le_of_ble_eq_true rfl) ?_
  refine y_isEvent (V := V) ht ⟨hR.1, hR.2.1, hR.2.2⟩ (fun h1 => ?_) (fun h1 => ?_)
  · have h6 := hG.1.h7 (l := l) (by first | assumption | decide | exact xs_ (by decide) | exact xc_ (by decide) | exact x31_ (by decide) | omega) (by first | assumption | decide | exact xs_ (by decide) | exact xc_ (by decide) | exact x31_ (by decide) | omega)
    refine r_if_ne (tgt := 12) hC dX6_take_6 rfl (fun h2 => ?_) (fun h2 => by omega)
    refine r_aload_n hC dX6_take_12 rfl ?_
    refine z_getR hM dX6_take_13 fl_RX6_16 rfl rfl (vld_of (n := 1) rfl (by first | assumption | decide | exact xs_ (by decide) | exact xc_ (by decide) | exact x31_ (by decide) | omega) (by first | assumption | decide | exact xs_ (by decide) | exact xc_ (by decide) | exact x31_ (by decide) | omega)) ?_
    refine r_bipush hC dX6_take_16 rfl ?_
    refine r_iload_n hC dX6_take_18 rfl ?_
    refine r_imulE hC ((121 * l)) dX6_take_19 (by first | assumption | decide | exact xs_ (by decide) | exact xc_ (by decide) | exact x31_ (by decide) | omega) (by unfold inR; omega) ?_
    refine r_iload_n hC dX6_take_20 rfl ?_
    refine r_iaddE hC (((121 * l) + x)) dX6_take_21 (by first | assumption | decide | exact xs_ (by decide) | exact xc_ (by decide) | exact x31_ (by decide) | omega) (by unfold inR; omega) ?_
    refine z_iald hM dX6_take_22 rfl (by first | assumption | decide | exact xs_ (by decide) | exact xc_ (by decide) | exact x31_ (by decide) | omega) (by first | assumption | decide | exact xs_ (by decide) | exact xc_ (by decide) | exact x31_ (by decide) | omega) (fun v3 h_v3 o_v3 t_v3 => ?_)
    have w_v3 := ((t_v3 (Or.inl trivial)).trans ((show σ 33 0 ((121 * l) + x) = V 9 l x from by rw [show ((121 * l) + x) = 121 * l + x from by omega]; exact hR.1.a9 (y := x) (by first | assumption | decide | exact xs_ (by decide) | exact xc_ (by decide) | exact x31_ (by decide) | omega) (by first | assumption | decide | exact xs_ (by decide) | exact xc_ (by decide) | exact x31_ (by decide) | omega) (by first | assumption | decide | exact xs_ (by decide) | exact xc_ (by decide) | exact x31_ (by decide) | omega) (by first | assumption | decide | exact xs_ (by decide) | exact xc_ (by decide) | exact x31_ (by decide) | omega)).trans (rfl))).symm
    subst w_v3
    refine r_istore_n hC dX6_take_23 rfl ?_
    refine r_aload_n hC dX6_take_24 rfl ?_
    refine r_iload_n hC dX6_take_25 rfl ?_
    refine r_iload_n hC dX6_take_26 rfl ?_
    refine r_iconst hC dX6_take_27 rfl ?_
    refine z_inv3 hM dX6_take_28 vl_RX6_217 rfl rfl rfl (Nat.le_of_ble_eq_true rfl) (Nat.le_of_ble_eq_true rfl) ?_
    have z6_28 : V 7 l 6 = (V 7 l 6) := (rfl)
    refine y_shiftDn (V := V) (by first | assumption | decide | exact xs_ (by decide) | exact xc_ (by decide) | exact x31_ (by decide) | omega) (by first | assumption | decide | exact xs_ (by decide) | exact xc_ (by decide) | exact x31_ (by decide) | omega) ht ⟨hR.1, hR.2.1, hR.2.2⟩ (by first | assumption | decide | exact xs_ (by decide) | exact xc_ (by decide) | exact x31_ (by decide) | omega) (by first | assumption | decide | exact xs_ (by decide) | exact xc_ (by decide) | exact x31_ (by decide) | omega) (by first | assumption | decide | exact xs_ (by decide) | exact xc_ (by decide) | exact x31_ (by decide) | omega) (fun ρ4 Rρ4 => ?_)
    refine r_aload_n hC dX6_take_31 rfl ?_
    refine r_iload_n hC dX6_take_32 rfl ?_
    refine r_iconst hC dX6_take_33 rfl ?_
    refine r_iconst hC dX6_take_34 rfl ?_
    refine z_inv3 hM dX6_take_35 vl_RX6_188 rfl rfl rfl (Nat.le_of_ble_eq_true rfl) (Nat.le_of_ble_eq_true rfl) ?_
    refine y_moreE (a := (V 7 l 6)) (by first | assumption | decide | exact xs_ (by decide) | exact xc_ (by decide) | exact x31_ (by decide) | omega) (by first | assumption | decide | exact xs_ (by decide) | exact xc_ (by decide) | exact x31_ (by decide) | omega) (by first | assumption | decide | exact xs_ (by decide) | exact xc_ (by decide) | exact x31_ (by decide) | omega) ⟨fun h => by omega, by omega⟩ ((Rρ4.1.a7 (s := 6) (f := 5) (by first | assumption | decide | exact xs_ (by decide) | exact xc_ (by decide) | exact x31_ (by decide) | omega) (by first | assumption | decide | exact xs_ (by decide) | exact xc_ (by decide) | exact x31_ (by decide) | omega) (by first | assumption | decide | exact xs_ (by decide) | exact xc_ (by decide) | exact x31_ (by decide) | omega)).trans ((sdM_ne (by first | assumption | decide | exact xs_ (by decide) | exact xc_ (by decide) | exact x31_ (by decide) | omega)).trans (rfl))) (by first | assumption | decide | exact xs_ (by decide) | exact xc_ (by decide) | exact x31_ (by decide) | omega) ?_
    rw [show (V 7 l 6) + (-1) = ((V 7 l 6) - 1) from by omega]
    obtain ⟨ρ5, e_ρ5⟩ : ∃ zz_, zz_ = mu ρ4 31 0 ((22 * l) + 5) ((V 7 l 6) - 1) := ⟨_, rfl⟩
    rw [← e_ρ5]
    have Sρ5 : SB t σ0 (mu (sdM V l x (V 7 l 6 - 1)) 7 l 6 ((V 7 l 6) - 1)) ρ5 := by rw [e_ρ5, show ((22 * l) + 5) = 22 * l + 5 from by omega]; exact Rρ4.1.p7 (by first | assumption | decide | exact xs_ (by decide) | exact xc_ (by decide) | exact x31_ (by decide) | omega) (by first | assumption | decide | exact xs_ (by decide) | exact xc_ (by decide) | exact x31_ (by decide) | omega) (by first | assumption | decide | exact xs_ (by decide) | exact xc_ (by decide) | exact x31_ (by decide) | omega)
    have Kρ5 : KF t (mu (sdM V l x (V 7 l 6 - 1)) 7 l 6 ((V 7 l 6) - 1)) ρ5 := by rw [e_ρ5]; exact (Rρ4.2.1).e (fun l a b => ⟨mu_ne (by first | assumption | decide | exact xs_ (by decide) | exact xc_ (by decide) | exact x31_ (by decide) | omega), mu_ne (by first | assumption | decide | exact xs_ (by decide) | exact xc_ (by decide) | exact x31_ (by decide) | omega)⟩) |>.v (fun l => mu_ne (by first | assumption | decide | exact xs_ (by decide) | exact xc_ (by decide) | exact x31_ (by decide) | omega))
    have Fρ5 : FB (mu (sdM V l x (V 7 l 6 - 1)) 7 l 6 ((V 7 l 6) - 1)) ρ5 := by rw [e_ρ5]; exact (Rρ4.2.2).e (fun l a b => mu_ne (by first | assumption | decide | exact xs_ (by decide) | exact xc_ (by decide) | exact x31_ (by decide) | omega)) |>.v (fun l y a b c => mu_ne (by first | assumption | decide | exact xs_ (by decide) | exact xc_ (by decide) | exact x31_ (by decide) | omega))
    refine r_aload_n hC dX6_take_38 rfl ?_
    refine r_iload_n hC dX6_take_39 rfl ?_
    refine z_inv1 hM dX6_take_40 vl_RX6_227 rfl rfl rfl (Nat.le_of_ble_eq_true rfl) (Nat.le_of_ble_eq_true rfl) ?_
    have hRm : (mu (sdM V l x (V 7 l 6 - 1)) 7 l 6 ((V 7 l 6) - 1)) = remM V l x := rem_sd.symm
    have tS := Sρ5
    have tK := Kρ5
    have tF := Fρ5
    rw [hRm] at tS tK tF
    refine y_layAnew (V := remM V l x) (by first | assumption | decide | exact xs_ (by decide) | exact xc_ (by decide) | exact x31_ (by decide) | omega) ht ⟨tS, tK, tF⟩ (by first | assumption | decide | exact xs_ (by decide) | exact xc_ (by decide) | exact x31_ (by decide) | omega) (LK_rem (hG.2.1.lk hG.1 (by first | assumption | decide | exact xs_ (by decide) | exact xc_ (by decide) | exact x31_ (by decide) | omega) (by first | assumption | decide | exact xs_ (by decide) | exact xc_ (by decide) | exact x31_ (by decide) | omega)) (by first | assumption | decide | exact xs_ (by decide) | exact xc_ (by decide) | exact x31_ (by decide) | omega)) (fun ρ6 Rρ6 => ?_)
    rw [remM_6] at Rρ6
    refine r_iload_n hC dX6_take_43 rfl ?_
    refine y_iret hK rfl dX6_take_44 ?_
    have hM : taM V l x = (rgM (lyM (remM V l x) l (V 7 l 6 - 1)) l) := by
      exact if_pos (by first | assumption | decide | exact xs_ (by decide) | exact xc_ (by decide) | exact x31_ (by decide) | omega)
    have hRr : taR V l x = (V 9 l x) := by
      exact if_pos (by first | assumption | decide | exact xs_ (by decide) | exact xc_ (by decide) | exact x31_ (by decide) | omega)
    rw [hM] at k
    rw [hRr] at k
    exact k _ ⟨Rρ6.1, Rρ6.2.1, Rρ6.2.2⟩
  · refine r_if_ne (tgt := 12) hC dX6_take_6 rfl (fun h7 => by omega) (fun h7 => ?_)
    refine r_ldc hC dX6_take_9 co_RX6_160 rfl ?_
    refine y_iret hK rfl dX6_take_11 ?_
    have hM : taM V l x = V := by
      exact if_neg (by first | assumption | decide | exact xs_ (by decide) | exact xc_ (by decide) | exact x31_ (by decide) | omega)
    have hRr : taR V l x = (-2147483648) := by
      exact if_neg (by first | assumption | decide | exact xs_ (by decide) | exact xc_ (by decide) | exact x31_ (by decide) | omega)
    rw [hM] at k
    rw [hRr] at k
    exact k _ ⟨hR.1, hR.2.1, hR.2.2⟩
theorem y_alter {eb : Bool} {t : Int} {V : Mm} {d : Nat} {P : Option Vl → Mm → Prop} {σ : Mm} {l x v : Int}  {σ0 : Mm} (ht : 6 ≤ t ∧ t ≤ 7) (hR : RS t σ0 V σ) (hG : GI V)  (k : ∀ ρ : Mm, RS t σ0 (alM V l x v) ρ → P (some (vI (alR V l x v))) ρ) : WT (true, eb, true) (d + 8) 211 [vR 30 0, vI l, vI x, vI v] σ P := by
  refine WT_in fun K hK => ?_
  have hK : StpY (true, eb, true) cX6_alter RX6 (some .boolean) (WT (true, eb, true) (d + 7)) P K := hK
  have hM := hK.1
  have hC := hK.1.1
  show K 0 [some (vR 30 0), some (vI l), some (vI x), some (vI v)] [] σ
  refine r_rngz hC (fun g0 => ?_)
  have r_l : -2147483648 ≤ l ∧ l ≤ 2147483647 := inR_le (g0 (vI l) (by simp))
  have r_x : -2147483648 ≤ x ∧ x ≤ 2147483647 := inR_le (g0 (vI x) (by simp))
  have r_v : -2147483648 ≤ v ∧ v ≤ 2147483647 := inR_le (g0 (vI v) (by simp))
  refine r_aload_n hC dX6_alter_0 rfl ?_
  refine r_iload_n hC dX6_alter_1 rfl ?_
  refine r_iload_n hC dX6_alter_2 rfl ?_
  refine z_inv2 hM dX6_alter_3 vl_RX6_262 rfl rfl rfl (Nat.le_of_ble_eq_true rfl) (Nat.le_of_ble_eq_true rfl) ?_
  refine y_isEvent (V := V) ht ⟨hR.1, hR.2.1, hR.2.2⟩ (fun h1 => ?_) (fun h1 => ?_)
  · have h6 := hG.1.h7 (l := l) (by first | assumption | decide | exact xs_ (by decide) | exact xc_ (by decide) | exact x31_ (by decide) | omega) (by first | assumption | decide | exact xs_ (by decide) | exact xc_ (by decide) | exact x31_ (by decide) | omega)
    refine r_if_eq (tgt := 22) hC dX6_alter_6 rfl (fun h2 => by omega) (fun h2 => ?_)
    refine r_iload_n hC dX6_alter_9 rfl ?_
    refine r_sipush hC dX6_alter_10 rfl ?_
    refine r_sipush hC dX6_alter_13 rfl ?_
    refine z_ins3 hM dX6_alter_16 tl_RX6_76 rfl (Nat.le_of_ble_eq_true rfl) (Nat.le_of_ble_eq_true rfl) ?_
    refine m_isIn (fun h4 => ?_) (fun h4 => ?_)
    · refine r_if_ne (tgt := 24) hC dX6_alter_19 rfl (fun h5 => ?_) (fun h5 => by omega)
      refine r_aload_n hC dX6_alter_24 rfl ?_
      refine z_getR hM dX6_alter_25 fl_RX6_16 rfl rfl (vld_of (n := 1) rfl (by first | assumption | decide | exact xs_ (by decide) | exact xc_ (by decide) | exact x31_ (by decide) | omega) (by first | assumption | decide | exact xs_ (by decide) | exact xc_ (by decide) | exact x31_ (by decide) | omega)) ?_
      refine r_bipush hC dX6_alter_28 rfl ?_
      refine r_iload_n hC dX6_alter_30 rfl ?_
      refine r_imulE hC ((121 * l)) dX6_alter_31 (by first | assumption | decide | exact xs_ (by decide) | exact xc_ (by decide) | exact x31_ (by decide) | omega) (by unfold inR; omega) ?_
      refine r_iload_n hC dX6_alter_32 rfl ?_
      refine r_iaddE hC (((121 * l) + x)) dX6_alter_33 (by first | assumption | decide | exact xs_ (by decide) | exact xc_ (by decide) | exact x31_ (by decide) | omega) (by unfold inR; omega) ?_
      refine r_iload_n hC dX6_alter_34 rfl ?_
      refine z_iastT hM dX6_alter_35 rfl (by first | assumption | decide | exact xs_ (by decide) | exact xc_ (by decide) | exact x31_ (by decide) | omega) (by first | assumption | decide | exact xs_ (by decide) | exact xc_ (by decide) | exact x31_ (by decide) | omega) ⟨Or.inr (by simp [DL]), Or.inr (by simp [DF])⟩ (by first | trivial | (simp only [Okv]; omega) | (simp [Okv]; try omega)) ?_
      obtain ⟨ρ6, e_ρ6⟩ : ∃ zz_, zz_ = mu σ 33 0 ((121 * l) + x) v := ⟨_, rfl⟩
      rw [← e_ρ6]
      have Sρ6 : SB t σ0 (mu V 9 l x v) ρ6 := by rw [e_ρ6, show ((121 * l) + x) = 121 * l + x from by omega]; exact hR.1.p9 (by first | assumption | decide | exact xs_ (by decide) | exact xc_ (by decide) | exact x31_ (by decide) | omega) (by first | assumption | decide | exact xs_ (by decide) | exact xc_ (by decide) | exact x31_ (by decide) | omega) (by first | assumption | decide | exact xs_ (by decide) | exact xc_ (by decide) | exact x31_ (by decide) | omega) (by first | assumption | decide | exact xs_ (by decide) | exact xc_ (by decide) | exact x31_ (by decide) | omega)
      have Kρ6 : KF t (mu V 9 l x v) ρ6 := by rw [e_ρ6]; exact (hR.2.1).e (fun l a b => ⟨mu_ne (by first | assumption | decide | exact xs_ (by decide) | exact xc_ (by decide) | exact x31_ (by decide) | omega), mu_ne (by first | assumption | decide | exact xs_ (by decide) | exact xc_ (by decide) | exact x31_ (by decide) | omega)⟩) |>.v (fun l => mu_ne (by first | assumption | decide | exact xs_ (by decide) | exact xc_ (by decide) | exact x31_ (by decide) | omega))
      have Fρ6 : FB (mu V 9 l x v) ρ6 := by rw [e_ρ6]; exact (hR.2.2).e (fun l a b => mu_ne (by first | assumption | decide | exact xs_ (by decide) | exact xc_ (by decide) | exact x31_ (by decide) | omega)) |>.v (fun l y a b c => mu_ne (by first | assumption | decide | exact xs_ (by decide) | exact xc_ (by decide) | exact x31_ (by decide) | omega))
      refine r_aload_n hC dX6_alter_36 rfl ?_
      refine r_iload_n hC dX6_alter_37 rfl ?_
      refine z_inv1 hM dX6_alter_38 vl_RX6_227 rfl rfl rfl (Nat.le_of_ble_eq_true rfl) (Nat.le_of_ble_eq_true rfl) ?_
      have h6m : (mu V 9 l x v) 7 l 6 = V 7 l 6 := mu_ne (by first | assumption | decide | exact xs_ (by decide) | exact xc_ (by decide) | exact x31_ (by decide) | omega)
      refine y_layAnew (V := (mu V 9 l x v)) (by first | assumption | decide | exact xs_ (by decide) | exact xc_ (by decide) | exact x31_ (by decide) | omega) ht ⟨Sρ6, Kρ6, Fρ6⟩ (by first | assumption | decide | exact xs_ (by decide) | exact xc_ (by decide) | exact x31_ (by decide) | omega) (LK_6 (hG.2.1.lk hG.1 (by first | assumption | decide | exact xs_ (by decide) | exact xc_ (by decide) | exact x31_ (by decide) | omega) (by first | assumption | decide | exact xs_ (by decide) | exact xc_ (by decide) | exact x31_ (by decide) | omega)) (by first | assumption | decide | exact xs_ (by decide) | exact xc_ (by decide) | exact x31_ (by decide) | omega) (fun j a b => by
        by_cases e : j = x
        · subst e; rw [mu_self]; omega
        · rw [mu_ne (by first | assumption | decide | exact xs_ (by decide) | exact xc_ (by decide) | exact x31_ (by decide) | omega)]; exact (hG.2.1.2.2.1 l j (by first | assumption | decide | exact xs_ (by decide) | exact xc_ (by decide) | exact x31_ (by decide) | omega) (by first | assumption | decide | exact xs_ (by decide) | exact xc_ (by decide) | exact x31_ (by decide) | omega) a b).2) (fun c2 x2 y2 h => mu_ne (by first | assumption | decide | exact xs_ (by decide) | exact xc_ (by decide) | exact x31_ (by decide) | omega))) (fun ρ7 Rρ7 => ?_)
      rw [h6m] at Rρ7
      refine r_iconst hC dX6_alter_41 rfl ?_
      refine y_zret hK rfl dX6_alter_42 (by first | assumption | decide | exact xs_ (by decide) | exact xc_ (by decide) | exact x31_ (by decide) | omega) ?_
      have hM : alM V l x v = (rgM (lyM (mu V 9 l x v) l (V 7 l 6)) l) := by
        exact if_pos (by first | assumption | decide | exact xs_ (by decide) | exact xc_ (by decide) | exact x31_ (by decide) | omega)
      have hRr : alR V l x v = 1 := by
        exact if_pos (by first | assumption | decide | exact xs_ (by decide) | exact xc_ (by decide) | exact x31_ (by decide) | omega)
      rw [hM] at k
      rw [hRr] at k
      exact k _ ⟨Rρ7.1, Rρ7.2.1, Rρ7.2.2⟩
    · refine r_if_ne (tgt := 24) hC dX6_alter_19 rfl (fun h8 => by omega) (fun h8 => ?_)
      refine r_iconst hC dX6_alter_22 rfl ?_
      refine y_zret hK rfl dX6_alter_23 (by first | assumption | decide | exact xs_ (by decide) | exact xc_ (by decide) | exact x31_ (by decide) | omega) ?_
      have hM : alM V l x v = V := by
        exact if_neg (by first | assumption | decide | exact xs_ (by decide) | exact xc_ (by decide) | exact x31_ (by decide) | omega)
      have hRr : alR V l x v = 0 := by
        exact if_neg (by first | assumption | decide | exact xs_ (by decide) | exact xc_ (by decide) | exact x31_ (by decide) | omega)
      rw [hM] at k
      rw [hRr] at k
      exact k _ ⟨hR.1, hR.2.1, hR.2.2⟩
  · refine r_if_eq (tgt := 22) hC dX6_alter_6 rfl (fun h9 => ?_) (fun h9 => by omega)
    refine r_iconst hC dX6_alter_22 rfl ?_
    refine y_zret hK rfl dX6_alter_23 (by first | assumption | decide | exact xs_ (by decide) | exact xc_ (by decide) | exact x31_ (by decide) | omega) ?_
    have hM : alM V l x v = V := by
      exact if_neg (by first | assumption | decide | exact xs_ (by decide) | exact xc_ (by decide) | exact x31_ (by decide) | omega)
    have hRr : alR V l x v = 0 := by
      exact if_neg (by first | assumption | decide | exact xs_ (by decide) | exact xc_ (by decide) | exact x31_ (by decide) | omega)
    rw [hM] at k
    rw [hRr] at k
    exact k _ ⟨hR.1, hR.2.1, hR.2.2⟩
-- B: ties ended as the reference ends them
def etC (V : Mm) (l n : Int) : Mm := fun c x y => if c = 13 ∧ (0 ≤ x ∧ x ≤ 3) ∧ y = 0 ∧ (x = l ∨ (x < n ∧ V 13 x 0 = l)) then -1 else V c x y
theorem etC_0 {V : Mm} {l : Int} (h0 : 0 ≤ l) (h1 : l ≤ 3) : mu V 13 l 0 (-1) = etC V l 0 := by
  funext c x y
  by_cases e : c = 13 ∧ x = l ∧ y = 0
  · obtain ⟨rfl, rfl, rfl⟩ := e
    rw [mu_self]
    exact (if_pos ⟨rfl, ⟨h0, h1⟩, rfl, Or.inl rfl⟩).symm
  · rw [mu_ne e]
    exact (if_neg (by omega)).symm
theorem etC_4 {V : Mm} {l : Int} : etC V l 4 = etB V l 4 := by
  funext c x y
  unfold etC etB
  by_cases e : c = 13 ∧ (0 ≤ x ∧ x ≤ 3) ∧ y = 0 ∧ (x = l ∨ (x < 4 ∧ V 13 x 0 = l))
  · rw [if_pos e, if_pos (by omega)]
  · rw [if_neg e, if_neg (by omega)]
theorem etC_no {V : Mm} {l n : Int} (h : etC V l n 13 n 0 ≠ l) : etC V l (n + 1) = etC V l n := by
  funext c x y
  unfold etC
  by_cases e : c = 13 ∧ (0 ≤ x ∧ x ≤ 3) ∧ y = 0 ∧ (x = l ∨ (x < n ∧ V 13 x 0 = l))
  · rw [if_pos e, if_pos (by omega)]
  · rw [if_neg e, if_neg ?_]
    rintro ⟨rfl, a, rfl, b⟩
    rcases b with b | b
    · exact e ⟨rfl, a, rfl, Or.inl b⟩
    · by_cases ex : x = n
      · subst ex
        refine h ?_
        unfold etC
        rw [if_neg (by omega)]
        exact b.2
      · exact e ⟨rfl, a, rfl, Or.inr ⟨by omega, b.2⟩⟩
theorem etC_yes {V : Mm} {l n : Int} (h0 : 0 ≤ n) (h3 : n ≤ 3) (hl : l ≠ -1) (h : etC V l n 13 n 0 = l) : mu (etC V l n) 13 n 0 (-1) = etC V l (n + 1) := by
  have hn : ¬ (n = l ∨ (n < n ∧ V 13 n 0 = l)) := fun q => by
    have : etC V l n 13 n 0 = -1 := if_pos ⟨rfl, ⟨h0, h3⟩, rfl, q⟩
    omega
  have hv : V 13 n 0 = l := by
    have e : etC V l n 13 n 0 = V 13 n 0 := if_neg (fun q => hn q.2.2.2)
    omega
  funext c x y
  by_cases e : c = 13 ∧ x = n ∧ y = 0
  · obtain ⟨rfl, rfl, rfl⟩ := e
    rw [mu_self]
    exact (if_pos ⟨rfl, ⟨h0, h3⟩, rfl, Or.inr ⟨by omega, hv⟩⟩).symm
  · rw [mu_ne e]
    unfold etC
    by_cases q : c = 13 ∧ (0 ≤ x ∧ x ≤ 3) ∧ y = 0 ∧ (x = l ∨ (x < n ∧ V 13 x 0 = l))
    · rw [if_pos q, if_pos (by omega)]
    · rw [if_neg q, if_neg (by omega)]
