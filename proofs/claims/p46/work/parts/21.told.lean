-- B: the reference: what is asked with folds
theorem y_reach {eb : Bool} {t : Int} {V : Mm} {d : Nat} {P : Option Vl → Mm → Prop} {σ : Mm} {l w b : Int}  {σ0 : Mm} (ht : 6 ≤ t ∧ t ≤ 7) (hR : RS t σ0 V σ) (hG : GI V)  (k : ∀ (r : Int) (ρ : Mm), reA V l w b r → RS t σ0 V ρ → P (some (vI r)) ρ) : WT (true, eb, true) (d + 6) 219 [vR 30 0, vI l, vI w, vI b] σ P := by
  refine WT_in fun K hK => ?_
  have hK : StpY (true, eb, true) cX6_reach RX6 (some .int) (WT (true, eb, true) (d + 5)) P K := hK
  have hM := hK.1
  have hC := hK.1.1
  show K 0 [some (vR 30 0), some (vI l), some (vI w), some (vI b), none] [] σ
  refine r_rngz hC (fun g0 => ?_)
  have r_l : -2147483648 ≤ l ∧ l ≤ 2147483647 := inR_le (g0 (vI l) (by simp))
  have r_w : -2147483648 ≤ w ∧ w ≤ 2147483647 := inR_le (g0 (vI w) (by simp))
  have r_b : -2147483648 ≤ b ∧ b ≤ 2147483647 := inR_le (g0 (vI b) (by simp))
  refine r_aload_n hC dX6_reach_0 rfl ?_
  refine r_iload_n hC dX6_reach_1 rfl ?_
  refine r_iload_n hC dX6_reach_2 rfl ?_
  refine z_inv2 hM dX6_reach_3 vl_RX6_207 rfl rfl rfl (Nat.le_of_ble_eq_true rfl) (Nat.le_of_ble_eq_true rfl) ?_
  refine y_isNumber (V := V) ht ⟨hR.1, hR.2.1, hR.2.2⟩ (fun l a b => (hG.2.1.2.2.2.1 l a b).2) (fun h1 => ?_) (fun h1 => ?_)
  · unfold lwC opV at h1
    have n_h1 := numF_rng (V 7 l 2)
    have h6 := hG.1.h7 (l := l) (by first | assumption | decide | exact xs_ (by decide) | exact xc_ (by decide) | exact x31_ (by decide) | omega) (by first | assumption | decide | exact xs_ (by decide) | exact xc_ (by decide) | exact x31_ (by decide) | omega)
    have hO_h1 := (hG.2.1.2.2.2.1 l (by first | assumption | decide | exact xs_ (by decide) | exact xc_ (by decide) | exact x31_ (by decide) | omega) (by first | assumption | decide | exact xs_ (by decide) | exact xc_ (by decide) | exact x31_ (by decide) | omega)).2
    refine r_if_ne (tgt := 11) hC dX6_reach_6 rfl (fun h2 => ?_) (fun h2 => by omega)
    refine r_iconst hC dX6_reach_11 rfl ?_
    refine r_istore hC dX6_reach_12 rfl ?_
    have L14 : ∀ (n14 : Nat) (w3 : Int) (ρ4 : Mm), 1 ≤ w3 ∧ w3 ≤ 122 → (∀ n : Int, 1 ≤ n → n < (w3) → ¬ rchV V l 0 n w b) → 122 - w3 < (n14 : Int) → (RS t σ0 V ρ4) → K 14 [some (vR 30 0), some (vI l), some (vI w), some (vI b), some (vI w3)] [] ρ4 := by
      intro n14
      induction n14 with
      | zero => intro w3 ρ4 f_w3 i0_14 hm  m0_14; omega
      | succ n14 ih14 =>
        intro w3 ρ4 f_w3 i0_14 hm14  m0_14
        refine r_iload hC dX6_reach_14 rfl ?_
        refine r_aload_n hC dX6_reach_16 rfl ?_
        refine r_iload_n hC dX6_reach_17 rfl ?_
        refine z_inv1 hM dX6_reach_18 vl_RX6_116 rfl rfl rfl (Nat.le_of_ble_eq_true rfl) (Nat.le_of_ble_eq_true rfl) ?_
        refine y_heldOf (by first | assumption | decide | exact xs_ (by decide) | exact xc_ (by decide) | exact x31_ (by decide) | omega) (fun o5 => ?_)
        have e6 : ρ4 31 0 (22 * l + 5) = (V 7 l 6) := (m0_14.1.a7 (s := 6) (f := 5) (by first | assumption | decide | exact xs_ (by decide) | exact xc_ (by decide) | exact x31_ (by decide) | omega) (by first | assumption | decide | exact xs_ (by decide) | exact xc_ (by decide) | exact x31_ (by decide) | omega) (by first | assumption | decide | exact xs_ (by decide) | exact xc_ (by decide) | exact x31_ (by decide) | omega)).trans (rfl)
        rw [e6] at o5 ⊢
        have qo5 : 0 ≤ (V 7 l 6) ∧ (V 7 l 6) ≤ 121 := o5.1 (by first | assumption | decide | exact xs_ (by decide) | exact xc_ (by decide) | exact x31_ (by decide) | omega)
        refine r_icmp_gt (tgt := 51) hC dX6_reach_21 rfl (fun h7 => ?_) (fun h7 => ?_)
        · refine r_iconst hC dX6_reach_51 rfl ?_
          refine y_iret hK rfl dX6_reach_52 ?_
          have hA : reA V l w b (-1) := by
            exact ⟨fun _ => rfl, fun _ => Or.inl ⟨rfl, fun n n0 n1 => i0_14 n n0 (by first | assumption | decide | exact xs_ (by decide) | exact xc_ (by decide) | exact x31_ (by decide) | omega)⟩⟩
          exact k _ _ hA ⟨m0_14.1, m0_14.2.1, m0_14.2.2⟩
        · refine r_aload_n hC dX6_reach_24 rfl ?_
          refine r_iload_n hC dX6_reach_25 rfl ?_
          refine r_iconst hC dX6_reach_26 rfl ?_
          refine r_iload hC dX6_reach_27 rfl ?_
          refine r_iconst hC dX6_reach_29 rfl ?_
          refine r_isubE hC ((w3 - 1)) dX6_reach_30 (by first | assumption | decide | exact xs_ (by decide) | exact xc_ (by decide) | exact x31_ (by decide) | omega) (by unfold inR; omega) ?_
          refine r_iload_n hC dX6_reach_31 rfl ?_
          refine z_inv4 hM dX6_reach_32 vl_RX6_243 rfl rfl rfl (Nat.le_of_ble_eq_true rfl) (Nat.le_of_ble_eq_true rfl) ?_
          refine y_comesFrom (V := V) (by first | assumption | decide | exact xs_ (by decide) | exact xc_ (by decide) | exact x31_ (by decide) | omega) (by first | assumption | decide | exact xs_ (by decide) | exact xc_ (by decide) | exact x31_ (by decide) | omega) (by first | assumption | decide | exact xs_ (by decide) | exact xc_ (by decide) | exact x31_ (by decide) | omega) (by first | assumption | decide | exact xs_ (by decide) | exact xc_ (by decide) | exact x31_ (by decide) | omega) ht ⟨m0_14.1, m0_14.2.1, m0_14.2.2⟩ (by first | assumption | decide | exact xs_ (by decide) | exact xc_ (by decide) | exact x31_ (by decide) | omega) (hG.2.1.lk hG.1 (l := l) (by first | assumption | decide | exact xs_ (by decide) | exact xc_ (by decide) | exact x31_ (by decide) | omega) (by first | assumption | decide | exact xs_ (by decide) | exact xc_ (by decide) | exact x31_ (by decide) | omega)) (by first | assumption | decide | exact xs_ (by decide) | exact xc_ (by decide) | exact x31_ (by decide) | omega) (fun ρ8 Rρ8 => ?_)
          have ePρ8 : cm (V 16 0) (V 15 0) (V 7 l 2) (fun j => V 9 l (0 + j)) ((w3 - 1) + 1 - 0).toNat w = ptV V l 0 w3 w := by unfold ptV; rw [show ((w3 - 1) + 1 - 0 : Int) = w3 - 0 from by omega]
          rw [ePρ8]
          refine r_iload_n hC dX6_reach_35 rfl ?_
          refine z_ins2 hM dX6_reach_36 tl_RX6_200 rfl (Nat.le_of_ble_eq_true rfl) (Nat.le_of_ble_eq_true rfl) ?_
          refine y_isReached (fun hr_36 => ?_) (fun hr_36 => ?_)
          · refine r_if_eq (tgt := 45) hC dX6_reach_39 rfl (fun h9 => by omega) (fun h9 => ?_)
            refine r_iload hC dX6_reach_42 rfl ?_
            refine y_iret hK rfl dX6_reach_44 ?_
            have hA : reA V l w b w3 := by
              exact ⟨fun q => absurd ⟨by unfold opV; omega, by omega, by omega⟩ q, fun _ => Or.inr ⟨by omega, hr_36, fun n n0 n1 => i0_14 n n0 (by first | assumption | decide | exact xs_ (by decide) | exact xc_ (by decide) | exact x31_ (by decide) | omega)⟩⟩
            exact k _ _ hA ⟨Rρ8.1, Rρ8.2.1, Rρ8.2.2⟩
          · refine r_if_eq (tgt := 45) hC dX6_reach_39 rfl (fun h10 => ?_) (fun h10 => by omega)
            refine r_iincE hC ((w3 + 1)) dX6_reach_45 rfl rfl (by first | assumption | decide | exact xs_ (by decide) | exact xc_ (by decide) | exact x31_ (by decide) | omega) (by unfold inR; omega) ?_
            refine r_goto (tgt := 14) hC dX6_reach_48 rfl ?_
            exact ih14 ((w3 + 1)) ρ8 (by first | assumption | decide | exact xs_ (by decide) | exact xc_ (by decide) | exact x31_ (by decide) | omega) (by intro n n0 n1; first | omega | (rcases (by omega : n < w3 ∨ n = w3) with z | z; exact i0_14 n n0 z; subst z; exact hr_36)) (by first | assumption | decide | exact xs_ (by decide) | exact xc_ (by decide) | exact x31_ (by decide) | omega)  (⟨Rρ8.1, Rρ8.2.1, Rρ8.2.2⟩)
    exact L14 124 (1) σ (by first | assumption | decide | exact xs_ (by decide) | exact xc_ (by decide) | exact x31_ (by decide) | omega) (by intro n n0 n1; first | omega | (rcases (by omega : n < w3 ∨ n = w3) with z | z; exact i0_14 n n0 z; subst z; exact hr_36)) (by first | assumption | decide | exact xs_ (by decide) | exact xc_ (by decide) | exact x31_ (by decide) | omega)  (⟨hR.1, hR.2.1, hR.2.2⟩)
  · unfold lwC opV at h1
    refine r_if_ne (tgt := 11) hC dX6_reach_6 rfl (fun h11 => by omega) (fun h11 => ?_)
    refine r_iconst hC dX6_reach_9 rfl ?_
    refine y_iret hK rfl dX6_reach_10 ?_
    have hA : reA V l w b (-1) := by
      exact ⟨fun _ => rfl, fun q => by unfold lwC opV at q; omega⟩
    exact k _ _ hA ⟨hR.1, hR.2.1, hR.2.2⟩
theorem y_reachBack {eb : Bool} {t : Int} {V : Mm} {d : Nat} {P : Option Vl → Mm → Prop} {σ : Mm} {l w b : Int}  {σ0 : Mm} (ht : 6 ≤ t ∧ t ≤ 7) (hR : RS t σ0 V σ) (hG : GI V)  (k : ∀ (r : Int) (ρ : Mm), rbA V l w b r → RS t σ0 V ρ → P (some (vI r)) ρ) : WT (true, eb, true) (d + 6) 220 [vR 30 0, vI l, vI w, vI b] σ P := by
  refine WT_in fun K hK => ?_
  have hK : StpY (true, eb, true) cX6_reachBack RX6 (some .int) (WT (true, eb, true) (d + 5)) P K := hK
  have hM := hK.1
  have hC := hK.1.1
  show K 0 [some (vR 30 0), some (vI l), some (vI w), some (vI b), none] [] σ
  refine r_rngz hC (fun g0 => ?_)
  have r_l : -2147483648 ≤ l ∧ l ≤ 2147483647 := inR_le (g0 (vI l) (by simp))
  have r_w : -2147483648 ≤ w ∧ w ≤ 2147483647 := inR_le (g0 (vI w) (by simp))
  have r_b : -2147483648 ≤ b ∧ b ≤ 2147483647 := inR_le (g0 (vI b) (by simp))
  refine r_aload_n hC dX6_reachBack_0 rfl ?_
  refine r_iload_n hC dX6_reachBack_1 rfl ?_
  refine r_iload_n hC dX6_reachBack_2 rfl ?_
  refine z_inv2 hM dX6_reachBack_3 vl_RX6_207 rfl rfl rfl (Nat.le_of_ble_eq_true rfl) (Nat.le_of_ble_eq_true rfl) ?_
  refine y_isNumber (V := V) ht ⟨hR.1, hR.2.1, hR.2.2⟩ (fun l a b => (hG.2.1.2.2.2.1 l a b).2) (fun h1 => ?_) (fun h1 => ?_)
  · unfold lwC opV at h1
    have n_h1 := numF_rng (V 7 l 2)
    have h6 := hG.1.h7 (l := l) (by first | assumption | decide | exact xs_ (by decide) | exact xc_ (by decide) | exact x31_ (by decide) | omega) (by first | assumption | decide | exact xs_ (by decide) | exact xc_ (by decide) | exact x31_ (by decide) | omega)
    have hO_h1 := (hG.2.1.2.2.2.1 l (by first | assumption | decide | exact xs_ (by decide) | exact xc_ (by decide) | exact x31_ (by decide) | omega) (by first | assumption | decide | exact xs_ (by decide) | exact xc_ (by decide) | exact x31_ (by decide) | omega)).2
    refine r_if_ne (tgt := 11) hC dX6_reachBack_6 rfl (fun h2 => ?_) (fun h2 => by omega)
    refine r_iconst hC dX6_reachBack_11 rfl ?_
    refine r_istore hC dX6_reachBack_12 rfl ?_
    have L14 : ∀ (n14 : Nat) (w3 : Int) (ρ4 : Mm), 1 ≤ w3 ∧ w3 ≤ 122 → (∀ n : Int, 1 ≤ n → n < (w3) → ¬ rchV V l (V 7 l 6 - n) (V 7 l 6) w b) → 122 - w3 < (n14 : Int) → (RS t σ0 V ρ4) → K 14 [some (vR 30 0), some (vI l), some (vI w), some (vI b), some (vI w3)] [] ρ4 := by
      intro n14
      induction n14 with
      | zero => intro w3 ρ4 f_w3 i0_14 hm  m0_14; omega
      | succ n14 ih14 =>
        intro w3 ρ4 f_w3 i0_14 hm14  m0_14
        refine r_iload hC dX6_reachBack_14 rfl ?_
        refine r_aload_n hC dX6_reachBack_16 rfl ?_
        refine r_iload_n hC dX6_reachBack_17 rfl ?_
        refine z_inv1 hM dX6_reachBack_18 vl_RX6_116 rfl rfl rfl (Nat.le_of_ble_eq_true rfl) (Nat.le_of_ble_eq_true rfl) ?_
        refine y_heldOf (by first | assumption | decide | exact xs_ (by decide) | exact xc_ (by decide) | exact x31_ (by decide) | omega) (fun o5 => ?_)
        have e6 : ρ4 31 0 (22 * l + 5) = (V 7 l 6) := (m0_14.1.a7 (s := 6) (f := 5) (by first | assumption | decide | exact xs_ (by decide) | exact xc_ (by decide) | exact x31_ (by decide) | omega) (by first | assumption | decide | exact xs_ (by decide) | exact xc_ (by decide) | exact x31_ (by decide) | omega) (by first | assumption | decide | exact xs_ (by decide) | exact xc_ (by decide) | exact x31_ (by decide) | omega)).trans (rfl)
        rw [e6] at o5 ⊢
        have qo5 : 0 ≤ (V 7 l 6) ∧ (V 7 l 6) ≤ 121 := o5.1 (by first | assumption | decide | exact xs_ (by decide) | exact xc_ (by decide) | exact x31_ (by decide) | omega)
        refine r_icmp_gt (tgt := 61) hC dX6_reachBack_21 rfl (fun h7 => ?_) (fun h7 => ?_)
        · refine r_iconst hC dX6_reachBack_61 rfl ?_
          refine y_iret hK rfl dX6_reachBack_62 ?_
          have hA : rbA V l w b (-1) := by
            exact ⟨fun _ => rfl, fun _ => Or.inl ⟨rfl, fun n n0 n1 => i0_14 n n0 (by first | assumption | decide | exact xs_ (by decide) | exact xc_ (by decide) | exact x31_ (by decide) | omega)⟩⟩
          exact k _ _ hA ⟨m0_14.1, m0_14.2.1, m0_14.2.2⟩
        · refine r_aload_n hC dX6_reachBack_24 rfl ?_
          refine r_iload_n hC dX6_reachBack_25 rfl ?_
          refine r_aload_n hC dX6_reachBack_26 rfl ?_
          refine r_iload_n hC dX6_reachBack_27 rfl ?_
          refine z_inv1 hM dX6_reachBack_28 vl_RX6_116 rfl rfl rfl (Nat.le_of_ble_eq_true rfl) (Nat.le_of_ble_eq_true rfl) ?_
          refine y_heldOf (by first | assumption | decide | exact xs_ (by decide) | exact xc_ (by decide) | exact x31_ (by decide) | omega) (fun o8 => ?_)
          have e9 : ρ4 31 0 (22 * l + 5) = (V 7 l 6) := (m0_14.1.a7 (s := 6) (f := 5) (by first | assumption | decide | exact xs_ (by decide) | exact xc_ (by decide) | exact x31_ (by decide) | omega) (by first | assumption | decide | exact xs_ (by decide) | exact xc_ (by decide) | exact x31_ (by decide) | omega) (by first | assumption | decide | exact xs_ (by decide) | exact xc_ (by decide) | exact x31_ (by decide) | omega)).trans (rfl)
          rw [e9] at o8 ⊢
          have qo8 : 0 ≤ (V 7 l 6) ∧ (V 7 l 6) ≤ 121 := o8.1 (by first | assumption | decide | exact xs_ (by decide) | exact xc_ (by decide) | exact x31_ (by decide) | omega)
          refine r_iload hC dX6_reachBack_31 rfl ?_
          refine r_isubE hC (((V 7 l 6) - w3)) dX6_reachBack_33 (by first | assumption | decide | exact xs_ (by decide) | exact xc_ (by decide) | exact x31_ (by decide) | omega) (by unfold inR; omega) ?_
          refine r_aload_n hC dX6_reachBack_34 rfl ?_
          refine r_iload_n hC dX6_reachBack_35 rfl ?_
          refine z_inv1 hM dX6_reachBack_36 vl_RX6_116 rfl rfl rfl (Nat.le_of_ble_eq_true rfl) (Nat.le_of_ble_eq_true rfl) ?_
          refine y_heldOf (by first | assumption | decide | exact xs_ (by decide) | exact xc_ (by decide) | exact x31_ (by decide) | omega) (fun o10 => ?_)
          have e11 : ρ4 31 0 (22 * l + 5) = (V 7 l 6) := (m0_14.1.a7 (s := 6) (f := 5) (by first | assumption | decide | exact xs_ (by decide) | exact xc_ (by decide) | exact x31_ (by decide) | omega) (by first | assumption | decide | exact xs_ (by decide) | exact xc_ (by decide) | exact x31_ (by decide) | omega) (by first | assumption | decide | exact xs_ (by decide) | exact xc_ (by decide) | exact x31_ (by decide) | omega)).trans (rfl)
          rw [e11] at o10 ⊢
          have qo10 : 0 ≤ (V 7 l 6) ∧ (V 7 l 6) ≤ 121 := o10.1 (by first | assumption | decide | exact xs_ (by decide) | exact xc_ (by decide) | exact x31_ (by decide) | omega)
          refine r_iconst hC dX6_reachBack_39 rfl ?_
          refine r_isubE hC (((V 7 l 6) - 1)) dX6_reachBack_40 (by first | assumption | decide | exact xs_ (by decide) | exact xc_ (by decide) | exact x31_ (by decide) | omega) (by unfold inR; omega) ?_
          refine r_iload_n hC dX6_reachBack_41 rfl ?_
          refine z_inv4 hM dX6_reachBack_42 vl_RX6_243 rfl rfl rfl (Nat.le_of_ble_eq_true rfl) (Nat.le_of_ble_eq_true rfl) ?_
          refine y_comesFrom (V := V) (by first | assumption | decide | exact xs_ (by decide) | exact xc_ (by decide) | exact x31_ (by decide) | omega) (by first | assumption | decide | exact xs_ (by decide) | exact xc_ (by decide) | exact x31_ (by decide) | omega) (by first | assumption | decide | exact xs_ (by decide) | exact xc_ (by decide) | exact x31_ (by decide) | omega) (by first | assumption | decide | exact xs_ (by decide) | exact xc_ (by decide) | exact x31_ (by decide) | omega) ht ⟨m0_14.1, m0_14.2.1, m0_14.2.2⟩ (by first | assumption | decide | exact xs_ (by decide) | exact xc_ (by decide) | exact x31_ (by decide) | omega) (hG.2.1.lk hG.1 (l := l) (by first | assumption | decide | exact xs_ (by decide) | exact xc_ (by decide) | exact x31_ (by decide) | omega) (by first | assumption | decide | exact xs_ (by decide) | exact xc_ (by decide) | exact x31_ (by decide) | omega)) (by first | assumption | decide | exact xs_ (by decide) | exact xc_ (by decide) | exact x31_ (by decide) | omega) (fun ρ12 Rρ12 => ?_)
          have ePρ12 : cm (V 16 0) (V 15 0) (V 7 l 2) (fun j => V 9 l (((V 7 l 6) - w3) + j)) (((V 7 l 6) - 1) + 1 - ((V 7 l 6) - w3)).toNat w = ptV V l ((V 7 l 6) - w3) (V 7 l 6) w := by unfold ptV; rw [show (((V 7 l 6) - 1) + 1 - ((V 7 l 6) - w3) : Int) = (V 7 l 6) - ((V 7 l 6) - w3) from by omega]
          rw [ePρ12]
          refine r_iload_n hC dX6_reachBack_45 rfl ?_
          refine z_ins2 hM dX6_reachBack_46 tl_RX6_200 rfl (Nat.le_of_ble_eq_true rfl) (Nat.le_of_ble_eq_true rfl) ?_
          refine y_isReached (fun hr_46 => ?_) (fun hr_46 => ?_)
          · refine r_if_eq (tgt := 55) hC dX6_reachBack_49 rfl (fun h13 => by omega) (fun h13 => ?_)
            refine r_iload hC dX6_reachBack_52 rfl ?_
            refine y_iret hK rfl dX6_reachBack_54 ?_
            have hA : rbA V l w b w3 := by
              exact ⟨fun q => absurd ⟨by unfold opV; omega, by omega, by omega⟩ q, fun _ => Or.inr ⟨by omega, hr_46, fun n n0 n1 => i0_14 n n0 (by first | assumption | decide | exact xs_ (by decide) | exact xc_ (by decide) | exact x31_ (by decide) | omega)⟩⟩
            exact k _ _ hA ⟨Rρ12.1, Rρ12.2.1, Rρ12.2.2⟩
          · refine r_if_eq (tgt := 55) hC dX6_reachBack_49 rfl (fun h14 => ?_) (fun h14 => by omega)
            refine r_iincE hC ((w3 + 1)) dX6_reachBack_55 rfl rfl (by first | assumption | decide | exact xs_ (by decide) | exact xc_ (by decide) | exact x31_ (by decide) | omega) (by unfold inR; omega) ?_
            refine r_goto (tgt := 14) hC dX6_reachBack_58 rfl ?_
            exact ih14 ((w3 + 1)) ρ12 (by first | assumption | decide | exact xs_ (by decide) | exact xc_ (by decide) | exact x31_ (by decide) | omega) (by intro n n0 n1; first | omega | (rcases (by omega : n < w3 ∨ n = w3) with z | z; exact i0_14 n n0 z; subst z; exact hr_46)) (by first | assumption | decide | exact xs_ (by decide) | exact xc_ (by decide) | exact x31_ (by decide) | omega)  (⟨Rρ12.1, Rρ12.2.1, Rρ12.2.2⟩)
    exact L14 124 (1) σ (by first | assumption | decide | exact xs_ (by decide) | exact xc_ (by decide) | exact x31_ (by decide) | omega) (by intro n n0 n1; first | omega | (rcases (by omega : n < w3 ∨ n = w3) with z | z; exact i0_14 n n0 z; subst z; exact hr_46)) (by first | assumption | decide | exact xs_ (by decide) | exact xc_ (by decide) | exact x31_ (by decide) | omega)  (⟨hR.1, hR.2.1, hR.2.2⟩)
  · unfold lwC opV at h1
    refine r_if_ne (tgt := 11) hC dX6_reachBack_6 rfl (fun h15 => by omega) (fun h15 => ?_)
    refine r_iconst hC dX6_reachBack_9 rfl ?_
    refine y_iret hK rfl dX6_reachBack_10 ?_
    have hA : rbA V l w b (-1) := by
      exact ⟨fun _ => rfl, fun q => by unfold lwC opV at q; omega⟩
    exact k _ _ hA ⟨hR.1, hR.2.1, hR.2.2⟩
theorem y_bestOf {eb : Bool} {t : Int} {V : Mm} {d : Nat} {P : Option Vl → Mm → Prop} {σ : Mm} {l m w : Int}  {σ0 : Mm} (ht : 6 ≤ t ∧ t ≤ 7) (hR : RS t σ0 V σ) (hG : GI V)  (k : ∀ (r : Int) (ρ : Mm), paA V l m w r → RS t σ0 V ρ → P (some (vI r)) ρ) : WT (true, eb, true) (d + 6) 221 [vR 30 0, vI l, vI m, vI w] σ P := by
  refine WT_in fun K hK => ?_
  have hK : StpY (true, eb, true) cX6_bestOf RX6 (some .int) (WT (true, eb, true) (d + 5)) P K := hK
  have hM := hK.1
  have hC := hK.1.1
  show K 0 [some (vR 30 0), some (vI l), some (vI m), some (vI w), none, none, none, none] [] σ
  refine r_rngz hC (fun g0 => ?_)
  have r_l : -2147483648 ≤ l ∧ l ≤ 2147483647 := inR_le (g0 (vI l) (by simp))
  have r_m : -2147483648 ≤ m ∧ m ≤ 2147483647 := inR_le (g0 (vI m) (by simp))
  have r_w : -2147483648 ≤ w ∧ w ≤ 2147483647 := inR_le (g0 (vI w) (by simp))
  refine r_aload_n hC dX6_bestOf_0 rfl ?_
  refine r_iload_n hC dX6_bestOf_1 rfl ?_
  refine r_iload_n hC dX6_bestOf_2 rfl ?_
  refine z_inv2 hM dX6_bestOf_3 vl_RX6_207 rfl rfl rfl (Nat.le_of_ble_eq_true rfl) (Nat.le_of_ble_eq_true rfl) ?_
  refine y_isNumber (V := V) ht ⟨hR.1, hR.2.1, hR.2.2⟩ (fun l a b => (hG.2.1.2.2.2.1 l a b).2) (fun h1 => ?_) (fun h1 => ?_)
  · unfold lwC opV at h1
    have n_h1 := numF_rng (V 7 l 2)
    have h6 := hG.1.h7 (l := l) (by first | assumption | decide | exact xs_ (by decide) | exact xc_ (by decide) | exact x31_ (by decide) | omega) (by first | assumption | decide | exact xs_ (by decide) | exact xc_ (by decide) | exact x31_ (by decide) | omega)
    have hO_h1 := (hG.2.1.2.2.2.1 l (by first | assumption | decide | exact xs_ (by decide) | exact xc_ (by decide) | exact x31_ (by decide) | omega) (by first | assumption | decide | exact xs_ (by decide) | exact xc_ (by decide) | exact x31_ (by decide) | omega)).2
    refine r_if_eq (tgt := 22) hC dX6_bestOf_6 rfl (fun h2 => by omega) (fun h2 => ?_)
    refine r_iload_n hC dX6_bestOf_9 rfl ?_
    refine r_iconst hC dX6_bestOf_10 rfl ?_
    refine r_aload_n hC dX6_bestOf_11 rfl ?_
    refine r_iload_n hC dX6_bestOf_12 rfl ?_
    refine z_inv1 hM dX6_bestOf_13 vl_RX6_116 rfl rfl rfl (Nat.le_of_ble_eq_true rfl) (Nat.le_of_ble_eq_true rfl) ?_
    refine y_heldOf (by first | assumption | decide | exact xs_ (by decide) | exact xc_ (by decide) | exact x31_ (by decide) | omega) (fun o3 => ?_)
    have e4 : σ 31 0 (22 * l + 5) = (V 7 l 6) := (hR.1.a7 (s := 6) (f := 5) (by first | assumption | decide | exact xs_ (by decide) | exact xc_ (by decide) | exact x31_ (by decide) | omega) (by first | assumption | decide | exact xs_ (by decide) | exact xc_ (by decide) | exact x31_ (by decide) | omega) (by first | assumption | decide | exact xs_ (by decide) | exact xc_ (by decide) | exact x31_ (by decide) | omega)).trans (rfl)
    rw [e4] at o3 ⊢
    have qo3 : 0 ≤ (V 7 l 6) ∧ (V 7 l 6) ≤ 121 := o3.1 (by first | assumption | decide | exact xs_ (by decide) | exact xc_ (by decide) | exact x31_ (by decide) | omega)
    refine z_ins3 hM dX6_bestOf_16 tl_RX6_76 rfl (Nat.le_of_ble_eq_true rfl) (Nat.le_of_ble_eq_true rfl) ?_
    refine m_isIn (fun h6 => ?_) (fun h6 => ?_)
    · refine r_if_ne (tgt := 24) hC dX6_bestOf_19 rfl (fun h7 => ?_) (fun h7 => by omega)
      refine r_iconst hC dX6_bestOf_24 rfl ?_
      refine r_istore hC dX6_bestOf_25 rfl ?_
      refine r_aload_n hC dX6_bestOf_27 rfl ?_
      refine r_iload_n hC dX6_bestOf_28 rfl ?_
      refine r_iconst hC dX6_bestOf_29 rfl ?_
      refine r_iload_n hC dX6_bestOf_30 rfl ?_
      refine r_iconst hC dX6_bestOf_31 rfl ?_
      refine r_isubE hC ((m - 1)) dX6_bestOf_32 (by first | assumption | decide | exact xs_ (by decide) | exact xc_ (by decide) | exact x31_ (by decide) | omega) (by unfold inR; omega) ?_
      refine r_iload_n hC dX6_bestOf_33 rfl ?_
      refine z_inv4 hM dX6_bestOf_34 vl_RX6_243 rfl rfl rfl (Nat.le_of_ble_eq_true rfl) (Nat.le_of_ble_eq_true rfl) ?_
      refine y_comesFrom (V := V) (by first | assumption | decide | exact xs_ (by decide) | exact xc_ (by decide) | exact x31_ (by decide) | omega) (by first | assumption | decide | exact xs_ (by decide) | exact xc_ (by decide) | exact x31_ (by decide) | omega) (by first | assumption | decide | exact xs_ (by decide) | exact xc_ (by decide) | exact x31_ (by decide) | omega) (by first | assumption | decide | exact xs_ (by decide) | exact xc_ (by decide) | exact x31_ (by decide) | omega) ht ⟨hR.1, hR.2.1, hR.2.2⟩ (by first | assumption | decide | exact xs_ (by decide) | exact xc_ (by decide) | exact x31_ (by decide) | omega) (hG.2.1.lk hG.1 (l := l) (by first | assumption | decide | exact xs_ (by decide) | exact xc_ (by decide) | exact x31_ (by decide) | omega) (by first | assumption | decide | exact xs_ (by decide) | exact xc_ (by decide) | exact x31_ (by decide) | omega)) (by first | assumption | decide | exact xs_ (by decide) | exact xc_ (by decide) | exact x31_ (by decide) | omega) (fun ρ8 Rρ8 => ?_)
      have ePρ8 : cm (V 16 0) (V 15 0) (V 7 l 2) (fun j => V 9 l (0 + j)) ((m - 1) + 1 - 0).toNat w = ptV V l 0 m w := by unfold ptV; rw [show ((m - 1) + 1 - 0 : Int) = m - 0 from by omega]
      rw [ePρ8]
      rw [show (ptV V l 0 m w) = (ptV V l 0 (0 + m) w) from congrArg (fun z => ptV V l 0 z w) (show (m : Int) = 0 + m from by omega)]
      refine r_istore hC dX6_bestOf_37 rfl ?_
      show K _ [_, _, _, _, _, _, _, _] _ _
      refine r_rngz hC (fun g1 => ?_)
      have r8_39 : -2147483648 ≤ (ptV V l 0 (0 + m) w) ∧ (ptV V l 0 (0 + m) w) ≤ 2147483647 := inR_le (g1 (vI (ptV V l 0 (0 + m) w)) (by simp))
      refine r_iconst hC dX6_bestOf_39 rfl ?_
      refine r_istore hC dX6_bestOf_40 rfl ?_
      have L42 : ∀ (n42 : Nat) (w9 w10 w11 : Int) (ρ12 : Mm), 0 ≤ w9 ∧ w9 ≤ 120 → -2147483648 ≤ w10 ∧ w10 ≤ 2147483647 → 1 ≤ w11 ∧ w11 ≤ 121 → (BestP (fun i => ptV V l i (i + m) w) (w11) (w9) (w10)) → ((w11) + m ≤ V 7 l 6 + 1) → 121 - w11 < (n42 : Int) → (RS t σ0 V ρ12) → K 42 [some (vR 30 0), some (vI l), some (vI m), some (vI w), some (vI w9), some (vI w10), some (vI w11), none] [] ρ12 := by
        intro n42
        induction n42 with
        | zero => intro w9 w10 w11 ρ12 f_w9 f_w10 f_w11 i0_42 i1_42 hm  m0_42; omega
        | succ n42 ih42 =>
          intro w9 w10 w11 ρ12 f_w9 f_w10 f_w11 i0_42 i1_42 hm42  m0_42
          refine r_iload hC dX6_bestOf_42 rfl ?_
          refine r_iload_n hC dX6_bestOf_44 rfl ?_
          refine r_iaddE hC ((w11 + m)) dX6_bestOf_45 (by first | assumption | decide | exact xs_ (by decide) | exact xc_ (by decide) | exact x31_ (by decide) | omega) (by unfold inR; omega) ?_
          refine r_aload_n hC dX6_bestOf_46 rfl ?_
          refine r_iload_n hC dX6_bestOf_47 rfl ?_
          refine z_inv1 hM dX6_bestOf_48 vl_RX6_116 rfl rfl rfl (Nat.le_of_ble_eq_true rfl) (Nat.le_of_ble_eq_true rfl) ?_
          refine y_heldOf (by first | assumption | decide | exact xs_ (by decide) | exact xc_ (by decide) | exact x31_ (by decide) | omega) (fun o13 => ?_)
          have e14 : ρ12 31 0 (22 * l + 5) = (V 7 l 6) := (m0_42.1.a7 (s := 6) (f := 5) (by first | assumption | decide | exact xs_ (by decide) | exact xc_ (by decide) | exact x31_ (by decide) | omega) (by first | assumption | decide | exact xs_ (by decide) | exact xc_ (by decide) | exact x31_ (by decide) | omega) (by first | assumption | decide | exact xs_ (by decide) | exact xc_ (by decide) | exact x31_ (by decide) | omega)).trans (rfl)
          rw [e14] at o13 ⊢
          have qo13 : 0 ≤ (V 7 l 6) ∧ (V 7 l 6) ≤ 121 := o13.1 (by first | assumption | decide | exact xs_ (by decide) | exact xc_ (by decide) | exact x31_ (by decide) | omega)
          refine r_icmp_gt (tgt := 94) hC dX6_bestOf_51 rfl (fun h15 => ?_) (fun h15 => ?_)
          · refine r_iload hC dX6_bestOf_94 rfl ?_
            refine y_iret hK rfl dX6_bestOf_96 ?_
            have hA : paA V l m w w9 := by
              exact ⟨fun z => absurd (by unfold pkC lwC opV; omega) z, fun _ => BestP.done (n := w11) i0_42 (by first | assumption | decide | exact xs_ (by decide) | exact xc_ (by decide) | exact x31_ (by decide) | omega)⟩
            exact k _ _ hA ⟨m0_42.1, m0_42.2.1, m0_42.2.2⟩
          · refine r_aload_n hC dX6_bestOf_54 rfl ?_
            refine r_iload_n hC dX6_bestOf_55 rfl ?_
            refine r_iload hC dX6_bestOf_56 rfl ?_
            refine r_iload hC dX6_bestOf_58 rfl ?_
            refine r_iload_n hC dX6_bestOf_60 rfl ?_
            refine r_iaddE hC ((w11 + m)) dX6_bestOf_61 (by first | assumption | decide | exact xs_ (by decide) | exact xc_ (by decide) | exact x31_ (by decide) | omega) (by unfold inR; omega) ?_
            refine r_iconst hC dX6_bestOf_62 rfl ?_
            refine r_isubE hC (((w11 + m) - 1)) dX6_bestOf_63 (by first | assumption | decide | exact xs_ (by decide) | exact xc_ (by decide) | exact x31_ (by decide) | omega) (by unfold inR; omega) ?_
            refine r_iload_n hC dX6_bestOf_64 rfl ?_
            refine z_inv4 hM dX6_bestOf_65 vl_RX6_243 rfl rfl rfl (Nat.le_of_ble_eq_true rfl) (Nat.le_of_ble_eq_true rfl) ?_
            refine y_comesFrom (V := V) (by first | assumption | decide | exact xs_ (by decide) | exact xc_ (by decide) | exact x31_ (by decide) | omega) (by first | assumption | decide | exact xs_ (by decide) | exact xc_ (by decide) | exact x31_ (by decide) | omega) (by first | assumption | decide | exact xs_ (by decide) | exact xc_ (by decide) | exact x31_ (by decide) | omega) (by first | assumption | decide | exact xs_ (by decide) | exact xc_ (by decide) | exact x31_ (by decide) | omega) ht ⟨m0_42.1, m0_42.2.1, m0_42.2.2⟩ (by first | assumption | decide | exact xs_ (by decide) | exact xc_ (by decide) | exact x31_ (by decide) | omega) (hG.2.1.lk hG.1 (l := l) (by first | assumption | decide | exact xs_ (by decide) | exact xc_ (by decide) | exact x31_ (by decide) | omega) (by first | assumption | decide | exact xs_ (by decide) | exact xc_ (by decide) | exact x31_ (by decide) | omega)) (by first | assumption | decide | exact xs_ (by decide) | exact xc_ (by decide) | exact x31_ (by decide) | omega) (fun ρ16 Rρ16 => ?_)
            have ePρ16 : cm (V 16 0) (V 15 0) (V 7 l 2) (fun j => V 9 l (w11 + j)) (((w11 + m) - 1) + 1 - w11).toNat w = ptV V l w11 (w11 + m) w := by unfold ptV; rw [show (((w11 + m) - 1) + 1 - w11 : Int) = (w11 + m) - w11 from by omega]
            rw [ePρ16]
            refine r_istore hC dX6_bestOf_68 rfl ?_
            show K _ [_, _, _, _, _, _, _, _] _ _
            refine r_rngz hC (fun g1 => ?_)
            have r8_70 : -2147483648 ≤ (ptV V l w11 (w11 + m) w) ∧ (ptV V l w11 (w11 + m) w) ≤ 2147483647 := inR_le (g1 (vI (ptV V l w11 (w11 + m) w)) (by simp))
            refine r_iload hC dX6_bestOf_70 rfl ?_
            refine r_iload hC dX6_bestOf_72 rfl ?_
            refine r_icmp_gt (tgt := 80) hC dX6_bestOf_74 rfl (fun h17 => ?_) (fun h17 => ?_)
            · refine r_iload hC dX6_bestOf_80 rfl ?_
              refine r_istore hC dX6_bestOf_82 rfl ?_
              refine r_iload hC dX6_bestOf_84 rfl ?_
              refine r_istore hC dX6_bestOf_86 rfl ?_
              refine r_iincE hC ((w11 + 1)) dX6_bestOf_88 rfl rfl (by first | assumption | decide | exact xs_ (by decide) | exact xc_ (by decide) | exact x31_ (by decide) | omega) (by unfold inR; omega) ?_
              show K _ [_, _, _, _, _, _, _, _] _ _
              refine r_goto (tgt := 42) hC dX6_bestOf_91 rfl ?_
              refine r_forget hC (ls2 := [some (vR 30 0), some (vI l), some (vI m), some (vI w), some (vI w11), some (vI (ptV V l w11 (w11 + m) w)), some (vI (w11 + 1)), none]) (lsub_some (lsub_some (lsub_some (lsub_some (lsub_some (lsub_some (lsub_some (lsub_none lsub_nil)))))))) ?_
              exact ih42 (w11) ((ptV V l w11 (w11 + m) w)) ((w11 + 1)) ρ16 (by first | assumption | decide | exact xs_ (by decide) | exact xc_ (by decide) | exact x31_ (by decide) | omega) (by first | assumption | decide | exact xs_ (by decide) | exact xc_ (by decide) | exact x31_ (by decide) | omega) (by first | assumption | decide | exact xs_ (by decide) | exact xc_ (by decide) | exact x31_ (by decide) | omega) (by first | exact BestP.one rfl | exact BestP.one (by show ptV V l 0 _ w = ptV V l 0 (0 + m) w; congr 1; omega) | exact BestP.no i0_42 (by show ptV V l w11 (w11 + m) w ≤ _; omega) | exact BestP.yes i0_42 (by show _ < ptV V l w11 (w11 + m) w; omega)) (by first | assumption | decide | exact xs_ (by decide) | exact xc_ (by decide) | exact x31_ (by decide) | omega) (by first | assumption | decide | exact xs_ (by decide) | exact xc_ (by decide) | exact x31_ (by decide) | omega)  (⟨Rρ16.1, Rρ16.2.1, Rρ16.2.2⟩)
            · refine r_goto (tgt := 88) hC dX6_bestOf_77 rfl ?_
              refine r_iincE hC ((w11 + 1)) dX6_bestOf_88 rfl rfl (by first | assumption | decide | exact xs_ (by decide) | exact xc_ (by decide) | exact x31_ (by decide) | omega) (by unfold inR; omega) ?_
              refine r_goto (tgt := 42) hC dX6_bestOf_91 rfl ?_
              refine r_forget hC (ls2 := [some (vR 30 0), some (vI l), some (vI m), some (vI w), some (vI w9), some (vI w10), some (vI (w11 + 1)), none]) (lsub_some (lsub_some (lsub_some (lsub_some (lsub_some (lsub_some (lsub_some (lsub_none lsub_nil)))))))) ?_
              exact ih42 (w9) (w10) ((w11 + 1)) ρ16 (by first | assumption | decide | exact xs_ (by decide) | exact xc_ (by decide) | exact x31_ (by decide) | omega) (by first | assumption | decide | exact xs_ (by decide) | exact xc_ (by decide) | exact x31_ (by decide) | omega) (by first | assumption | decide | exact xs_ (by decide) | exact xc_ (by decide) | exact x31_ (by decide) | omega) (by first | exact BestP.one rfl | exact BestP.one (by show ptV V l 0 _ w = ptV V l 0 (0 + m) w; congr 1; omega) | exact BestP.no i0_42 (by show ptV V l w11 (w11 + m) w ≤ _; omega) | exact BestP.yes i0_42 (by show _ < ptV V l w11 (w11 + m) w; omega)) (by first | assumption | decide | exact xs_ (by decide) | exact xc_ (by decide) | exact x31_ (by decide) | omega) (by first | assumption | decide | exact xs_ (by decide) | exact xc_ (by decide) | exact x31_ (by decide) | omega)  (⟨Rρ16.1, Rρ16.2.1, Rρ16.2.2⟩)
      exact L42 123 (0) ((ptV V l 0 (0 + m) w)) (1) ρ8 (by first | assumption | decide | exact xs_ (by decide) | exact xc_ (by decide) | exact x31_ (by decide) | omega) (by first | assumption | decide | exact xs_ (by decide) | exact xc_ (by decide) | exact x31_ (by decide) | omega) (by first | assumption | decide | exact xs_ (by decide) | exact xc_ (by decide) | exact x31_ (by decide) | omega) (by first | exact BestP.one rfl | exact BestP.one (by show ptV V l 0 _ w = ptV V l 0 (0 + m) w; congr 1; omega) | exact BestP.no i0_42 (by show ptV V l w11 (w11 + m) w ≤ _; omega) | exact BestP.yes i0_42 (by show _ < ptV V l w11 (w11 + m) w; omega)) (by first | assumption | decide | exact xs_ (by decide) | exact xc_ (by decide) | exact x31_ (by decide) | omega) (by first | assumption | decide | exact xs_ (by decide) | exact xc_ (by decide) | exact x31_ (by decide) | omega)  (⟨Rρ8.1, Rρ8.2.1, Rρ8.2.2⟩)
    · refine r_if_ne (tgt := 24) hC dX6_bestOf_19 rfl (fun h18 => by omega) (fun h18 => ?_)
      refine r_iconst hC dX6_bestOf_22 rfl ?_
      refine y_iret hK rfl dX6_bestOf_23 ?_
      have hA : paA V l m w (-1) := by
        exact ⟨fun _ => rfl, fun q => by unfold pkC lwC opV at q; omega⟩
      exact k _ _ hA ⟨hR.1, hR.2.1, hR.2.2⟩
  · unfold lwC opV at h1
    refine r_if_eq (tgt := 22) hC dX6_bestOf_6 rfl (fun h19 => ?_) (fun h19 => by omega)
    refine r_iconst hC dX6_bestOf_22 rfl ?_
    refine y_iret hK rfl dX6_bestOf_23 ?_
    have hA : paA V l m w (-1) := by
      exact ⟨fun _ => rfl, fun q => by unfold pkC lwC opV at q; omega⟩
    exact k _ _ hA ⟨hR.1, hR.2.1, hR.2.2⟩
theorem y_peakAt {eb : Bool} {t : Int} {V : Mm} {d : Nat} {P : Option Vl → Mm → Prop} {σ : Mm} {l m w : Int}  {σ0 : Mm} (ht : 6 ≤ t ∧ t ≤ 7) (hR : RS t σ0 V σ) (hG : GI V)  (k : ∀ (r : Int) (ρ : Mm), paA V l m w r → RS t σ0 V ρ → P (some (vI r)) ρ) : WT (true, eb, true) (d + 7) 222 [vR 30 0, vI l, vI m, vI w] σ P := by
  refine WT_in fun K hK => ?_
  have hK : StpY (true, eb, true) cX6_peakAt RX6 (some .int) (WT (true, eb, true) (d + 6)) P K := hK
  have hM := hK.1
  have hC := hK.1.1
  show K 0 [some (vR 30 0), some (vI l), some (vI m), some (vI w)] [] σ
  refine r_rngz hC (fun g0 => ?_)
  have r_l : -2147483648 ≤ l ∧ l ≤ 2147483647 := inR_le (g0 (vI l) (by simp))
  have r_m : -2147483648 ≤ m ∧ m ≤ 2147483647 := inR_le (g0 (vI m) (by simp))
  have r_w : -2147483648 ≤ w ∧ w ≤ 2147483647 := inR_le (g0 (vI w) (by simp))
  refine r_aload_n hC dX6_peakAt_0 rfl ?_
  refine r_iload_n hC dX6_peakAt_1 rfl ?_
  refine r_iload_n hC dX6_peakAt_2 rfl ?_
  refine r_iload_n hC dX6_peakAt_3 rfl ?_
  refine z_inv3 hM dX6_peakAt_4 vl_RX6_268 rfl rfl rfl (Nat.le_of_ble_eq_true rfl) (Nat.le_of_ble_eq_true rfl) ?_
  refine y_bestOf (V := V) ht ⟨hR.1, hR.2.1, hR.2.2⟩ hG (fun v2 ρ1 hA_v2 Rρ1 => ?_)
  refine y_iret hK rfl dX6_peakAt_7 ?_
  have hA : paA V l m w v2 := by
    exact hA_v2
  exact k _ _ hA ⟨Rρ1.1, Rρ1.2.1, Rρ1.2.2⟩
theorem y_peak {eb : Bool} {t : Int} {V : Mm} {d : Nat} {P : Option Vl → Mm → Prop} {σ : Mm} {l m w : Int}  {σ0 : Mm} (ht : 6 ≤ t ∧ t ≤ 7) (hR : RS t σ0 V σ) (hG : GI V)  (k : ∀ (r : Int) (ρ : Mm), pkA V l m w r → RS t σ0 V ρ → P (some (vI r)) ρ) : WT (true, eb, true) (d + 7) 223 [vR 30 0, vI l, vI m, vI w] σ P := by
  refine WT_in fun K hK => ?_
  have hK : StpY (true, eb, true) cX6_peak RX6 (some .int) (WT (true, eb, true) (d + 6)) P K := hK
  have hM := hK.1
  have hC := hK.1.1
  show K 0 [some (vR 30 0), some (vI l), some (vI m), some (vI w), none] [] σ
  refine r_rngz hC (fun g0 => ?_)
  have r_l : -2147483648 ≤ l ∧ l ≤ 2147483647 := inR_le (g0 (vI l) (by simp))
  have r_m : -2147483648 ≤ m ∧ m ≤ 2147483647 := inR_le (g0 (vI m) (by simp))
  have r_w : -2147483648 ≤ w ∧ w ≤ 2147483647 := inR_le (g0 (vI w) (by simp))
  refine r_aload_n hC dX6_peak_0 rfl ?_
  refine r_iload_n hC dX6_peak_1 rfl ?_
  refine r_iload_n hC dX6_peak_2 rfl ?_
  refine r_iload_n hC dX6_peak_3 rfl ?_
  refine z_inv3 hM dX6_peak_4 vl_RX6_268 rfl rfl rfl (Nat.le_of_ble_eq_true rfl) (Nat.le_of_ble_eq_true rfl) ?_
  refine y_bestOf (V := V) ht ⟨hR.1, hR.2.1, hR.2.2⟩ hG (fun v2 ρ1 hA_v2 Rρ1 => ?_)
  have hB : v2 = -1 ∨ ((opV V l ∧ 0 ≤ w ∧ w < numF (V 7 l 2)) ∧ (1 ≤ m ∧ m ≤ V 7 l 6) ∧ 0 ≤ v2 ∧ v2 ≤ V 7 l 6 - m) := by
    by_cases c : pkC V l m w
    · exact Or.inr ⟨c.1, c.2, (hA_v2.2 c).1⟩
    · exact Or.inl (hA_v2.1 c)
  unfold opV at hB
  have n_b := numF_rng (V 7 l 2)
  have h6b : 0 ≤ l → l ≤ 3 → 0 ≤ V 7 l 6 ∧ V 7 l 6 ≤ 120 := fun a b => hG.1.h7 (l := l) a (by first | assumption | decide | exact xs_ (by decide) | exact xc_ (by decide) | exact x31_ (by decide) | omega)
  have hrg : -1 ≤ v2 ∧ v2 ≤ 120 := by omega
  refine r_istore hC dX6_peak_7 rfl ?_
  refine r_iload hC dX6_peak_9 rfl ?_
  refine r_if_ge (tgt := 19) hC dX6_peak_11 rfl (fun h3 => ?_) (fun h3 => ?_)
  · have hl3 : 0 ≤ l ∧ l ≤ 3 := by omega
    have hm120 : 1 ≤ m ∧ m ≤ 120 := by have := h6b (by first | assumption | decide | exact xs_ (by decide) | exact xc_ (by decide) | exact x31_ (by decide) | omega) (by first | assumption | decide | exact xs_ (by decide) | exact xc_ (by decide) | exact x31_ (by decide) | omega); omega
    refine r_aload_n hC dX6_peak_19 rfl ?_
    refine r_iload_n hC dX6_peak_20 rfl ?_
    refine r_iload hC dX6_peak_21 rfl ?_
    refine r_iload hC dX6_peak_23 rfl ?_
    refine r_iload_n hC dX6_peak_25 rfl ?_
    refine r_iaddE hC ((v2 + m)) dX6_peak_26 (by first | assumption | decide | exact xs_ (by decide) | exact xc_ (by decide) | exact x31_ (by decide) | omega) (by unfold inR; omega) ?_
    refine r_iconst hC dX6_peak_27 rfl ?_
    refine r_isubE hC (((v2 + m) - 1)) dX6_peak_28 (by first | assumption | decide | exact xs_ (by decide) | exact xc_ (by decide) | exact x31_ (by decide) | omega) (by unfold inR; omega) ?_
    refine r_iload_n hC dX6_peak_29 rfl ?_
    refine z_inv4 hM dX6_peak_30 vl_RX6_243 rfl rfl rfl (Nat.le_of_ble_eq_true rfl) (Nat.le_of_ble_eq_true rfl) ?_
    refine y_comesFrom (V := V) (by first | assumption | decide | exact xs_ (by decide) | exact xc_ (by decide) | exact x31_ (by decide) | omega) (by first | assumption | decide | exact xs_ (by decide) | exact xc_ (by decide) | exact x31_ (by decide) | omega) (by first | assumption | decide | exact xs_ (by decide) | exact xc_ (by decide) | exact x31_ (by decide) | omega) (by first | assumption | decide | exact xs_ (by decide) | exact xc_ (by decide) | exact x31_ (by decide) | omega) ht ⟨Rρ1.1, Rρ1.2.1, Rρ1.2.2⟩ (by first | assumption | decide | exact xs_ (by decide) | exact xc_ (by decide) | exact x31_ (by decide) | omega) (hG.2.1.lk hG.1 (l := l) (by first | assumption | decide | exact xs_ (by decide) | exact xc_ (by decide) | exact x31_ (by decide) | omega) (by first | assumption | decide | exact xs_ (by decide) | exact xc_ (by decide) | exact x31_ (by decide) | omega)) (by first | assumption | decide | exact xs_ (by decide) | exact xc_ (by decide) | exact x31_ (by decide) | omega) (fun ρ4 Rρ4 => ?_)
    have ePρ4 : cm (V 16 0) (V 15 0) (V 7 l 2) (fun j => V 9 l (v2 + j)) (((v2 + m) - 1) + 1 - v2).toNat w = ptV V l v2 (v2 + m) w := by unfold ptV; rw [show (((v2 + m) - 1) + 1 - v2 : Int) = (v2 + m) - v2 from by omega]
    rw [ePρ4]
    refine y_iret hK rfl dX6_peak_33 ?_
    have hA : pkA V l m w (ptV V l v2 (v2 + m) w) := by
      refine ⟨v2, hA_v2, ?_⟩
      first | (rw [if_neg (by first | assumption | decide | exact xs_ (by decide) | exact xc_ (by decide) | exact x31_ (by decide) | omega)]; done) | (rw [if_pos (by first | assumption | decide | exact xs_ (by decide) | exact xc_ (by decide) | exact x31_ (by decide) | omega)]; done) | (rw [if_neg (by first | assumption | decide | exact xs_ (by decide) | exact xc_ (by decide) | exact x31_ (by decide) | omega)]) | (rw [if_pos (by first | assumption | decide | exact xs_ (by decide) | exact xc_ (by decide) | exact x31_ (by decide) | omega)]; rfl)
    exact k _ _ hA ⟨Rρ4.1, Rρ4.2.1, Rρ4.2.2⟩
  · refine r_ldc hC dX6_peak_14 co_RX6_160 rfl ?_
    refine r_goto (tgt := 33) hC dX6_peak_16 rfl ?_
    refine y_iret hK rfl dX6_peak_33 ?_
    have hA : pkA V l m w (-2147483648) := by
      refine ⟨v2, hA_v2, ?_⟩
      first | (rw [if_neg (by first | assumption | decide | exact xs_ (by decide) | exact xc_ (by decide) | exact x31_ (by decide) | omega)]; done) | (rw [if_pos (by first | assumption | decide | exact xs_ (by decide) | exact xc_ (by decide) | exact x31_ (by decide) | omega)]; done) | (rw [if_neg (by first | assumption | decide | exact xs_ (by decide) | exact xc_ (by decide) | exact x31_ (by decide) | omega)]) | (rw [if_pos (by first | assumption | decide | exact xs_ (by decide) | exact xc_ (by decide) | exact x31_ (by decide) | omega)]; rfl)
    exact k _ _ hA ⟨Rρ1.1, Rρ1.2.1, Rρ1.2.2⟩
theorem y_comesWithout {eb : Bool} {t : Int} {V : Mm} {d : Nat} {P : Option Vl → Mm → Prop} {σ : Mm} {l x w : Int} (b_l : 0 ≤ l ∧ l ≤ 3) (b_x : 0 ≤ x ∧ x ≤ 119) (b_w : 0 ≤ w ∧ w ≤ 6) {σ0 : Mm} (ht : 6 ≤ t ∧ t ≤ 7) (hR : RS t σ0 V σ) (hG : GI V) (hw : w < numF (V 7 l 2)) (hx : x < V 7 l 6)  (k : ∀ ρ : Mm, RS t σ0 V ρ → P (some (vI (woV V l x w))) ρ) : WT (true, eb, true) (d + 5) 224 [vR 30 0, vI l, vI x, vI w] σ P := by
  refine WT_in fun K hK => ?_
  have hK : StpY (true, eb, true) cX6_comesWithout RX6 (some .int) (WT (true, eb, true) (d + 4)) P K := hK
  have hM := hK.1
  have hC := hK.1.1
  show K 0 [some (vR 30 0), some (vI l), some (vI x), some (vI w)] [] σ
  have hcl := hG.2.1.2.2.2.2.2.2.2
  have hrow := hG.2.1.2.2.1
  have h6_0 := hG.1.h7 (l := l) (by first | assumption | decide | exact xs_ (by decide) | exact xc_ (by decide) | exact x31_ (by decide) | omega) (by first | assumption | decide | exact xs_ (by decide) | exact xc_ (by decide) | exact x31_ (by decide) | omega)
  have hO_0 := (hG.2.1.2.2.2.1 l (by first | assumption | decide | exact xs_ (by decide) | exact xc_ (by decide) | exact x31_ (by decide) | omega) (by first | assumption | decide | exact xs_ (by decide) | exact xc_ (by decide) | exact x31_ (by decide) | omega)).2
  refine r_aload_n hC dX6_comesWithout_0 rfl ?_
  refine z_inv0 hM dX6_comesWithout_1 vl_RX6_113 rfl rfl rfl (Nat.le_of_ble_eq_true rfl) (Nat.le_of_ble_eq_true rfl) ?_
  refine y_clearRow ?_
  obtain ⟨ρ1, e_ρ1⟩ : ∃ zz_, zz_ = mu σ 30 0 8 0 := ⟨_, rfl⟩
  rw [← e_ρ1]
  have n_ρ1 : ∀ u : Int → Int, RWP ρ1 u 0 := fun u => RWP.nil (by rw [e_ρ1]; exact mu_self _ _ _ _ _)
  have Rρ1 : RS t σ0 V ρ1 := RS.mk2 hR.1 hR.2.1 hR.2.2 (fun c p q h => by rw [e_ρ1]; exact mu_ne (by first | assumption | decide | exact xs_ (by decide) | exact xc_ (by decide) | exact x31_ (by decide) | omega))
  clear e_ρ1
  refine r_aload_n hC dX6_comesWithout_4 rfl ?_
  refine r_iload_n hC dX6_comesWithout_5 rfl ?_
  refine r_iconst hC dX6_comesWithout_6 rfl ?_
  refine r_iload_n hC dX6_comesWithout_7 rfl ?_
  refine r_iconst hC dX6_comesWithout_8 rfl ?_
  refine r_isubE hC ((x - 1)) dX6_comesWithout_9 (by first | assumption | decide | exact xs_ (by decide) | exact xc_ (by decide) | exact x31_ (by decide) | omega) (by unfold inR; omega) ?_
  refine z_inv3 hM dX6_comesWithout_10 vl_RX6_120 rfl rfl rfl (Nat.le_of_ble_eq_true rfl) (Nat.le_of_ble_eq_true rfl) ?_
  refine y_putFrom (n := 0) (u := (woU V l x)) (by first | assumption | decide | exact xs_ (by decide) | exact xc_ (by decide) | exact x31_ (by decide) | omega) (by first | assumption | decide | exact xs_ (by decide) | exact xc_ (by decide) | exact x31_ (by decide) | omega) (by first | assumption | decide | exact xs_ (by decide) | exact xc_ (by decide) | exact x31_ (by decide) | omega) (by first | assumption | decide | exact xs_ (by decide) | exact xc_ (by decide) | exact x31_ (by decide) | omega) (by first | assumption | decide | exact xs_ (by decide) | exact xc_ (by decide) | exact x31_ (by decide) | omega) (n_ρ1 (woU V l x)) (fun j a b => Eq.trans (by show woU V l x (((0 : Nat) : Int) + (j - 0)) = V 9 l j; unfold woU; first | (rw [if_pos (by first | assumption | decide | exact xs_ (by decide) | exact xc_ (by decide) | exact x31_ (by decide) | omega)]; exact congrArg (V 9 l) (by first | assumption | decide | exact xs_ (by decide) | exact xc_ (by decide) | exact x31_ (by decide) | omega)) | (rw [if_neg (by first | assumption | decide | exact xs_ (by decide) | exact xc_ (by decide) | exact x31_ (by decide) | omega)]; exact congrArg (V 9 l) (by first | assumption | decide | exact xs_ (by decide) | exact xc_ (by decide) | exact x31_ (by decide) | omega))) (Rρ1.1.a9 (y := j) (by first | assumption | decide | exact xs_ (by decide) | exact xc_ (by decide) | exact x31_ (by decide) | omega) (by first | assumption | decide | exact xs_ (by decide) | exact xc_ (by decide) | exact x31_ (by decide) | omega) (by first | assumption | decide | exact xs_ (by decide) | exact xc_ (by decide) | exact x31_ (by decide) | omega) (by first | assumption | decide | exact xs_ (by decide) | exact xc_ (by decide) | exact x31_ (by decide) | omega)).symm) (fun ρ2 g_ρ2 w_ρ2 => ?_)
  have Rρ2 : RS t σ0 V ρ2 := RS.mk2 Rρ1.1 Rρ1.2.1 Rρ1.2.2 (fun c p q h => g_ρ2 c p q (by first | assumption | decide | exact xs_ (by decide) | exact xc_ (by decide) | exact x31_ (by decide) | omega))
  clear Rρ1
  refine r_aload_n hC dX6_comesWithout_13 rfl ?_
  refine r_iload_n hC dX6_comesWithout_14 rfl ?_
  refine r_iload_n hC dX6_comesWithout_15 rfl ?_
  refine r_iconst hC dX6_comesWithout_16 rfl ?_
  refine r_iaddE hC ((x + 1)) dX6_comesWithout_17 (by first | assumption | decide | exact xs_ (by decide) | exact xc_ (by decide) | exact x31_ (by decide) | omega) (by unfold inR; omega) ?_
  refine r_aload_n hC dX6_comesWithout_18 rfl ?_
  refine r_iload_n hC dX6_comesWithout_19 rfl ?_
  refine z_inv1 hM dX6_comesWithout_20 vl_RX6_116 rfl rfl rfl (Nat.le_of_ble_eq_true rfl) (Nat.le_of_ble_eq_true rfl) ?_
  refine y_heldOf (by first | assumption | decide | exact xs_ (by decide) | exact xc_ (by decide) | exact x31_ (by decide) | omega) (fun o3 => ?_)
  have e4 : ρ2 31 0 (22 * l + 5) = (V 7 l 6) := (Rρ2.1.a7 (s := 6) (f := 5) (by first | assumption | decide | exact xs_ (by decide) | exact xc_ (by decide) | exact x31_ (by decide) | omega) (by first | assumption | decide | exact xs_ (by decide) | exact xc_ (by decide) | exact x31_ (by decide) | omega) (by first | assumption | decide | exact xs_ (by decide) | exact xc_ (by decide) | exact x31_ (by decide) | omega)).trans (rfl)
  rw [e4] at o3 ⊢
  have qo3 : 0 ≤ (V 7 l 6) ∧ (V 7 l 6) ≤ 121 := o3.1 (by first | assumption | decide | exact xs_ (by decide) | exact xc_ (by decide) | exact x31_ (by decide) | omega)
  refine r_iconst hC dX6_comesWithout_23 rfl ?_
  refine r_isubE hC (((V 7 l 6) - 1)) dX6_comesWithout_24 (by first | assumption | decide | exact xs_ (by decide) | exact xc_ (by decide) | exact x31_ (by decide) | omega) (by unfold inR; omega) ?_
  refine z_inv3 hM dX6_comesWithout_25 vl_RX6_120 rfl rfl rfl (Nat.le_of_ble_eq_true rfl) (Nat.le_of_ble_eq_true rfl) ?_
  refine y_putFrom (n := (0 + ((x - 1) + 1 - 0).toNat)) (u := (woU V l x)) (by first | assumption | decide | exact xs_ (by decide) | exact xc_ (by decide) | exact x31_ (by decide) | omega) (by first | assumption | decide | exact xs_ (by decide) | exact xc_ (by decide) | exact x31_ (by decide) | omega) (by first | assumption | decide | exact xs_ (by decide) | exact xc_ (by decide) | exact x31_ (by decide) | omega) (by first | assumption | decide | exact xs_ (by decide) | exact xc_ (by decide) | exact x31_ (by decide) | omega) (by first | assumption | decide | exact xs_ (by decide) | exact xc_ (by decide) | exact x31_ (by decide) | omega) w_ρ2 (fun j a b => Eq.trans (by show woU V l x ((((0 + ((x - 1) + 1 - 0).toNat) : Nat) : Int) + (j - (x + 1))) = V 9 l j; unfold woU; first | (rw [if_pos (by first | assumption | decide | exact xs_ (by decide) | exact xc_ (by decide) | exact x31_ (by decide) | omega)]; exact congrArg (V 9 l) (by first | assumption | decide | exact xs_ (by decide) | exact xc_ (by decide) | exact x31_ (by decide) | omega)) | (rw [if_neg (by first | assumption | decide | exact xs_ (by decide) | exact xc_ (by decide) | exact x31_ (by decide) | omega)]; exact congrArg (V 9 l) (by first | assumption | decide | exact xs_ (by decide) | exact xc_ (by decide) | exact x31_ (by decide) | omega))) (Rρ2.1.a9 (y := j) (by first | assumption | decide | exact xs_ (by decide) | exact xc_ (by decide) | exact x31_ (by decide) | omega) (by first | assumption | decide | exact xs_ (by decide) | exact xc_ (by decide) | exact x31_ (by decide) | omega) (by first | assumption | decide | exact xs_ (by decide) | exact xc_ (by decide) | exact x31_ (by decide) | omega) (by first | assumption | decide | exact xs_ (by decide) | exact xc_ (by decide) | exact x31_ (by decide) | omega)).symm) (fun ρ5 g_ρ5 w_ρ5 => ?_)
  have Rρ5 : RS t σ0 V ρ5 := RS.mk2 Rρ2.1 Rρ2.2.1 Rρ2.2.2 (fun c p q h => g_ρ5 c p q (by first | assumption | decide | exact xs_ (by decide) | exact xc_ (by decide) | exact x31_ (by decide) | omega))
  clear Rρ2
  refine r_aload_n hC dX6_comesWithout_28 rfl ?_
  refine r_aload_n hC dX6_comesWithout_29 rfl ?_
  refine r_iload_n hC dX6_comesWithout_30 rfl ?_
  refine r_iconst hC dX6_comesWithout_31 rfl ?_
  refine z_inv2 hM dX6_comesWithout_32 vl_RX6_80 rfl rfl rfl (Nat.le_of_ble_eq_true rfl) (Nat.le_of_ble_eq_true rfl) ?_
  refine y_of (by first | assumption | decide | exact xs_ (by decide) | exact xc_ (by decide) | exact x31_ (by decide) | omega) (by first | assumption | decide | exact xs_ (by decide) | exact xc_ (by decide) | exact x31_ (by decide) | omega) (by first | assumption | decide | exact xs_ (by decide) | exact xc_ (by decide) | exact x31_ (by decide) | omega) (fun o6 => ?_)
  have e7 : ρ5 31 0 (22 * l + 1) = (V 7 l 2) := (Rρ5.1.a7 (s := 2) (f := 1) (by first | assumption | decide | exact xs_ (by decide) | exact xc_ (by decide) | exact x31_ (by decide) | omega) (by first | assumption | decide | exact xs_ (by decide) | exact xc_ (by decide) | exact x31_ (by decide) | omega) (by first | assumption | decide | exact xs_ (by decide) | exact xc_ (by decide) | exact x31_ (by decide) | omega)).trans (rfl)
  rw [e7] at o6 ⊢
  refine r_iload_n hC dX6_comesWithout_35 rfl ?_
  refine z_inv2 hM dX6_comesWithout_36 vl_RX6_197 rfl rfl rfl (Nat.le_of_ble_eq_true rfl) (Nat.le_of_ble_eq_true rfl) ?_
  refine y_comes (n := ((0 + ((x - 1) + 1 - 0).toNat) + (((V 7 l 6) - 1) + 1 - (x + 1)).toNat)) (u := (woU V l x)) (by first | assumption | decide | exact xs_ (by decide) | exact xc_ (by decide) | exact x31_ (by decide) | omega) (by first | assumption | decide | exact xs_ (by decide) | exact xc_ (by decide) | exact x31_ (by decide) | omega) (by first | assumption | decide | exact xs_ (by decide) | exact xc_ (by decide) | exact x31_ (by decide) | omega) (by first | assumption | decide | exact xs_ (by decide) | exact xc_ (by decide) | exact x31_ (by decide) | omega) w_ρ5 (fun j h0 h1 => by unfold woU; split; exact (hrow l j (by first | assumption | decide | exact xs_ (by decide) | exact xc_ (by decide) | exact x31_ (by decide) | omega) (by first | assumption | decide | exact xs_ (by decide) | exact xc_ (by decide) | exact x31_ (by decide) | omega) (by first | assumption | decide | exact xs_ (by decide) | exact xc_ (by decide) | exact x31_ (by decide) | omega) (by first | assumption | decide | exact xs_ (by decide) | exact xc_ (by decide) | exact x31_ (by decide) | omega)).2; exact (hrow l (j + 1) (by first | assumption | decide | exact xs_ (by decide) | exact xc_ (by decide) | exact x31_ (by decide) | omega) (by first | assumption | decide | exact xs_ (by decide) | exact xc_ (by decide) | exact x31_ (by decide) | omega) (by first | assumption | decide | exact xs_ (by decide) | exact xc_ (by decide) | exact x31_ (by decide) | omega) (by first | assumption | decide | exact xs_ (by decide) | exact xc_ (by decide) | exact x31_ (by decide) | omega)).2) (fun ρ8 g_ρ8 => ?_)
  rw [cm_t (fun j a b => Rρ5.1.t16 a b) (fun j a b => Rρ5.1.t15 a b) (fun j a b => by rw [Rρ5.1.t15 a (by first | assumption | decide | exact xs_ (by decide) | exact xc_ (by decide) | exact x31_ (by decide) | omega)]; exact hcl j a b)]
  have Rρ8 : RS t σ0 V ρ8 := RS.mk2 Rρ5.1 Rρ5.2.1 Rρ5.2.2 (fun c p q h => g_ρ8 c p q (by first | assumption | decide | exact xs_ (by decide) | exact xc_ (by decide) | exact x31_ (by decide) | omega))
  clear Rρ5
  refine y_iret hK rfl dX6_comesWithout_39 ?_
  have hRr : woV V l x w = (cm (V 16 0) (V 15 0) (V 7 l 2) (woU V l x) ((0 + ((x - 1) + 1 - 0).toNat) + (((V 7 l 6) - 1) + 1 - (x + 1)).toNat) w) := by
    unfold woV
    rw [show (V 7 l 6 - 1).toNat = ((0 + ((x - 1) + 1 - 0).toNat) + (((V 7 l 6) - 1) + 1 - (x + 1)).toNat) from by omega]
  rw [hRr] at k
  exact k _ ⟨Rρ8.1, Rρ8.2.1, Rρ8.2.2⟩
theorem y_without {eb : Bool} {t : Int} {V : Mm} {d : Nat} {P : Option Vl → Mm → Prop} {σ : Mm} {l x w : Int}  {σ0 : Mm} (ht : 6 ≤ t ∧ t ≤ 7) (hR : RS t σ0 V σ) (hG : GI V)  (k : ∀ ρ : Mm, RS t σ0 V ρ → P (some (vI (woR V l x w))) ρ) : WT (true, eb, true) (d + 6) 225 [vR 30 0, vI l, vI x, vI w] σ P := by
  refine WT_in fun K hK => ?_
  have hK : StpY (true, eb, true) cX6_without RX6 (some .int) (WT (true, eb, true) (d + 5)) P K := hK
  have hM := hK.1
  have hC := hK.1.1
  show K 0 [some (vR 30 0), some (vI l), some (vI x), some (vI w)] [] σ
  refine r_rngz hC (fun g0 => ?_)
  have r_l : -2147483648 ≤ l ∧ l ≤ 2147483647 := inR_le (g0 (vI l) (by simp))
  have r_x : -2147483648 ≤ x ∧ x ≤ 2147483647 := inR_le (g0 (vI x) (by simp))
  have r_w : -2147483648 ≤ w ∧ w ≤ 2147483647 := inR_le (g0 (vI w) (by simp))
  have hcl := hG.2.1.2.2.2.2.2.2.2
  have hrow := hG.2.1.2.2.1
  refine r_aload_n hC dX6_without_0 rfl ?_
  refine r_iload_n hC dX6_without_1 rfl ?_
  refine r_iload_n hC dX6_without_2 rfl ?_
  refine z_inv2 hM dX6_without_3 vl_RX6_207 rfl rfl rfl (Nat.le_of_ble_eq_true rfl) (Nat.le_of_ble_eq_true rfl) ?_
  refine y_isNumber (V := V) ht ⟨hR.1, hR.2.1, hR.2.2⟩ (fun l a b => (hG.2.1.2.2.2.1 l a b).2) (fun h1 => ?_) (fun h1 => ?_)
  · unfold lwC opV at h1
    have n_h1 := numF_rng (V 7 l 2)
    have h6 := hG.1.h7 (l := l) (by first | assumption | decide | exact xs_ (by decide) | exact xc_ (by decide) | exact x31_ (by decide) | omega) (by first | assumption | decide | exact xs_ (by decide) | exact xc_ (by decide) | exact x31_ (by decide) | omega)
    have hO_h1 := (hG.2.1.2.2.2.1 l (by first | assumption | decide | exact xs_ (by decide) | exact xc_ (by decide) | exact x31_ (by decide) | omega) (by first | assumption | decide | exact xs_ (by decide) | exact xc_ (by decide) | exact x31_ (by decide) | omega)).2
    refine r_if_eq (tgt := 28) hC dX6_without_6 rfl (fun h2 => by omega) (fun h2 => ?_)
    refine r_aload_n hC dX6_without_9 rfl ?_
    refine r_iload_n hC dX6_without_10 rfl ?_
    refine r_iload_n hC dX6_without_11 rfl ?_
    refine z_inv2 hM dX6_without_12 vl_RX6_262 rfl rfl rfl (Nat.le_of_ble_eq_true rfl) (Nat.le_of_ble_eq_true rfl) ?_
    refine y_isEvent (V := V) ht ⟨hR.1, hR.2.1, hR.2.2⟩ (fun h3 => ?_) (fun h3 => ?_)
    · refine r_if_eq (tgt := 28) hC dX6_without_15 rfl (fun h4 => by omega) (fun h4 => ?_)
      refine r_aload_n hC dX6_without_18 rfl ?_
      refine r_iload_n hC dX6_without_19 rfl ?_
      refine r_iload_n hC dX6_without_20 rfl ?_
      refine r_iload_n hC dX6_without_21 rfl ?_
      refine z_inv3 hM dX6_without_22 vl_RX6_271 rfl rfl rfl (Nat.le_of_ble_eq_true rfl) (Nat.le_of_ble_eq_true rfl) ?_
      refine y_comesWithout (V := V) (by first | assumption | decide | exact xs_ (by decide) | exact xc_ (by decide) | exact x31_ (by decide) | omega) (by first | assumption | decide | exact xs_ (by decide) | exact xc_ (by decide) | exact x31_ (by decide) | omega) (by first | assumption | decide | exact xs_ (by decide) | exact xc_ (by decide) | exact x31_ (by decide) | omega) ht ⟨hR.1, hR.2.1, hR.2.2⟩ hG (by first | assumption | decide | exact xs_ (by decide) | exact xc_ (by decide) | exact x31_ (by decide) | omega) (by first | assumption | decide | exact xs_ (by decide) | exact xc_ (by decide) | exact x31_ (by decide) | omega) (fun ρ5 Rρ5 => ?_)
      refine r_goto (tgt := 30) hC dX6_without_25 rfl ?_
      refine y_iret hK rfl dX6_without_30 ?_
      have hRr : woR V l x w = (woV V l x w) := by
        first | exact if_pos (by unfold lwC opV; omega) | exact if_neg (by unfold lwC opV; omega)
      rw [hRr] at k
      exact k _ ⟨Rρ5.1, Rρ5.2.1, Rρ5.2.2⟩
    · refine r_if_eq (tgt := 28) hC dX6_without_15 rfl (fun h6 => ?_) (fun h6 => by omega)
      refine r_ldc hC dX6_without_28 co_RX6_160 rfl ?_
      refine y_iret hK rfl dX6_without_30 ?_
      have hRr : woR V l x w = (-2147483648) := by
        first | exact if_pos (by unfold lwC opV; omega) | exact if_neg (by unfold lwC opV; omega)
      rw [hRr] at k
      exact k _ ⟨hR.1, hR.2.1, hR.2.2⟩
  · unfold lwC opV at h1
    refine r_if_eq (tgt := 28) hC dX6_without_6 rfl (fun h7 => ?_) (fun h7 => by omega)
    refine r_ldc hC dX6_without_28 co_RX6_160 rfl ?_
    refine y_iret hK rfl dX6_without_30 ?_
    have hRr : woR V l x w = (-2147483648) := by
      first | exact if_pos (by unfold lwC opV; omega) | exact if_neg (by unfold lwC opV; omega)
    rw [hRr] at k
    exact k _ ⟨hR.1, hR.2.1, hR.2.2⟩
theorem y_spare {eb : Bool} {t : Int} {V : Mm} {d : Nat} {P : Option Vl → Mm → Prop} {σ : Mm} {l w : Int}  {σ0 : Mm} (ht : 6 ≤ t ∧ t ≤ 7) (hR : RS t σ0 V σ) (hG : GI V)  (k : ∀ (r : Int) (ρ : Mm), spA V l w r → RS t σ0 V ρ → P (some (vI r)) ρ) : WT (true, eb, true) (d + 6) 226 [vR 30 0, vI l, vI w] σ P := by
  refine WT_in fun K hK => ?_
  have hK : StpY (true, eb, true) cX6_spare RX6 (some .int) (WT (true, eb, true) (d + 5)) P K := hK
  have hM := hK.1
  have hC := hK.1.1
  show K 0 [some (vR 30 0), some (vI l), some (vI w), none, none, none, none] [] σ
  refine r_rngz hC (fun g0 => ?_)
  have r_l : -2147483648 ≤ l ∧ l ≤ 2147483647 := inR_le (g0 (vI l) (by simp))
  have r_w : -2147483648 ≤ w ∧ w ≤ 2147483647 := inR_le (g0 (vI w) (by simp))
  refine r_aload_n hC dX6_spare_0 rfl ?_
  refine r_iload_n hC dX6_spare_1 rfl ?_
  refine r_iload_n hC dX6_spare_2 rfl ?_
  refine z_inv2 hM dX6_spare_3 vl_RX6_207 rfl rfl rfl (Nat.le_of_ble_eq_true rfl) (Nat.le_of_ble_eq_true rfl) ?_
  refine y_isNumber (V := V) ht ⟨hR.1, hR.2.1, hR.2.2⟩ (fun l a b => (hG.2.1.2.2.2.1 l a b).2) (fun h1 => ?_) (fun h1 => ?_)
  · unfold lwC opV at h1
    have n_h1 := numF_rng (V 7 l 2)
    have h6 := hG.1.h7 (l := l) (by first | assumption | decide | exact xs_ (by decide) | exact xc_ (by decide) | exact x31_ (by decide) | omega) (by first | assumption | decide | exact xs_ (by decide) | exact xc_ (by decide) | exact x31_ (by decide) | omega)
    have hO_h1 := (hG.2.1.2.2.2.1 l (by first | assumption | decide | exact xs_ (by decide) | exact xc_ (by decide) | exact x31_ (by decide) | omega) (by first | assumption | decide | exact xs_ (by decide) | exact xc_ (by decide) | exact x31_ (by decide) | omega)).2
    refine r_if_eq (tgt := 18) hC dX6_spare_6 rfl (fun h2 => by omega) (fun h2 => ?_)
    refine r_aload_n hC dX6_spare_9 rfl ?_
    refine r_iload_n hC dX6_spare_10 rfl ?_
    refine z_inv1 hM dX6_spare_11 vl_RX6_116 rfl rfl rfl (Nat.le_of_ble_eq_true rfl) (Nat.le_of_ble_eq_true rfl) ?_
    refine y_heldOf (by first | assumption | decide | exact xs_ (by decide) | exact xc_ (by decide) | exact x31_ (by decide) | omega) (fun o3 => ?_)
    have e4 : σ 31 0 (22 * l + 5) = (V 7 l 6) := (hR.1.a7 (s := 6) (f := 5) (by first | assumption | decide | exact xs_ (by decide) | exact xc_ (by decide) | exact x31_ (by decide) | omega) (by first | assumption | decide | exact xs_ (by decide) | exact xc_ (by decide) | exact x31_ (by decide) | omega) (by first | assumption | decide | exact xs_ (by decide) | exact xc_ (by decide) | exact x31_ (by decide) | omega)).trans (rfl)
    rw [e4] at o3 ⊢
    have qo3 : 0 ≤ (V 7 l 6) ∧ (V 7 l 6) ≤ 121 := o3.1 (by first | assumption | decide | exact xs_ (by decide) | exact xc_ (by decide) | exact x31_ (by decide) | omega)
    refine r_iconst hC dX6_spare_14 rfl ?_
    refine r_icmp_ge (tgt := 20) hC dX6_spare_15 rfl (fun h5 => ?_) (fun h5 => ?_)
    · refine r_iconst hC dX6_spare_20 rfl ?_
      refine r_istore_n hC dX6_spare_21 rfl ?_
      refine r_aload_n hC dX6_spare_22 rfl ?_
      refine r_iload_n hC dX6_spare_23 rfl ?_
      refine r_iconst hC dX6_spare_24 rfl ?_
      refine r_iload_n hC dX6_spare_25 rfl ?_
      refine z_inv3 hM dX6_spare_26 vl_RX6_271 rfl rfl rfl (Nat.le_of_ble_eq_true rfl) (Nat.le_of_ble_eq_true rfl) ?_
      refine y_comesWithout (V := V) (by first | assumption | decide | exact xs_ (by decide) | exact xc_ (by decide) | exact x31_ (by decide) | omega) (by first | assumption | decide | exact xs_ (by decide) | exact xc_ (by decide) | exact x31_ (by decide) | omega) (by first | assumption | decide | exact xs_ (by decide) | exact xc_ (by decide) | exact x31_ (by decide) | omega) ht ⟨hR.1, hR.2.1, hR.2.2⟩ hG (by first | assumption | decide | exact xs_ (by decide) | exact xc_ (by decide) | exact x31_ (by decide) | omega) (by first | assumption | decide | exact xs_ (by decide) | exact xc_ (by decide) | exact x31_ (by decide) | omega) (fun ρ6 Rρ6 => ?_)
      refine r_istore hC dX6_spare_29 rfl ?_
      show K _ [_, _, _, _, _, _, _] _ _
      refine r_rngz hC (fun g1 => ?_)
      have r8_31 : -2147483648 ≤ (woV V l 0 w) ∧ (woV V l 0 w) ≤ 2147483647 := inR_le (g1 (vI (woV V l 0 w)) (by simp))
      refine r_iconst hC dX6_spare_31 rfl ?_
      refine r_istore hC dX6_spare_32 rfl ?_
      have L34 : ∀ (n34 : Nat) (w7 w8 w9 : Int) (ρ10 : Mm), 0 ≤ w7 ∧ w7 ≤ 120 → -2147483648 ≤ w8 ∧ w8 ≤ 2147483647 → 1 ≤ w9 ∧ w9 ≤ 121 → (BestP (fun i => woV V l i w) (w9) (w7) (w8)) → ((w9) ≤ V 7 l 6) → 121 - w9 < (n34 : Int) → (RS t σ0 V ρ10) → K 34 [some (vR 30 0), some (vI l), some (vI w), some (vI w7), some (vI w8), some (vI w9), none] [] ρ10 := by
        intro n34
        induction n34 with
        | zero => intro w7 w8 w9 ρ10 f_w7 f_w8 f_w9 i0_34 i1_34 hm  m0_34; omega
        | succ n34 ih34 =>
          intro w7 w8 w9 ρ10 f_w7 f_w8 f_w9 i0_34 i1_34 hm34  m0_34
          refine r_iload hC dX6_spare_34 rfl ?_
          refine r_aload_n hC dX6_spare_36 rfl ?_
          refine r_iload_n hC dX6_spare_37 rfl ?_
          refine z_inv1 hM dX6_spare_38 vl_RX6_116 rfl rfl rfl (Nat.le_of_ble_eq_true rfl) (Nat.le_of_ble_eq_true rfl) ?_
          refine y_heldOf (by first | assumption | decide | exact xs_ (by decide) | exact xc_ (by decide) | exact x31_ (by decide) | omega) (fun o11 => ?_)
          have e12 : ρ10 31 0 (22 * l + 5) = (V 7 l 6) := (m0_34.1.a7 (s := 6) (f := 5) (by first | assumption | decide | exact xs_ (by decide) | exact xc_ (by decide) | exact x31_ (by decide) | omega) (by first | assumption | decide | exact xs_ (by decide) | exact xc_ (by decide) | exact x31_ (by decide) | omega) (by first | assumption | decide | exact xs_ (by decide) | exact xc_ (by decide) | exact x31_ (by decide) | omega)).trans (rfl)
          rw [e12] at o11 ⊢
          have qo11 : 0 ≤ (V 7 l 6) ∧ (V 7 l 6) ≤ 121 := o11.1 (by first | assumption | decide | exact xs_ (by decide) | exact xc_ (by decide) | exact x31_ (by decide) | omega)
          refine r_icmp_ge (tgt := 77) hC dX6_spare_41 rfl (fun h13 => ?_) (fun h13 => ?_)
          · refine r_iload_n hC dX6_spare_77 rfl ?_
            refine y_iret hK rfl dX6_spare_78 ?_
            have hA : spA V l w w7 := by
              exact ⟨fun z => absurd (by unfold spC lwC opV; omega) z, fun _ => BestP.done (n := w9) i0_34 (by first | assumption | decide | exact xs_ (by decide) | exact xc_ (by decide) | exact x31_ (by decide) | omega)⟩
            exact k _ _ hA ⟨m0_34.1, m0_34.2.1, m0_34.2.2⟩
          · refine r_aload_n hC dX6_spare_44 rfl ?_
            refine r_iload_n hC dX6_spare_45 rfl ?_
            refine r_iload hC dX6_spare_46 rfl ?_
            refine r_iload_n hC dX6_spare_48 rfl ?_
            refine z_inv3 hM dX6_spare_49 vl_RX6_271 rfl rfl rfl (Nat.le_of_ble_eq_true rfl) (Nat.le_of_ble_eq_true rfl) ?_
            refine y_comesWithout (V := V) (by first | assumption | decide | exact xs_ (by decide) | exact xc_ (by decide) | exact x31_ (by decide) | omega) (by first | assumption | decide | exact xs_ (by decide) | exact xc_ (by decide) | exact x31_ (by decide) | omega) (by first | assumption | decide | exact xs_ (by decide) | exact xc_ (by decide) | exact x31_ (by decide) | omega) ht ⟨m0_34.1, m0_34.2.1, m0_34.2.2⟩ hG (by first | assumption | decide | exact xs_ (by decide) | exact xc_ (by decide) | exact x31_ (by decide) | omega) (by first | assumption | decide | exact xs_ (by decide) | exact xc_ (by decide) | exact x31_ (by decide) | omega) (fun ρ14 Rρ14 => ?_)
            refine r_istore hC dX6_spare_52 rfl ?_
            show K _ [_, _, _, _, _, _, _] _ _
            refine r_rngz hC (fun g1 => ?_)
            have r8_54 : -2147483648 ≤ (woV V l w9 w) ∧ (woV V l w9 w) ≤ 2147483647 := inR_le (g1 (vI (woV V l w9 w)) (by simp))
            refine r_iload hC dX6_spare_54 rfl ?_
            refine r_iload hC dX6_spare_56 rfl ?_
            refine r_icmp_gt (tgt := 64) hC dX6_spare_58 rfl (fun h15 => ?_) (fun h15 => ?_)
            · refine r_iload hC dX6_spare_64 rfl ?_
              refine r_istore_n hC dX6_spare_66 rfl ?_
              refine r_iload hC dX6_spare_67 rfl ?_
              refine r_istore hC dX6_spare_69 rfl ?_
              refine r_iincE hC ((w9 + 1)) dX6_spare_71 rfl rfl (by first | assumption | decide | exact xs_ (by decide) | exact xc_ (by decide) | exact x31_ (by decide) | omega) (by unfold inR; omega) ?_
              show K _ [_, _, _, _, _, _, _] _ _
              refine r_goto (tgt := 34) hC dX6_spare_74 rfl ?_
              refine r_forget hC (ls2 := [some (vR 30 0), some (vI l), some (vI w), some (vI w9), some (vI (woV V l w9 w)), some (vI (w9 + 1)), none]) (lsub_some (lsub_some (lsub_some (lsub_some (lsub_some (lsub_some (lsub_none lsub_nil))))))) ?_
              exact ih34 (w9) ((woV V l w9 w)) ((w9 + 1)) ρ14 (by first | assumption | decide | exact xs_ (by decide) | exact xc_ (by decide) | exact x31_ (by decide) | omega) (by first | assumption | decide | exact xs_ (by decide) | exact xc_ (by decide) | exact x31_ (by decide) | omega) (by first | assumption | decide | exact xs_ (by decide) | exact xc_ (by decide) | exact x31_ (by decide) | omega) (by first | exact BestP.one rfl | exact BestP.no i0_34 (by show woV V l w9 w ≤ _; omega) | exact BestP.yes i0_34 (by show _ < woV V l w9 w; omega)) (by first | assumption | decide | exact xs_ (by decide) | exact xc_ (by decide) | exact x31_ (by decide) | omega) (by first | assumption | decide | exact xs_ (by decide) | exact xc_ (by decide) | exact x31_ (by decide) | omega)  (⟨Rρ14.1, Rρ14.2.1, Rρ14.2.2⟩)
            · refine r_goto (tgt := 71) hC dX6_spare_61 rfl ?_
              refine r_iincE hC ((w9 + 1)) dX6_spare_71 rfl rfl (by first | assumption | decide | exact xs_ (by decide) | exact xc_ (by decide) | exact x31_ (by decide) | omega) (by unfold inR; omega) ?_
              refine r_goto (tgt := 34) hC dX6_spare_74 rfl ?_
              refine r_forget hC (ls2 := [some (vR 30 0), some (vI l), some (vI w), some (vI w7), some (vI w8), some (vI (w9 + 1)), none]) (lsub_some (lsub_some (lsub_some (lsub_some (lsub_some (lsub_some (lsub_none lsub_nil))))))) ?_
              exact ih34 (w7) (w8) ((w9 + 1)) ρ14 (by first | assumption | decide | exact xs_ (by decide) | exact xc_ (by decide) | exact x31_ (by decide) | omega) (by first | assumption | decide | exact xs_ (by decide) | exact xc_ (by decide) | exact x31_ (by decide) | omega) (by first | assumption | decide | exact xs_ (by decide) | exact xc_ (by decide) | exact x31_ (by decide) | omega) (by first | exact BestP.one rfl | exact BestP.no i0_34 (by show woV V l w9 w ≤ _; omega) | exact BestP.yes i0_34 (by show _ < woV V l w9 w; omega)) (by first | assumption | decide | exact xs_ (by decide) | exact xc_ (by decide) | exact x31_ (by decide) | omega) (by first | assumption | decide | exact xs_ (by decide) | exact xc_ (by decide) | exact x31_ (by decide) | omega)  (⟨Rρ14.1, Rρ14.2.1, Rρ14.2.2⟩)
      exact L34 123 (0) ((woV V l 0 w)) (1) ρ6 (by first | assumption | decide | exact xs_ (by decide) | exact xc_ (by decide) | exact x31_ (by decide) | omega) (by first | assumption | decide | exact xs_ (by decide) | exact xc_ (by decide) | exact x31_ (by decide) | omega) (by first | assumption | decide | exact xs_ (by decide) | exact xc_ (by decide) | exact x31_ (by decide) | omega) (by first | exact BestP.one rfl | exact BestP.no i0_34 (by show woV V l w9 w ≤ _; omega) | exact BestP.yes i0_34 (by show _ < woV V l w9 w; omega)) (by first | assumption | decide | exact xs_ (by decide) | exact xc_ (by decide) | exact x31_ (by decide) | omega) (by first | assumption | decide | exact xs_ (by decide) | exact xc_ (by decide) | exact x31_ (by decide) | omega)  (⟨Rρ6.1, Rρ6.2.1, Rρ6.2.2⟩)
    · refine r_iconst hC dX6_spare_18 rfl ?_
      refine y_iret hK rfl dX6_spare_19 ?_
      have hA : spA V l w (-1) := by
        exact ⟨fun _ => rfl, fun q => by unfold spC lwC opV at q; omega⟩
      exact k _ _ hA ⟨hR.1, hR.2.1, hR.2.2⟩
  · unfold lwC opV at h1
    refine r_if_eq (tgt := 18) hC dX6_spare_6 rfl (fun h16 => ?_) (fun h16 => by omega)
    refine r_iconst hC dX6_spare_18 rfl ?_
    refine y_iret hK rfl dX6_spare_19 ?_
    have hA : spA V l w (-1) := by
      exact ⟨fun _ => rfl, fun q => by unfold spC lwC opV at q; omega⟩
    exact k _ _ hA ⟨hR.1, hR.2.1, hR.2.2⟩
theorem y_turned {eb : Bool} {t : Int} {V : Mm} {d : Nat} {P : Option Vl → Mm → Prop} {σ : Mm} {l w : Int}  {σ0 : Mm} (ht : 6 ≤ t ∧ t ≤ 7) (hR : RS t σ0 V σ) (hG : GI V)  (k : ∀ ρ : Mm, RS t σ0 V ρ → P (some (vI (tuR V l w))) ρ) : WT (true, eb, true) (d + 5) 227 [vR 30 0, vI l, vI w] σ P := by
  refine WT_in fun K hK => ?_
  have hK : StpY (true, eb, true) cX6_turned RX6 (some .int) (WT (true, eb, true) (d + 4)) P K := hK
  have hM := hK.1
  have hC := hK.1.1
  show K 0 [some (vR 30 0), some (vI l), some (vI w), none] [] σ
  refine r_rngz hC (fun g0 => ?_)
  have r_l : -2147483648 ≤ l ∧ l ≤ 2147483647 := inR_le (g0 (vI l) (by simp))
  have r_w : -2147483648 ≤ w ∧ w ≤ 2147483647 := inR_le (g0 (vI w) (by simp))
  have hcl := hG.2.1.2.2.2.2.2.2.2
  have hrow := hG.2.1.2.2.1
  refine r_aload_n hC dX6_turned_0 rfl ?_
  refine r_iload_n hC dX6_turned_1 rfl ?_
  refine r_iload_n hC dX6_turned_2 rfl ?_
  refine z_inv2 hM dX6_turned_3 vl_RX6_207 rfl rfl rfl (Nat.le_of_ble_eq_true rfl) (Nat.le_of_ble_eq_true rfl) ?_
  refine y_isNumber (V := V) ht ⟨hR.1, hR.2.1, hR.2.2⟩ (fun l a b => (hG.2.1.2.2.2.1 l a b).2) (fun h1 => ?_) (fun h1 => ?_)
  · unfold lwC opV at h1
    have n_h1 := numF_rng (V 7 l 2)
    have h6 := hG.1.h7 (l := l) (by first | assumption | decide | exact xs_ (by decide) | exact xc_ (by decide) | exact x31_ (by decide) | omega) (by first | assumption | decide | exact xs_ (by decide) | exact xc_ (by decide) | exact x31_ (by decide) | omega)
    have hO_h1 := (hG.2.1.2.2.2.1 l (by first | assumption | decide | exact xs_ (by decide) | exact xc_ (by decide) | exact x31_ (by decide) | omega) (by first | assumption | decide | exact xs_ (by decide) | exact xc_ (by decide) | exact x31_ (by decide) | omega)).2
    refine r_if_ne (tgt := 12) hC dX6_turned_6 rfl (fun h2 => ?_) (fun h2 => by omega)
    refine r_aload_n hC dX6_turned_12 rfl ?_
    refine z_inv0 hM dX6_turned_13 vl_RX6_113 rfl rfl rfl (Nat.le_of_ble_eq_true rfl) (Nat.le_of_ble_eq_true rfl) ?_
    refine y_clearRow ?_
    obtain ⟨ρ3, e_ρ3⟩ : ∃ zz_, zz_ = mu σ 30 0 8 0 := ⟨_, rfl⟩
    rw [← e_ρ3]
    have n_ρ3 : ∀ u : Int → Int, RWP ρ3 u 0 := fun u => RWP.nil (by rw [e_ρ3]; exact mu_self _ _ _ _ _)
    have Rρ3 : RS t σ0 V ρ3 := RS.mk2 hR.1 hR.2.1 hR.2.2 (fun c p q h => by rw [e_ρ3]; exact mu_ne (by first | assumption | decide | exact xs_ (by decide) | exact xc_ (by decide) | exact x31_ (by decide) | omega))
    clear e_ρ3
    refine r_aload_n hC dX6_turned_16 rfl ?_
    refine r_iload_n hC dX6_turned_17 rfl ?_
    refine z_inv1 hM dX6_turned_18 vl_RX6_116 rfl rfl rfl (Nat.le_of_ble_eq_true rfl) (Nat.le_of_ble_eq_true rfl) ?_
    refine y_heldOf (by first | assumption | decide | exact xs_ (by decide) | exact xc_ (by decide) | exact x31_ (by decide) | omega) (fun o4 => ?_)
    have e5 : ρ3 31 0 (22 * l + 5) = (V 7 l 6) := (Rρ3.1.a7 (s := 6) (f := 5) (by first | assumption | decide | exact xs_ (by decide) | exact xc_ (by decide) | exact x31_ (by decide) | omega) (by first | assumption | decide | exact xs_ (by decide) | exact xc_ (by decide) | exact x31_ (by decide) | omega) (by first | assumption | decide | exact xs_ (by decide) | exact xc_ (by decide) | exact x31_ (by decide) | omega)).trans (rfl)
    rw [e5] at o4 ⊢
    have qo4 : 0 ≤ (V 7 l 6) ∧ (V 7 l 6) ≤ 121 := o4.1 (by first | assumption | decide | exact xs_ (by decide) | exact xc_ (by decide) | exact x31_ (by decide) | omega)
    refine r_iconst hC dX6_turned_21 rfl ?_
    refine r_isubE hC (((V 7 l 6) - 1)) dX6_turned_22 (by first | assumption | decide | exact xs_ (by decide) | exact xc_ (by decide) | exact x31_ (by decide) | omega) (by unfold inR; omega) ?_
    refine r_istore_n hC dX6_turned_23 rfl ?_
    have L24 : ∀ (n24 : Nat) (w6 : Int) (ρ7 : Mm), -1 ≤ w6 ∧ w6 ≤ 120 → ((w6) ≤ V 7 l 6 - 1) → w6 + 1 < (n24 : Int) → (RS t σ0 V ρ7) → (RWP ρ7 (tuU V l) (V 7 l 6 - 1 - (w6)).toNat) → K 24 [some (vR 30 0), some (vI l), some (vI w), some (vI w6)] [] ρ7 := by
      intro n24
      induction n24 with
      | zero => intro w6 ρ7 f_w6 i0_24 hm  m0_24 m1_24; omega
      | succ n24 ih24 =>
        intro w6 ρ7 f_w6 i0_24 hm24  m0_24 m1_24
        refine r_iload_n hC dX6_turned_24 rfl ?_
        refine r_if_lt (tgt := 49) hC dX6_turned_25 rfl (fun h8 => ?_) (fun h8 => ?_)
        · refine r_aload_n hC dX6_turned_49 rfl ?_
          refine r_aload_n hC dX6_turned_50 rfl ?_
          refine r_iload_n hC dX6_turned_51 rfl ?_
          refine r_iconst hC dX6_turned_52 rfl ?_
          refine z_inv2 hM dX6_turned_53 vl_RX6_80 rfl rfl rfl (Nat.le_of_ble_eq_true rfl) (Nat.le_of_ble_eq_true rfl) ?_
          refine y_of (by first | assumption | decide | exact xs_ (by decide) | exact xc_ (by decide) | exact x31_ (by decide) | omega) (by first | assumption | decide | exact xs_ (by decide) | exact xc_ (by decide) | exact x31_ (by decide) | omega) (by first | assumption | decide | exact xs_ (by decide) | exact xc_ (by decide) | exact x31_ (by decide) | omega) (fun o9 => ?_)
          have e10 : ρ7 31 0 (22 * l + 1) = (V 7 l 2) := (m0_24.1.a7 (s := 2) (f := 1) (by first | assumption | decide | exact xs_ (by decide) | exact xc_ (by decide) | exact x31_ (by decide) | omega) (by first | assumption | decide | exact xs_ (by decide) | exact xc_ (by decide) | exact x31_ (by decide) | omega) (by first | assumption | decide | exact xs_ (by decide) | exact xc_ (by decide) | exact x31_ (by decide) | omega)).trans (rfl)
          rw [e10] at o9 ⊢
          refine r_iload_n hC dX6_turned_56 rfl ?_
          refine z_inv2 hM dX6_turned_57 vl_RX6_197 rfl rfl rfl (Nat.le_of_ble_eq_true rfl) (Nat.le_of_ble_eq_true rfl) ?_
          refine y_comes (n := (V 7 l 6 - 1 - w6).toNat) (u := (tuU V l)) (by first | assumption | decide | exact xs_ (by decide) | exact xc_ (by decide) | exact x31_ (by decide) | omega) (by first | assumption | decide | exact xs_ (by decide) | exact xc_ (by decide) | exact x31_ (by decide) | omega) (by first | assumption | decide | exact xs_ (by decide) | exact xc_ (by decide) | exact x31_ (by decide) | omega) (by first | assumption | decide | exact xs_ (by decide) | exact xc_ (by decide) | exact x31_ (by decide) | omega) m1_24 (fun j h0 h1 => (hrow l (V 7 l 6 - 1 - j) (by first | assumption | decide | exact xs_ (by decide) | exact xc_ (by decide) | exact x31_ (by decide) | omega) (by first | assumption | decide | exact xs_ (by decide) | exact xc_ (by decide) | exact x31_ (by decide) | omega) (by first | assumption | decide | exact xs_ (by decide) | exact xc_ (by decide) | exact x31_ (by decide) | omega) (by first | assumption | decide | exact xs_ (by decide) | exact xc_ (by decide) | exact x31_ (by decide) | omega)).2) (fun ρ11 g_ρ11 => ?_)
          rw [cm_t (fun j a b => m0_24.1.t16 a b) (fun j a b => m0_24.1.t15 a b) (fun j a b => by rw [m0_24.1.t15 a (by first | assumption | decide | exact xs_ (by decide) | exact xc_ (by decide) | exact x31_ (by decide) | omega)]; exact hcl j a b)]
          have Rρ11 : RS t σ0 V ρ11 := RS.mk2 m0_24.1 m0_24.2.1 m0_24.2.2 (fun c p q h => g_ρ11 c p q (by first | assumption | decide | exact xs_ (by decide) | exact xc_ (by decide) | exact x31_ (by decide) | omega))
          refine y_iret hK rfl dX6_turned_60 ?_
          have hRr : tuR V l w = (cm (V 16 0) (V 15 0) (V 7 l 2) (tuU V l) (V 7 l 6 - 1 - w6).toNat w) := by
            unfold tuR
            rw [if_pos (by unfold lwC opV; omega), show (V 7 l 6).toNat = (V 7 l 6 - 1 - w6).toNat from by omega]
          rw [hRr] at k
          exact k _ ⟨Rρ11.1, Rρ11.2.1, Rρ11.2.2⟩
        · refine r_aload_n hC dX6_turned_28 rfl ?_
          refine r_aload_n hC dX6_turned_29 rfl ?_
          refine z_getR hM dX6_turned_30 fl_RX6_16 rfl rfl (vld_of (n := 1) rfl (by first | assumption | decide | exact xs_ (by decide) | exact xc_ (by decide) | exact x31_ (by decide) | omega) (by first | assumption | decide | exact xs_ (by decide) | exact xc_ (by decide) | exact x31_ (by decide) | omega)) ?_
          refine r_bipush hC dX6_turned_33 rfl ?_
          refine r_iload_n hC dX6_turned_35 rfl ?_
          refine r_imulE hC ((121 * l)) dX6_turned_36 (by first | assumption | decide | exact xs_ (by decide) | exact xc_ (by decide) | exact x31_ (by decide) | omega) (by unfold inR; omega) ?_
          refine r_iload_n hC dX6_turned_37 rfl ?_
          refine r_iaddE hC (((121 * l) + w6)) dX6_turned_38 (by first | assumption | decide | exact xs_ (by decide) | exact xc_ (by decide) | exact x31_ (by decide) | omega) (by unfold inR; omega) ?_
          refine z_iald hM dX6_turned_39 rfl (by first | assumption | decide | exact xs_ (by decide) | exact xc_ (by decide) | exact x31_ (by decide) | omega) (by first | assumption | decide | exact xs_ (by decide) | exact xc_ (by decide) | exact x31_ (by decide) | omega) (fun v12 h_v12 o_v12 t_v12 => ?_)
          have w_v12 := ((t_v12 (Or.inl trivial)).trans ((show ρ7 33 0 ((121 * l) + w6) = V 9 l w6 from by rw [show ((121 * l) + w6) = 121 * l + w6 from by omega]; exact m0_24.1.a9 (y := w6) (by first | assumption | decide | exact xs_ (by decide) | exact xc_ (by decide) | exact x31_ (by decide) | omega) (by first | assumption | decide | exact xs_ (by decide) | exact xc_ (by decide) | exact x31_ (by decide) | omega) (by first | assumption | decide | exact xs_ (by decide) | exact xc_ (by decide) | exact x31_ (by decide) | omega) (by first | assumption | decide | exact xs_ (by decide) | exact xc_ (by decide) | exact x31_ (by decide) | omega)).trans (rfl))).symm
          clear t_v12
          subst w_v12
          have q_v12 : -1000 ≤ (V 9 l w6) ∧ (V 9 l w6) ≤ 1000 := o_v12
          refine z_inv1 hM dX6_turned_40 vl_RX6_109 rfl rfl rfl (Nat.le_of_ble_eq_true rfl) (Nat.le_of_ble_eq_true rfl) ?_
          refine y_put (n := (V 7 l 6 - 1 - w6).toNat) (u := (tuU V l)) (by first | assumption | decide | exact xs_ (by decide) | exact xc_ (by decide) | exact x31_ (by decide) | omega) m1_24 (show (V 9 l w6) = V 9 l (V 7 l 6 - 1 - (((V 7 l 6 - 1 - w6).toNat : Nat) : Int)) from congrArg (V 9 l) (by first | assumption | decide | exact xs_ (by decide) | exact xc_ (by decide) | exact x31_ (by decide) | omega)) (fun ρ13 g_ρ13 w_ρ13 => ?_)
          have Rρ13 : RS t σ0 V ρ13 := RS.mk2 m0_24.1 m0_24.2.1 m0_24.2.2 (fun c p q h => g_ρ13 c p q (by first | assumption | decide | exact xs_ (by decide) | exact xc_ (by decide) | exact x31_ (by decide) | omega))
          refine r_iincE hC ((w6 - 1)) dX6_turned_43 rfl rfl (by first | assumption | decide | exact xs_ (by decide) | exact xc_ (by decide) | exact x31_ (by decide) | omega) (by unfold inR; omega) ?_
          refine r_goto (tgt := 24) hC dX6_turned_46 rfl ?_
          exact ih24 ((w6 - 1)) ρ13 (by first | assumption | decide | exact xs_ (by decide) | exact xc_ (by decide) | exact x31_ (by decide) | omega) (by first | assumption | decide | exact xs_ (by decide) | exact xc_ (by decide) | exact x31_ (by decide) | omega) (by first | assumption | decide | exact xs_ (by decide) | exact xc_ (by decide) | exact x31_ (by decide) | omega)  (⟨Rρ13.1, Rρ13.2.1, Rρ13.2.2⟩) (by rw [show (((V 7 l 6 - 1 - (w6 - 1) : Int)).toNat : Nat) = ((V 7 l 6 - 1 - w6).toNat + 1) from by omega]; exact w_ρ13)
    exact L24 123 (((V 7 l 6) - 1)) ρ3 (by first | assumption | decide | exact xs_ (by decide) | exact xc_ (by decide) | exact x31_ (by decide) | omega) (by first | assumption | decide | exact xs_ (by decide) | exact xc_ (by decide) | exact x31_ (by decide) | omega) (by first | assumption | decide | exact xs_ (by decide) | exact xc_ (by decide) | exact x31_ (by decide) | omega)  (⟨Rρ3.1, Rρ3.2.1, Rρ3.2.2⟩) (by rw [show (((V 7 l 6 - 1 - ((V 7 l 6) - 1) : Int)).toNat : Nat) = 0 from by omega]; exact n_ρ3 (tuU V l))
  · unfold lwC opV at h1
    refine r_if_ne (tgt := 12) hC dX6_turned_6 rfl (fun h14 => by omega) (fun h14 => ?_)
    refine r_ldc hC dX6_turned_9 co_RX6_160 rfl ?_
    refine y_iret hK rfl dX6_turned_11 ?_
    have hRr : tuR V l w = (-2147483648) := by
      exact if_neg (by unfold lwC opV; omega)
    rw [hRr] at k
    exact k _ ⟨hR.1, hR.2.1, hR.2.2⟩
theorem y_areAlike {eb : Bool} {t : Int} {V : Mm} {d : Nat} {P : Option Vl → Mm → Prop} {σ : Mm} {l o : Int}  {σ0 : Mm} (ht : 6 ≤ t ∧ t ≤ 7) (hR : RS t σ0 V σ) (hG : GI V)  (k1 : saC V l o → P (some (vI 1)) σ) (k0 : ¬ saC V l o → P (some (vI 0)) σ) : WT (true, eb, true) (d + 3) 231 [vR 30 0, vI l, vI o] σ P := by
  refine WT_in fun K hK => ?_
  have hK : StpY (true, eb, true) cX6_areAlike RX6 (some .boolean) (WT (true, eb, true) (d + 2)) P K := hK
  have hM := hK.1
  have hC := hK.1.1
  show K 0 [some (vR 30 0), some (vI l), some (vI o)] [] σ
  refine r_rngz hC (fun g0 => ?_)
  have r_l : -2147483648 ≤ l ∧ l ≤ 2147483647 := inR_le (g0 (vI l) (by simp))
  have r_o : -2147483648 ≤ o ∧ o ≤ 2147483647 := inR_le (g0 (vI o) (by simp))
  refine r_aload_n hC dX6_areAlike_0 rfl ?_
  refine r_iload_n hC dX6_areAlike_1 rfl ?_
  refine z_inv1 hM dX6_areAlike_2 vl_RX6_124 rfl rfl rfl (Nat.le_of_ble_eq_true rfl) (Nat.le_of_ble_eq_true rfl) ?_
  refine y_isLane (V := V) ht ⟨hR.1, hR.2.1, hR.2.2⟩ (fun h1 => ?_) (fun h1 => ?_)
  · unfold opV at h1
    refine r_if_eq (tgt := 35) hC dX6_areAlike_5 rfl (fun h2 => by omega) (fun h2 => ?_)
    refine r_aload_n hC dX6_areAlike_8 rfl ?_
    refine r_iload_n hC dX6_areAlike_9 rfl ?_
    refine z_inv1 hM dX6_areAlike_10 vl_RX6_124 rfl rfl rfl (Nat.le_of_ble_eq_true rfl) (Nat.le_of_ble_eq_true rfl) ?_
    refine y_isLane (V := V) ht ⟨hR.1, hR.2.1, hR.2.2⟩ (fun h3 => ?_) (fun h3 => ?_)
    · unfold opV at h3
      refine r_if_eq (tgt := 35) hC dX6_areAlike_13 rfl (fun h4 => by omega) (fun h4 => ?_)
      refine r_aload_n hC dX6_areAlike_16 rfl ?_
      refine r_iload_n hC dX6_areAlike_17 rfl ?_
      refine r_iconst hC dX6_areAlike_18 rfl ?_
      refine z_inv2 hM dX6_areAlike_19 vl_RX6_80 rfl rfl rfl (Nat.le_of_ble_eq_true rfl) (Nat.le_of_ble_eq_true rfl) ?_
      refine y_of (by first | assumption | decide | exact xs_ (by decide) | exact xc_ (by decide) | exact x31_ (by decide) | omega) (by first | assumption | decide | exact xs_ (by decide) | exact xc_ (by decide) | exact x31_ (by decide) | omega) (by first | assumption | decide | exact xs_ (by decide) | exact xc_ (by decide) | exact x31_ (by decide) | omega) (fun o5 => ?_)
      have e6 : σ 31 0 (22 * l + 1) = (V 7 l 2) := (hR.1.a7 (s := 2) (f := 1) (by first | assumption | decide | exact xs_ (by decide) | exact xc_ (by decide) | exact x31_ (by decide) | omega) (by first | assumption | decide | exact xs_ (by decide) | exact xc_ (by decide) | exact x31_ (by decide) | omega) (by first | assumption | decide | exact xs_ (by decide) | exact xc_ (by decide) | exact x31_ (by decide) | omega)).trans (rfl)
      rw [e6] at o5 ⊢
      refine r_aload_n hC dX6_areAlike_22 rfl ?_
      refine r_iload_n hC dX6_areAlike_23 rfl ?_
      refine r_iconst hC dX6_areAlike_24 rfl ?_
      refine z_inv2 hM dX6_areAlike_25 vl_RX6_80 rfl rfl rfl (Nat.le_of_ble_eq_true rfl) (Nat.le_of_ble_eq_true rfl) ?_
      refine y_of (by first | assumption | decide | exact xs_ (by decide) | exact xc_ (by decide) | exact x31_ (by decide) | omega) (by first | assumption | decide | exact xs_ (by decide) | exact xc_ (by decide) | exact x31_ (by decide) | omega) (by first | assumption | decide | exact xs_ (by decide) | exact xc_ (by decide) | exact x31_ (by decide) | omega) (fun o7 => ?_)
      have e8 : σ 31 0 (22 * o + 1) = (V 7 o 2) := (hR.1.a7 (s := 2) (f := 1) (by first | assumption | decide | exact xs_ (by decide) | exact xc_ (by decide) | exact x31_ (by decide) | omega) (by first | assumption | decide | exact xs_ (by decide) | exact xc_ (by decide) | exact x31_ (by decide) | omega) (by first | assumption | decide | exact xs_ (by decide) | exact xc_ (by decide) | exact x31_ (by decide) | omega)).trans (rfl)
      rw [e8] at o7 ⊢
      refine r_icmp_ne (tgt := 35) hC dX6_areAlike_28 rfl (fun h9 => ?_) (fun h9 => ?_)
      · refine r_iconst hC dX6_areAlike_35 rfl ?_
        refine y_zret hK rfl dX6_areAlike_36 (by first | assumption | decide | exact xs_ (by decide) | exact xc_ (by decide) | exact x31_ (by decide) | omega) ?_
        exact k0 (by unfold saC opV; omega)
      · refine r_iconst hC dX6_areAlike_31 rfl ?_
        refine r_goto (tgt := 36) hC dX6_areAlike_32 rfl ?_
        refine y_zret hK rfl dX6_areAlike_36 (by first | assumption | decide | exact xs_ (by decide) | exact xc_ (by decide) | exact x31_ (by decide) | omega) ?_
        exact k1 (by unfold saC opV; omega)
    · unfold opV at h3
      refine r_if_eq (tgt := 35) hC dX6_areAlike_13 rfl (fun h10 => ?_) (fun h10 => by omega)
      refine r_iconst hC dX6_areAlike_35 rfl ?_
      refine y_zret hK rfl dX6_areAlike_36 (by first | assumption | decide | exact xs_ (by decide) | exact xc_ (by decide) | exact x31_ (by decide) | omega) ?_
      exact k0 (by unfold saC opV; omega)
  · unfold opV at h1
    refine r_if_eq (tgt := 35) hC dX6_areAlike_5 rfl (fun h11 => ?_) (fun h11 => by omega)
    refine r_iconst hC dX6_areAlike_35 rfl ?_
    refine y_zret hK rfl dX6_areAlike_36 (by first | assumption | decide | exact xs_ (by decide) | exact xc_ (by decide) | exact x31_ (by decide) | omega) ?_
    exact k0 (by unfold saC opV; omega)
theorem y_joined {eb : Bool} {t : Int} {V : Mm} {d : Nat} {P : Option Vl → Mm → Prop} {σ : Mm} {l o w : Int}  {σ0 : Mm} (ht : 6 ≤ t ∧ t ≤ 7) (hR : RS t σ0 V σ) (hG : GI V)  (k : ∀ ρ : Mm, RS t σ0 V ρ → P (some (vI (jnR V l o w))) ρ) : WT (true, eb, true) (d + 5) 232 [vR 30 0, vI l, vI o, vI w] σ P := by
  refine WT_in fun K hK => ?_
  have hK : StpY (true, eb, true) cX6_joined RX6 (some .int) (WT (true, eb, true) (d + 4)) P K := hK
  have hM := hK.1
  have hC := hK.1.1
  show K 0 [some (vR 30 0), some (vI l), some (vI o), some (vI w)] [] σ
  refine r_rngz hC (fun g0 => ?_)
  have r_l : -2147483648 ≤ l ∧ l ≤ 2147483647 := inR_le (g0 (vI l) (by simp))
  have r_o : -2147483648 ≤ o ∧ o ≤ 2147483647 := inR_le (g0 (vI o) (by simp))
  have r_w : -2147483648 ≤ w ∧ w ≤ 2147483647 := inR_le (g0 (vI w) (by simp))
  have hcl := hG.2.1.2.2.2.2.2.2.2
  have hrow := hG.2.1.2.2.1
  refine r_aload_n hC dX6_joined_0 rfl ?_
  refine r_iload_n hC dX6_joined_1 rfl ?_
  refine r_iload_n hC dX6_joined_2 rfl ?_
  refine z_inv2 hM dX6_joined_3 vl_RX6_280 rfl rfl rfl (Nat.le_of_ble_eq_true rfl) (Nat.le_of_ble_eq_true rfl) ?_
  refine y_areAlike (V := V) ht ⟨hR.1, hR.2.1, hR.2.2⟩ hG (fun h1 => ?_) (fun h1 => ?_)
  · unfold saC opV at h1
    have h6_l := hG.1.h7 (l := l) (by first | assumption | decide | exact xs_ (by decide) | exact xc_ (by decide) | exact x31_ (by decide) | omega) (by first | assumption | decide | exact xs_ (by decide) | exact xc_ (by decide) | exact x31_ (by decide) | omega)
    have h6_o := hG.1.h7 (l := o) (by first | assumption | decide | exact xs_ (by decide) | exact xc_ (by decide) | exact x31_ (by decide) | omega) (by first | assumption | decide | exact xs_ (by decide) | exact xc_ (by decide) | exact x31_ (by decide) | omega)
    have hO_l := (hG.2.1.2.2.2.1 l (by first | assumption | decide | exact xs_ (by decide) | exact xc_ (by decide) | exact x31_ (by decide) | omega) (by first | assumption | decide | exact xs_ (by decide) | exact xc_ (by decide) | exact x31_ (by decide) | omega)).2
    refine r_if_eq (tgt := 18) hC dX6_joined_6 rfl (fun h2 => by omega) (fun h2 => ?_)
    refine r_aload_n hC dX6_joined_9 rfl ?_
    refine r_iload_n hC dX6_joined_10 rfl ?_
    refine r_iload_n hC dX6_joined_11 rfl ?_
    refine z_inv2 hM dX6_joined_12 vl_RX6_207 rfl rfl rfl (Nat.le_of_ble_eq_true rfl) (Nat.le_of_ble_eq_true rfl) ?_
    refine y_isNumber (V := V) ht ⟨hR.1, hR.2.1, hR.2.2⟩ (fun l a b => (hG.2.1.2.2.2.1 l a b).2) (fun h3 => ?_) (fun h3 => ?_)
    · unfold lwC opV at h3
      have n_h3 := numF_rng (V 7 l 2)
      have h6 := hG.1.h7 (l := l) (by first | assumption | decide | exact xs_ (by decide) | exact xc_ (by decide) | exact x31_ (by decide) | omega) (by first | assumption | decide | exact xs_ (by decide) | exact xc_ (by decide) | exact x31_ (by decide) | omega)
      have hO_h3 := (hG.2.1.2.2.2.1 l (by first | assumption | decide | exact xs_ (by decide) | exact xc_ (by decide) | exact x31_ (by decide) | omega) (by first | assumption | decide | exact xs_ (by decide) | exact xc_ (by decide) | exact x31_ (by decide) | omega)).2
      refine r_if_ne (tgt := 21) hC dX6_joined_15 rfl (fun h4 => ?_) (fun h4 => by omega)
      refine r_aload_n hC dX6_joined_21 rfl ?_
      refine r_iload_n hC dX6_joined_22 rfl ?_
      refine z_inv1 hM dX6_joined_23 vl_RX6_194 rfl rfl rfl (Nat.le_of_ble_eq_true rfl) (Nat.le_of_ble_eq_true rfl) ?_
      refine y_layAll (V := V) (l := l) (by first | assumption | decide | exact xs_ (by decide) | exact xc_ (by decide) | exact x31_ (by decide) | omega) ht ⟨hR.1, hR.2.1, hR.2.2⟩ (by first | assumption | decide | exact xs_ (by decide) | exact xc_ (by decide) | exact x31_ (by decide) | omega) (hG.2.1.lk hG.1 (by first | assumption | decide | exact xs_ (by decide) | exact xc_ (by decide) | exact x31_ (by decide) | omega) (by first | assumption | decide | exact xs_ (by decide) | exact xc_ (by decide) | exact x31_ (by decide) | omega)) (fun ρ5 Rρ5 w_ρ5 => ?_)
      have v_ρ5 := RWP.cg (v := (jnU V l o)) w_ρ5 (fun j a b => by show V 9 l j = jnU V l o j; unfold jnU; rw [if_pos (by first | assumption | decide | exact xs_ (by decide) | exact xc_ (by decide) | exact x31_ (by decide) | omega)])
      refine r_aload_n hC dX6_joined_26 rfl ?_
      refine r_iload_n hC dX6_joined_27 rfl ?_
      refine r_iconst hC dX6_joined_28 rfl ?_
      refine r_aload_n hC dX6_joined_29 rfl ?_
      refine r_iload_n hC dX6_joined_30 rfl ?_
      refine z_inv1 hM dX6_joined_31 vl_RX6_116 rfl rfl rfl (Nat.le_of_ble_eq_true rfl) (Nat.le_of_ble_eq_true rfl) ?_
      refine y_heldOf (by first | assumption | decide | exact xs_ (by decide) | exact xc_ (by decide) | exact x31_ (by decide) | omega) (fun o6 => ?_)
      have e7 : ρ5 31 0 (22 * o + 5) = (V 7 o 6) := (Rρ5.1.a7 (s := 6) (f := 5) (by first | assumption | decide | exact xs_ (by decide) | exact xc_ (by decide) | exact x31_ (by decide) | omega) (by first | assumption | decide | exact xs_ (by decide) | exact xc_ (by decide) | exact x31_ (by decide) | omega) (by first | assumption | decide | exact xs_ (by decide) | exact xc_ (by decide) | exact x31_ (by decide) | omega)).trans (rfl)
      rw [e7] at o6 ⊢
      have qo6 : 0 ≤ (V 7 o 6) ∧ (V 7 o 6) ≤ 121 := o6.1 (by first | assumption | decide | exact xs_ (by decide) | exact xc_ (by decide) | exact x31_ (by decide) | omega)
      refine r_iconst hC dX6_joined_34 rfl ?_
      refine r_isubE hC (((V 7 o 6) - 1)) dX6_joined_35 (by first | assumption | decide | exact xs_ (by decide) | exact xc_ (by decide) | exact x31_ (by decide) | omega) (by unfold inR; omega) ?_
      refine z_inv3 hM dX6_joined_36 vl_RX6_120 rfl rfl rfl (Nat.le_of_ble_eq_true rfl) (Nat.le_of_ble_eq_true rfl) ?_
      refine y_putFrom (n := (V 7 l 6).toNat) (u := (jnU V l o)) (by first | assumption | decide | exact xs_ (by decide) | exact xc_ (by decide) | exact x31_ (by decide) | omega) (by first | assumption | decide | exact xs_ (by decide) | exact xc_ (by decide) | exact x31_ (by decide) | omega) (by first | assumption | decide | exact xs_ (by decide) | exact xc_ (by decide) | exact x31_ (by decide) | omega) (by first | assumption | decide | exact xs_ (by decide) | exact xc_ (by decide) | exact x31_ (by decide) | omega) (by first | assumption | decide | exact xs_ (by decide) | exact xc_ (by decide) | exact x31_ (by decide) | omega) v_ρ5 (fun j a b => Eq.trans (by show jnU V l o ((((V 7 l 6).toNat : Nat) : Int) + (j - 0)) = V 9 o j; unfold jnU; rw [if_neg (by first | assumption | decide | exact xs_ (by decide) | exact xc_ (by decide) | exact x31_ (by decide) | omega)]; exact congrArg (V 9 o) (by first | assumption | decide | exact xs_ (by decide) | exact xc_ (by decide) | exact x31_ (by decide) | omega)) (Rρ5.1.a9 (y := j) (by first | assumption | decide | exact xs_ (by decide) | exact xc_ (by decide) | exact x31_ (by decide) | omega) (by first | assumption | decide | exact xs_ (by decide) | exact xc_ (by decide) | exact x31_ (by decide) | omega) (by first | assumption | decide | exact xs_ (by decide) | exact xc_ (by decide) | exact x31_ (by decide) | omega) (by first | assumption | decide | exact xs_ (by decide) | exact xc_ (by decide) | exact x31_ (by decide) | omega)).symm) (fun ρ8 g_ρ8 w_ρ8 => ?_)
      have Rρ8 : RS t σ0 V ρ8 := RS.mk2 Rρ5.1 Rρ5.2.1 Rρ5.2.2 (fun c p q h => g_ρ8 c p q (by first | assumption | decide | exact xs_ (by decide) | exact xc_ (by decide) | exact x31_ (by decide) | omega))
      clear Rρ5
      refine r_aload_n hC dX6_joined_39 rfl ?_
      refine r_aload_n hC dX6_joined_40 rfl ?_
      refine r_iload_n hC dX6_joined_41 rfl ?_
      refine r_iconst hC dX6_joined_42 rfl ?_
      refine z_inv2 hM dX6_joined_43 vl_RX6_80 rfl rfl rfl (Nat.le_of_ble_eq_true rfl) (Nat.le_of_ble_eq_true rfl) ?_
      refine y_of (by first | assumption | decide | exact xs_ (by decide) | exact xc_ (by decide) | exact x31_ (by decide) | omega) (by first | assumption | decide | exact xs_ (by decide) | exact xc_ (by decide) | exact x31_ (by decide) | omega) (by first | assumption | decide | exact xs_ (by decide) | exact xc_ (by decide) | exact x31_ (by decide) | omega) (fun o9 => ?_)
      have e10 : ρ8 31 0 (22 * l + 1) = (V 7 l 2) := (Rρ8.1.a7 (s := 2) (f := 1) (by first | assumption | decide | exact xs_ (by decide) | exact xc_ (by decide) | exact x31_ (by decide) | omega) (by first | assumption | decide | exact xs_ (by decide) | exact xc_ (by decide) | exact x31_ (by decide) | omega) (by first | assumption | decide | exact xs_ (by decide) | exact xc_ (by decide) | exact x31_ (by decide) | omega)).trans (rfl)
      rw [e10] at o9 ⊢
      refine r_iload_n hC dX6_joined_46 rfl ?_
      refine z_inv2 hM dX6_joined_47 vl_RX6_197 rfl rfl rfl (Nat.le_of_ble_eq_true rfl) (Nat.le_of_ble_eq_true rfl) ?_
      refine y_comes (n := ((V 7 l 6).toNat + (((V 7 o 6) - 1) + 1 - 0).toNat)) (u := (jnU V l o)) (by first | assumption | decide | exact xs_ (by decide) | exact xc_ (by decide) | exact x31_ (by decide) | omega) (by first | assumption | decide | exact xs_ (by decide) | exact xc_ (by decide) | exact x31_ (by decide) | omega) (by first | assumption | decide | exact xs_ (by decide) | exact xc_ (by decide) | exact x31_ (by decide) | omega) (by first | assumption | decide | exact xs_ (by decide) | exact xc_ (by decide) | exact x31_ (by decide) | omega) w_ρ8 (fun j h0 h1 => by unfold jnU; split; exact (hrow l j (by first | assumption | decide | exact xs_ (by decide) | exact xc_ (by decide) | exact x31_ (by decide) | omega) (by first | assumption | decide | exact xs_ (by decide) | exact xc_ (by decide) | exact x31_ (by decide) | omega) (by first | assumption | decide | exact xs_ (by decide) | exact xc_ (by decide) | exact x31_ (by decide) | omega) (by first | assumption | decide | exact xs_ (by decide) | exact xc_ (by decide) | exact x31_ (by decide) | omega)).2; exact (hrow o (j - V 7 l 6) (by first | assumption | decide | exact xs_ (by decide) | exact xc_ (by decide) | exact x31_ (by decide) | omega) (by first | assumption | decide | exact xs_ (by decide) | exact xc_ (by decide) | exact x31_ (by decide) | omega) (by first | assumption | decide | exact xs_ (by decide) | exact xc_ (by decide) | exact x31_ (by decide) | omega) (by first | assumption | decide | exact xs_ (by decide) | exact xc_ (by decide) | exact x31_ (by decide) | omega)).2) (fun ρ11 g_ρ11 => ?_)
      rw [cm_t (fun j a b => Rρ8.1.t16 a b) (fun j a b => Rρ8.1.t15 a b) (fun j a b => by rw [Rρ8.1.t15 a (by first | assumption | decide | exact xs_ (by decide) | exact xc_ (by decide) | exact x31_ (by decide) | omega)]; exact hcl j a b)]
      have Rρ11 : RS t σ0 V ρ11 := RS.mk2 Rρ8.1 Rρ8.2.1 Rρ8.2.2 (fun c p q h => g_ρ11 c p q (by first | assumption | decide | exact xs_ (by decide) | exact xc_ (by decide) | exact x31_ (by decide) | omega))
      clear Rρ8
      refine y_iret hK rfl dX6_joined_50 ?_
      have hRr : jnR V l o w = (cm (V 16 0) (V 15 0) (V 7 l 2) (jnU V l o) ((V 7 l 6).toNat + (((V 7 o 6) - 1) + 1 - 0).toNat) w) := by
        unfold jnR
        rw [if_pos (by unfold lkC2 lwC opV; omega), show (V 7 l 6 + V 7 o 6).toNat = ((V 7 l 6).toNat + (((V 7 o 6) - 1) + 1 - 0).toNat) from by omega]
      rw [hRr] at k
      exact k _ ⟨Rρ11.1, Rρ11.2.1, Rρ11.2.2⟩
    · unfold lwC opV at h3
      refine r_if_ne (tgt := 21) hC dX6_joined_15 rfl (fun h12 => by omega) (fun h12 => ?_)
      refine r_ldc hC dX6_joined_18 co_RX6_160 rfl ?_
      refine y_iret hK rfl dX6_joined_20 ?_
      have hRr : jnR V l o w = (-2147483648) := by
        exact if_neg (by unfold lkC2 lwC opV; omega)
      rw [hRr] at k
      exact k _ ⟨hR.1, hR.2.1, hR.2.2⟩
  · unfold saC opV at h1
    refine r_if_eq (tgt := 18) hC dX6_joined_6 rfl (fun h13 => ?_) (fun h13 => by omega)
    refine r_ldc hC dX6_joined_18 co_RX6_160 rfl ?_
    refine y_iret hK rfl dX6_joined_20 ?_
    have hRr : jnR V l o w = (-2147483648) := by
      exact if_neg (by unfold lkC2 lwC opV; omega)
    rw [hRr] at k
    exact k _ ⟨hR.1, hR.2.1, hR.2.2⟩
theorem wv_rest {V : Mm} {l o k : Int} (h : 0 ≤ V 7 l 6 ∧ 0 ≤ k) (e : wvI V l o (V 7 l 6 + k).toNat = V 7 l 6) {j : Int} (a : k ≤ j) (b : j < V 7 o 6) : wvU V l o (V 7 l 6 + j) = V 9 o j := by
  have key : ∀ c : Nat, k + c ≤ V 7 o 6 → wvI V l o (V 7 l 6 + (k + c)).toNat = V 7 l 6 := fun c => by
    induction c with
    | zero =>
      intro _
      rw [show k + ((0 : Nat) : Int) = k from by omega]
      exact e
    | succ c ih =>
      intro q
      have i1 := ih (by first | assumption | decide | exact xs_ (by decide) | exact xc_ (by decide) | exact x31_ (by decide) | omega)
      have i2 := wvI_n (V := V) (l := l) (o := o) (i := V 7 l 6) (k := k + c) (by first | assumption | decide | exact xs_ (by decide) | exact xc_ (by decide) | exact x31_ (by decide) | omega) i1.symm (by unfold wvC; omega)
      rw [show k + ((c + 1 : Nat) : Int) = k + c + 1 from by omega]
      exact i2.symm
  have q := key (j - k).toNat (by first | assumption | decide | exact xs_ (by decide) | exact xc_ (by decide) | exact x31_ (by decide) | omega)
  rw [show k + ((j - k).toNat : Int) = j from by omega] at q
  have z := wvU_n (V := V) (l := l) (o := o) (i := V 7 l 6) (k := j) (n := (V 7 l 6 + j).toNat) (by first | assumption | decide | exact xs_ (by decide) | exact xc_ (by decide) | exact x31_ (by decide) | omega) q.symm (by unfold wvC; omega)
  rw [show (((V 7 l 6 + j).toNat : Nat) : Int) = V 7 l 6 + j from by omega] at z
  exact z.symm
theorem y_woven {eb : Bool} {t : Int} {V : Mm} {d : Nat} {P : Option Vl → Mm → Prop} {σ : Mm} {l o w : Int}  {σ0 : Mm} (ht : 6 ≤ t ∧ t ≤ 7) (hR : RS t σ0 V σ) (hG : GI V)  (k : ∀ ρ : Mm, RS t σ0 V ρ → P (some (vI (wvR V l o w))) ρ) : WT (true, eb, true) (d + 5) 233 [vR 30 0, vI l, vI o, vI w] σ P := by
  refine WT_in fun K hK => ?_
  have hK : StpY (true, eb, true) cX6_woven RX6 (some .int) (WT (true, eb, true) (d + 4)) P K := hK
  have hM := hK.1
  have hC := hK.1.1
  show K 0 [some (vR 30 0), some (vI l), some (vI o), some (vI w), none, none] [] σ
  refine r_rngz hC (fun g0 => ?_)
  have r_l : -2147483648 ≤ l ∧ l ≤ 2147483647 := inR_le (g0 (vI l) (by simp))
  have r_o : -2147483648 ≤ o ∧ o ≤ 2147483647 := inR_le (g0 (vI o) (by simp))
  have r_w : -2147483648 ≤ w ∧ w ≤ 2147483647 := inR_le (g0 (vI w) (by simp))
  have hcl := hG.2.1.2.2.2.2.2.2.2
  have hrow := hG.2.1.2.2.1
  refine r_aload_n hC dX6_woven_0 rfl ?_
  refine r_iload_n hC dX6_woven_1 rfl ?_
  refine r_iload_n hC dX6_woven_2 rfl ?_
  refine z_inv2 hM dX6_woven_3 vl_RX6_280 rfl rfl rfl (Nat.le_of_ble_eq_true rfl) (Nat.le_of_ble_eq_true rfl) ?_
  refine y_areAlike (V := V) ht ⟨hR.1, hR.2.1, hR.2.2⟩ hG (fun h1 => ?_) (fun h1 => ?_)
  · unfold saC opV at h1
    have h6_l := hG.1.h7 (l := l) (by first | assumption | decide | exact xs_ (by decide) | exact xc_ (by decide) | exact x31_ (by decide) | omega) (by first | assumption | decide | exact xs_ (by decide) | exact xc_ (by decide) | exact x31_ (by decide) | omega)
    have h6_o := hG.1.h7 (l := o) (by first | assumption | decide | exact xs_ (by decide) | exact xc_ (by decide) | exact x31_ (by decide) | omega) (by first | assumption | decide | exact xs_ (by decide) | exact xc_ (by decide) | exact x31_ (by decide) | omega)
    have hO_l := (hG.2.1.2.2.2.1 l (by first | assumption | decide | exact xs_ (by decide) | exact xc_ (by decide) | exact x31_ (by decide) | omega) (by first | assumption | decide | exact xs_ (by decide) | exact xc_ (by decide) | exact x31_ (by decide) | omega)).2
    refine r_if_eq (tgt := 18) hC dX6_woven_6 rfl (fun h2 => by omega) (fun h2 => ?_)
    refine r_aload_n hC dX6_woven_9 rfl ?_
    refine r_iload_n hC dX6_woven_10 rfl ?_
    refine r_iload_n hC dX6_woven_11 rfl ?_
    refine z_inv2 hM dX6_woven_12 vl_RX6_207 rfl rfl rfl (Nat.le_of_ble_eq_true rfl) (Nat.le_of_ble_eq_true rfl) ?_
    refine y_isNumber (V := V) ht ⟨hR.1, hR.2.1, hR.2.2⟩ (fun l a b => (hG.2.1.2.2.2.1 l a b).2) (fun h3 => ?_) (fun h3 => ?_)
    · unfold lwC opV at h3
      have n_h3 := numF_rng (V 7 l 2)
      have h6 := hG.1.h7 (l := l) (by first | assumption | decide | exact xs_ (by decide) | exact xc_ (by decide) | exact x31_ (by decide) | omega) (by first | assumption | decide | exact xs_ (by decide) | exact xc_ (by decide) | exact x31_ (by decide) | omega)
      have hO_h3 := (hG.2.1.2.2.2.1 l (by first | assumption | decide | exact xs_ (by decide) | exact xc_ (by decide) | exact x31_ (by decide) | omega) (by first | assumption | decide | exact xs_ (by decide) | exact xc_ (by decide) | exact x31_ (by decide) | omega)).2
      refine r_if_ne (tgt := 21) hC dX6_woven_15 rfl (fun h4 => ?_) (fun h4 => by omega)
      refine r_aload_n hC dX6_woven_21 rfl ?_
      refine z_inv0 hM dX6_woven_22 vl_RX6_113 rfl rfl rfl (Nat.le_of_ble_eq_true rfl) (Nat.le_of_ble_eq_true rfl) ?_
      refine y_clearRow ?_
      obtain ⟨ρ5, e_ρ5⟩ : ∃ zz_, zz_ = mu σ 30 0 8 0 := ⟨_, rfl⟩
      rw [← e_ρ5]
      have n_ρ5 : ∀ u : Int → Int, RWP ρ5 u 0 := fun u => RWP.nil (by rw [e_ρ5]; exact mu_self _ _ _ _ _)
      have Rρ5 : RS t σ0 V ρ5 := RS.mk2 hR.1 hR.2.1 hR.2.2 (fun c p q h => by rw [e_ρ5]; exact mu_ne (by first | assumption | decide | exact xs_ (by decide) | exact xc_ (by decide) | exact x31_ (by decide) | omega))
      clear e_ρ5
      refine r_iconst hC dX6_woven_25 rfl ?_
      refine r_istore hC dX6_woven_26 rfl ?_
      refine r_iconst hC dX6_woven_28 rfl ?_
      refine r_istore hC dX6_woven_29 rfl ?_
      have L31 : ∀ (n31 : Nat) (w6 w7 : Int) (ρ8 : Mm), 0 ≤ w6 ∧ w6 ≤ 121 → 0 ≤ w7 ∧ w7 ≤ 121 → ((w7) = wvI V l o ((w7) + (w6)).toNat) → ((w7) ≤ V 7 l 6) → ((w6) ≤ V 7 o 6) → 121 - w7 < (n31 : Int) → (RS t σ0 V ρ8) → (RWP ρ8 (wvU V l o) ((w7) + (w6)).toNat) → K 31 [some (vR 30 0), some (vI l), some (vI o), some (vI w), some (vI w6), some (vI w7)] [] ρ8 := by
        intro n31
        induction n31 with
        | zero => intro w6 w7 ρ8 f_w6 f_w7 i0_31 i1_31 i2_31 hm  m0_31 m1_31; omega
        | succ n31 ih31 =>
          intro w6 w7 ρ8 f_w6 f_w7 i0_31 i1_31 i2_31 hm31  m0_31 m1_31
          refine r_iload hC dX6_woven_31 rfl ?_
          refine r_aload_n hC dX6_woven_33 rfl ?_
          refine r_iload_n hC dX6_woven_34 rfl ?_
          refine z_inv1 hM dX6_woven_35 vl_RX6_116 rfl rfl rfl (Nat.le_of_ble_eq_true rfl) (Nat.le_of_ble_eq_true rfl) ?_
          refine y_heldOf (by first | assumption | decide | exact xs_ (by decide) | exact xc_ (by decide) | exact x31_ (by decide) | omega) (fun o9 => ?_)
          have e10 : ρ8 31 0 (22 * l + 5) = (V 7 l 6) := (m0_31.1.a7 (s := 6) (f := 5) (by first | assumption | decide | exact xs_ (by decide) | exact xc_ (by decide) | exact x31_ (by decide) | omega) (by first | assumption | decide | exact xs_ (by decide) | exact xc_ (by decide) | exact x31_ (by decide) | omega) (by first | assumption | decide | exact xs_ (by decide) | exact xc_ (by decide) | exact x31_ (by decide) | omega)).trans (rfl)
          rw [e10] at o9 ⊢
          have qo9 : 0 ≤ (V 7 l 6) ∧ (V 7 l 6) ≤ 121 := o9.1 (by first | assumption | decide | exact xs_ (by decide) | exact xc_ (by decide) | exact x31_ (by decide) | omega)
          refine r_icmp_ge (tgt := 122) hC dX6_woven_38 rfl (fun h11 => ?_) (fun h11 => ?_)
          · refine r_aload_n hC dX6_woven_122 rfl ?_
            refine r_iload_n hC dX6_woven_123 rfl ?_
            refine r_iload hC dX6_woven_124 rfl ?_
            refine r_aload_n hC dX6_woven_126 rfl ?_
            refine r_iload_n hC dX6_woven_127 rfl ?_
            refine z_inv1 hM dX6_woven_128 vl_RX6_116 rfl rfl rfl (Nat.le_of_ble_eq_true rfl) (Nat.le_of_ble_eq_true rfl) ?_
            refine y_heldOf (by first | assumption | decide | exact xs_ (by decide) | exact xc_ (by decide) | exact x31_ (by decide) | omega) (fun o12 => ?_)
            have e13 : ρ8 31 0 (22 * o + 5) = (V 7 o 6) := (m0_31.1.a7 (s := 6) (f := 5) (by first | assumption | decide | exact xs_ (by decide) | exact xc_ (by decide) | exact x31_ (by decide) | omega) (by first | assumption | decide | exact xs_ (by decide) | exact xc_ (by decide) | exact x31_ (by decide) | omega) (by first | assumption | decide | exact xs_ (by decide) | exact xc_ (by decide) | exact x31_ (by decide) | omega)).trans (rfl)
            rw [e13] at o12 ⊢
            have qo12 : 0 ≤ (V 7 o 6) ∧ (V 7 o 6) ≤ 121 := o12.1 (by first | assumption | decide | exact xs_ (by decide) | exact xc_ (by decide) | exact x31_ (by decide) | omega)
            refine r_iconst hC dX6_woven_131 rfl ?_
            refine r_isubE hC (((V 7 o 6) - 1)) dX6_woven_132 (by first | assumption | decide | exact xs_ (by decide) | exact xc_ (by decide) | exact x31_ (by decide) | omega) (by unfold inR; omega) ?_
            refine z_inv3 hM dX6_woven_133 vl_RX6_120 rfl rfl rfl (Nat.le_of_ble_eq_true rfl) (Nat.le_of_ble_eq_true rfl) ?_
            refine y_putFrom (n := (w7 + w6).toNat) (u := (wvU V l o)) (by first | assumption | decide | exact xs_ (by decide) | exact xc_ (by decide) | exact x31_ (by decide) | omega) (by first | assumption | decide | exact xs_ (by decide) | exact xc_ (by decide) | exact x31_ (by decide) | omega) (by first | assumption | decide | exact xs_ (by decide) | exact xc_ (by decide) | exact x31_ (by decide) | omega) (by first | assumption | decide | exact xs_ (by decide) | exact xc_ (by decide) | exact x31_ (by decide) | omega) (by first | assumption | decide | exact xs_ (by decide) | exact xc_ (by decide) | exact x31_ (by decide) | omega) m1_31 (fun j a b => Eq.trans (by have q := wv_rest (V := V) (l := l) (o := o) (k := w6) (by first | assumption | decide | exact xs_ (by decide) | exact xc_ (by decide) | exact x31_ (by decide) | omega) (by rw [show (V 7 l 6 + w6).toNat = (w7 + w6).toNat from by omega, ← i0_31]; omega) a (by first | assumption | decide | exact xs_ (by decide) | exact xc_ (by decide) | exact x31_ (by decide) | omega); rw [show ((((w7 + w6).toNat : Nat) : Int) + (j - w6)) = V 7 l 6 + j from by omega]; exact q) (m0_31.1.a9 (y := j) (by first | assumption | decide | exact xs_ (by decide) | exact xc_ (by decide) | exact x31_ (by decide) | omega) (by first | assumption | decide | exact xs_ (by decide) | exact xc_ (by decide) | exact x31_ (by decide) | omega) (by first | assumption | decide | exact xs_ (by decide) | exact xc_ (by decide) | exact x31_ (by decide) | omega) (by first | assumption | decide | exact xs_ (by decide) | exact xc_ (by decide) | exact x31_ (by decide) | omega)).symm) (fun ρ14 g_ρ14 w_ρ14 => ?_)
            have Rρ14 : RS t σ0 V ρ14 := RS.mk2 m0_31.1 m0_31.2.1 m0_31.2.2 (fun c p q h => g_ρ14 c p q (by first | assumption | decide | exact xs_ (by decide) | exact xc_ (by decide) | exact x31_ (by decide) | omega))
            refine r_aload_n hC dX6_woven_136 rfl ?_
            refine r_aload_n hC dX6_woven_137 rfl ?_
            refine r_iload_n hC dX6_woven_138 rfl ?_
            refine r_iconst hC dX6_woven_139 rfl ?_
            refine z_inv2 hM dX6_woven_140 vl_RX6_80 rfl rfl rfl (Nat.le_of_ble_eq_true rfl) (Nat.le_of_ble_eq_true rfl) ?_
            refine y_of (by first | assumption | decide | exact xs_ (by decide) | exact xc_ (by decide) | exact x31_ (by decide) | omega) (by first | assumption | decide | exact xs_ (by decide) | exact xc_ (by decide) | exact x31_ (by decide) | omega) (by first | assumption | decide | exact xs_ (by decide) | exact xc_ (by decide) | exact x31_ (by decide) | omega) (fun o15 => ?_)
            have e16 : ρ14 31 0 (22 * l + 1) = (V 7 l 2) := (Rρ14.1.a7 (s := 2) (f := 1) (by first | assumption | decide | exact xs_ (by decide) | exact xc_ (by decide) | exact x31_ (by decide) | omega) (by first | assumption | decide | exact xs_ (by decide) | exact xc_ (by decide) | exact x31_ (by decide) | omega) (by first | assumption | decide | exact xs_ (by decide) | exact xc_ (by decide) | exact x31_ (by decide) | omega)).trans (rfl)
            rw [e16] at o15 ⊢
            refine r_iload_n hC dX6_woven_143 rfl ?_
            refine z_inv2 hM dX6_woven_144 vl_RX6_197 rfl rfl rfl (Nat.le_of_ble_eq_true rfl) (Nat.le_of_ble_eq_true rfl) ?_
            refine y_comes (n := ((w7 + w6).toNat + (((V 7 o 6) - 1) + 1 - w6).toNat)) (u := (wvU V l o)) (by first | assumption | decide | exact xs_ (by decide) | exact xc_ (by decide) | exact x31_ (by decide) | omega) (by first | assumption | decide | exact xs_ (by decide) | exact xc_ (by decide) | exact x31_ (by decide) | omega) (by first | assumption | decide | exact xs_ (by decide) | exact xc_ (by decide) | exact x31_ (by decide) | omega) (by first | assumption | decide | exact xs_ (by decide) | exact xc_ (by decide) | exact x31_ (by decide) | omega) w_ρ14 (fun j h0 h1 => wvU_b h6_l h6_o (fun y a b => (hrow l y (by first | assumption | decide | exact xs_ (by decide) | exact xc_ (by decide) | exact x31_ (by decide) | omega) (by first | assumption | decide | exact xs_ (by decide) | exact xc_ (by decide) | exact x31_ (by decide) | omega) a b).2) (fun y a b => (hrow o y (by first | assumption | decide | exact xs_ (by decide) | exact xc_ (by decide) | exact x31_ (by decide) | omega) (by first | assumption | decide | exact xs_ (by decide) | exact xc_ (by decide) | exact x31_ (by decide) | omega) a b).2) h0 (by first | assumption | decide | exact xs_ (by decide) | exact xc_ (by decide) | exact x31_ (by decide) | omega)) (fun ρ17 g_ρ17 => ?_)
            rw [cm_t (fun j a b => Rρ14.1.t16 a b) (fun j a b => Rρ14.1.t15 a b) (fun j a b => by rw [Rρ14.1.t15 a (by first | assumption | decide | exact xs_ (by decide) | exact xc_ (by decide) | exact x31_ (by decide) | omega)]; exact hcl j a b)]
            have Rρ17 : RS t σ0 V ρ17 := RS.mk2 Rρ14.1 Rρ14.2.1 Rρ14.2.2 (fun c p q h => g_ρ17 c p q (by first | assumption | decide | exact xs_ (by decide) | exact xc_ (by decide) | exact x31_ (by decide) | omega))
            clear Rρ14
            refine y_iret hK rfl dX6_woven_147 ?_
            have hRr : wvR V l o w = (cm (V 16 0) (V 15 0) (V 7 l 2) (wvU V l o) ((w7 + w6).toNat + (((V 7 o 6) - 1) + 1 - w6).toNat) w) := by
              unfold wvR
              rw [if_pos (by unfold lkC2 lwC opV; omega), show (V 7 l 6 + V 7 o 6).toNat = ((w7 + w6).toNat + (((V 7 o 6) - 1) + 1 - w6).toNat) from by omega]
            rw [hRr] at k
            exact k _ ⟨Rρ17.1, Rρ17.2.1, Rρ17.2.2⟩
          · have L41 : ∀ (n41 : Nat) (w18 : Int) (ρ19 : Mm), 0 ≤ w18 ∧ w18 ≤ 121 → ((w7) = wvI V l o ((w7) + (w18)).toNat) → ((w18) ≤ V 7 o 6) → 121 - w18 < (n41 : Int) → (RS t σ0 V ρ19) → (RWP ρ19 (wvU V l o) ((w7) + (w18)).toNat) → K 41 [some (vR 30 0), some (vI l), some (vI o), some (vI w), some (vI w18), some (vI w7)] [] ρ19 := by
              intro n41
              induction n41 with
              | zero => intro w18 ρ19 f_w18 i0_41 i1_41 hm  m0_41 m1_41; omega
              | succ n41 ih41 =>
                intro w18 ρ19 f_w18 i0_41 i1_41 hm41  m0_41 m1_41
                refine r_iload hC dX6_woven_41 rfl ?_
                refine r_aload_n hC dX6_woven_43 rfl ?_
                refine r_iload_n hC dX6_woven_44 rfl ?_
                refine z_inv1 hM dX6_woven_45 vl_RX6_116 rfl rfl rfl (Nat.le_of_ble_eq_true rfl) (Nat.le_of_ble_eq_true rfl) ?_
                refine y_heldOf (by first | assumption | decide | exact xs_ (by decide) | exact xc_ (by decide) | exact x31_ (by decide) | omega) (fun o20 => ?_)
                have e21 : ρ19 31 0 (22 * o + 5) = (V 7 o 6) := (m0_41.1.a7 (s := 6) (f := 5) (by first | assumption | decide | exact xs_ (by decide) | exact xc_ (by decide) | exact x31_ (by decide) | omega) (by first | assumption | decide | exact xs_ (by decide) | exact xc_ (by decide) | exact x31_ (by decide) | omega) (by first | assumption | decide | exact xs_ (by decide) | exact xc_ (by decide) | exact x31_ (by decide) | omega)).trans (rfl)
                rw [e21] at o20 ⊢
                have qo20 : 0 ≤ (V 7 o 6) ∧ (V 7 o 6) ≤ 121 := o20.1 (by first | assumption | decide | exact xs_ (by decide) | exact xc_ (by decide) | exact x31_ (by decide) | omega)
                refine r_icmp_ge (tgt := 100) hC dX6_woven_48 rfl (fun h22 => ?_) (fun h22 => ?_)
                · refine r_aload_n hC dX6_woven_100 rfl ?_
                  refine r_aload_n hC dX6_woven_101 rfl ?_
                  refine z_getR hM dX6_woven_102 fl_RX6_16 rfl rfl (vld_of (n := 1) rfl (by first | assumption | decide | exact xs_ (by decide) | exact xc_ (by decide) | exact x31_ (by decide) | omega) (by first | assumption | decide | exact xs_ (by decide) | exact xc_ (by decide) | exact x31_ (by decide) | omega)) ?_
                  refine r_bipush hC dX6_woven_105 rfl ?_
                  refine r_iload_n hC dX6_woven_107 rfl ?_
                  refine r_imulE hC ((121 * l)) dX6_woven_108 (by first | assumption | decide | exact xs_ (by decide) | exact xc_ (by decide) | exact x31_ (by decide) | omega) (by unfold inR; omega) ?_
                  refine r_iload hC dX6_woven_109 rfl ?_
                  refine r_iaddE hC (((121 * l) + w7)) dX6_woven_111 (by first | assumption | decide | exact xs_ (by decide) | exact xc_ (by decide) | exact x31_ (by decide) | omega) (by unfold inR; omega) ?_
                  refine z_iald hM dX6_woven_112 rfl (by first | assumption | decide | exact xs_ (by decide) | exact xc_ (by decide) | exact x31_ (by decide) | omega) (by first | assumption | decide | exact xs_ (by decide) | exact xc_ (by decide) | exact x31_ (by decide) | omega) (fun v23 h_v23 o_v23 t_v23 => ?_)
                  have w_v23 := ((t_v23 (Or.inl trivial)).trans ((show ρ19 33 0 ((121 * l) + w7) = V 9 l w7 from by rw [show ((121 * l) + w7) = 121 * l + w7 from by omega]; exact m0_41.1.a9 (y := w7) (by first | assumption | decide | exact xs_ (by decide) | exact xc_ (by decide) | exact x31_ (by decide) | omega) (by first | assumption | decide | exact xs_ (by decide) | exact xc_ (by decide) | exact x31_ (by decide) | omega) (by first | assumption | decide | exact xs_ (by decide) | exact xc_ (by decide) | exact x31_ (by decide) | omega) (by first | assumption | decide | exact xs_ (by decide) | exact xc_ (by decide) | exact x31_ (by decide) | omega)).trans (rfl))).symm
                  clear t_v23
                  subst w_v23
                  have q_v23 : -1000 ≤ (V 9 l w7) ∧ (V 9 l w7) ≤ 1000 := o_v23
                  refine z_inv1 hM dX6_woven_113 vl_RX6_109 rfl rfl rfl (Nat.le_of_ble_eq_true rfl) (Nat.le_of_ble_eq_true rfl) ?_
                  refine y_put (n := (w7 + w18).toNat) (u := (wvU V l o)) (by first | assumption | decide | exact xs_ (by decide) | exact xc_ (by decide) | exact x31_ (by decide) | omega) m1_41 (wvU_y (i := w7) (k := w18) (by first | assumption | decide | exact xs_ (by decide) | exact xc_ (by decide) | exact x31_ (by decide) | omega) (i0_41.trans (congrArg (wvI V l o) (by first | assumption | decide | exact xs_ (by decide) | exact xc_ (by decide) | exact x31_ (by decide) | omega))) (by unfold wvC; omega)) (fun ρ24 g_ρ24 w_ρ24 => ?_)
                  have Rρ24 : RS t σ0 V ρ24 := RS.mk2 m0_41.1 m0_41.2.1 m0_41.2.2 (fun c p q h => g_ρ24 c p q (by first | assumption | decide | exact xs_ (by decide) | exact xc_ (by decide) | exact x31_ (by decide) | omega))
                  refine r_iincE hC ((w7 + 1)) dX6_woven_116 rfl rfl (by first | assumption | decide | exact xs_ (by decide) | exact xc_ (by decide) | exact x31_ (by decide) | omega) (by unfold inR; omega) ?_
                  refine r_goto (tgt := 31) hC dX6_woven_119 rfl ?_
                  exact ih31 (w18) ((w7 + 1)) ρ24 (by first | assumption | decide | exact xs_ (by decide) | exact xc_ (by decide) | exact x31_ (by decide) | omega) (by first | assumption | decide | exact xs_ (by decide) | exact xc_ (by decide) | exact x31_ (by decide) | omega) (by first | rfl | exact wvI_y (by first | assumption | decide | exact xs_ (by decide) | exact xc_ (by decide) | exact x31_ (by decide) | omega) i0_41 (by unfold wvC; omega)) (by first | assumption | decide | exact xs_ (by decide) | exact xc_ (by decide) | exact x31_ (by decide) | omega) (by first | assumption | decide | exact xs_ (by decide) | exact xc_ (by decide) | exact x31_ (by decide) | omega) (by first | assumption | decide | exact xs_ (by decide) | exact xc_ (by decide) | exact x31_ (by decide) | omega)  (⟨Rρ24.1, Rρ24.2.1, Rρ24.2.2⟩) (by rw [show ((((w7 + 1) + w18 : Int)).toNat : Nat) = ((w7 + w18).toNat + 1) from by omega]; exact w_ρ24)
                · refine r_aload_n hC dX6_woven_51 rfl ?_
                  refine z_getR hM dX6_woven_52 fl_RX6_13 rfl rfl (vld_of (n := 1) rfl (by first | assumption | decide | exact xs_ (by decide) | exact xc_ (by decide) | exact x31_ (by decide) | omega) (by first | assumption | decide | exact xs_ (by decide) | exact xc_ (by decide) | exact x31_ (by decide) | omega)) ?_
                  refine r_bipush hC dX6_woven_55 rfl ?_
                  refine r_iload_n hC dX6_woven_57 rfl ?_
                  refine r_imulE hC ((121 * o)) dX6_woven_58 (by first | assumption | decide | exact xs_ (by decide) | exact xc_ (by decide) | exact x31_ (by decide) | omega) (by unfold inR; omega) ?_
                  refine r_iload hC dX6_woven_59 rfl ?_
                  refine r_iaddE hC (((121 * o) + w18)) dX6_woven_61 (by first | assumption | decide | exact xs_ (by decide) | exact xc_ (by decide) | exact x31_ (by decide) | omega) (by unfold inR; omega) ?_
                  refine z_iald hM dX6_woven_62 rfl (by first | assumption | decide | exact xs_ (by decide) | exact xc_ (by decide) | exact x31_ (by decide) | omega) (by first | assumption | decide | exact xs_ (by decide) | exact xc_ (by decide) | exact x31_ (by decide) | omega) (fun v25 h_v25 o_v25 t_v25 => ?_)
                  have w_v25 := ((t_v25 (Or.inl trivial)).trans ((show ρ19 32 0 ((121 * o) + w18) = V 8 o w18 from by rw [show ((121 * o) + w18) = 121 * o + w18 from by omega]; exact m0_41.1.a8 (y := w18) (by first | assumption | decide | exact xs_ (by decide) | exact xc_ (by decide) | exact x31_ (by decide) | omega) (by first | assumption | decide | exact xs_ (by decide) | exact xc_ (by decide) | exact x31_ (by decide) | omega) (by first | assumption | decide | exact xs_ (by decide) | exact xc_ (by decide) | exact x31_ (by decide) | omega) (by first | assumption | decide | exact xs_ (by decide) | exact xc_ (by decide) | exact x31_ (by decide) | omega)).trans (rfl))).symm
                  clear t_v25
                  subst w_v25
                  refine r_aload_n hC dX6_woven_63 rfl ?_
                  refine z_getR hM dX6_woven_64 fl_RX6_13 rfl rfl (vld_of (n := 1) rfl (by first | assumption | decide | exact xs_ (by decide) | exact xc_ (by decide) | exact x31_ (by decide) | omega) (by first | assumption | decide | exact xs_ (by decide) | exact xc_ (by decide) | exact x31_ (by decide) | omega)) ?_
                  refine r_bipush hC dX6_woven_67 rfl ?_
                  refine r_iload_n hC dX6_woven_69 rfl ?_
                  refine r_imulE hC ((121 * l)) dX6_woven_70 (by first | assumption | decide | exact xs_ (by decide) | exact xc_ (by decide) | exact x31_ (by decide) | omega) (by unfold inR; omega) ?_
                  refine r_iload hC dX6_woven_71 rfl ?_
                  refine r_iaddE hC (((121 * l) + w7)) dX6_woven_73 (by first | assumption | decide | exact xs_ (by decide) | exact xc_ (by decide) | exact x31_ (by decide) | omega) (by unfold inR; omega) ?_
                  refine z_iald hM dX6_woven_74 rfl (by first | assumption | decide | exact xs_ (by decide) | exact xc_ (by decide) | exact x31_ (by decide) | omega) (by first | assumption | decide | exact xs_ (by decide) | exact xc_ (by decide) | exact x31_ (by decide) | omega) (fun v26 h_v26 o_v26 t_v26 => ?_)
                  have w_v26 := ((t_v26 (Or.inl trivial)).trans ((show ρ19 32 0 ((121 * l) + w7) = V 8 l w7 from by rw [show ((121 * l) + w7) = 121 * l + w7 from by omega]; exact m0_41.1.a8 (y := w7) (by first | assumption | decide | exact xs_ (by decide) | exact xc_ (by decide) | exact x31_ (by decide) | omega) (by first | assumption | decide | exact xs_ (by decide) | exact xc_ (by decide) | exact x31_ (by decide) | omega) (by first | assumption | decide | exact xs_ (by decide) | exact xc_ (by decide) | exact x31_ (by decide) | omega) (by first | assumption | decide | exact xs_ (by decide) | exact xc_ (by decide) | exact x31_ (by decide) | omega)).trans (rfl))).symm
                  clear t_v26
                  subst w_v26
                  refine r_icmp_ge (tgt := 100) hC dX6_woven_75 rfl (fun h27 => ?_) (fun h27 => ?_)
                  · refine r_aload_n hC dX6_woven_100 rfl ?_
                    refine r_aload_n hC dX6_woven_101 rfl ?_
                    refine z_getR hM dX6_woven_102 fl_RX6_16 rfl rfl (vld_of (n := 1) rfl (by first | assumption | decide | exact xs_ (by decide) | exact xc_ (by decide) | exact x31_ (by decide) | omega) (by first | assumption | decide | exact xs_ (by decide) | exact xc_ (by decide) | exact x31_ (by decide) | omega)) ?_
                    refine r_bipush hC dX6_woven_105 rfl ?_
                    refine r_iload_n hC dX6_woven_107 rfl ?_
                    refine r_imulE hC ((121 * l)) dX6_woven_108 (by first | assumption | decide | exact xs_ (by decide) | exact xc_ (by decide) | exact x31_ (by decide) | omega) (by unfold inR; omega) ?_
                    refine r_iload hC dX6_woven_109 rfl ?_
                    refine r_iaddE hC (((121 * l) + w7)) dX6_woven_111 (by first | assumption | decide | exact xs_ (by decide) | exact xc_ (by decide) | exact x31_ (by decide) | omega) (by unfold inR; omega) ?_
                    refine z_iald hM dX6_woven_112 rfl (by first | assumption | decide | exact xs_ (by decide) | exact xc_ (by decide) | exact x31_ (by decide) | omega) (by first | assumption | decide | exact xs_ (by decide) | exact xc_ (by decide) | exact x31_ (by decide) | omega) (fun v28 h_v28 o_v28 t_v28 => ?_)
                    have w_v28 := ((t_v28 (Or.inl trivial)).trans ((show ρ19 33 0 ((121 * l) + w7) = V 9 l w7 from by rw [show ((121 * l) + w7) = 121 * l + w7 from by omega]; exact m0_41.1.a9 (y := w7) (by first | assumption | decide | exact xs_ (by decide) | exact xc_ (by decide) | exact x31_ (by decide) | omega) (by first | assumption | decide | exact xs_ (by decide) | exact xc_ (by decide) | exact x31_ (by decide) | omega) (by first | assumption | decide | exact xs_ (by decide) | exact xc_ (by decide) | exact x31_ (by decide) | omega) (by first | assumption | decide | exact xs_ (by decide) | exact xc_ (by decide) | exact x31_ (by decide) | omega)).trans (rfl))).symm
                    clear t_v28
                    subst w_v28
                    have q_v28 : -1000 ≤ (V 9 l w7) ∧ (V 9 l w7) ≤ 1000 := o_v28
                    refine z_inv1 hM dX6_woven_113 vl_RX6_109 rfl rfl rfl (Nat.le_of_ble_eq_true rfl) (Nat.le_of_ble_eq_true rfl) ?_
                    refine y_put (n := (w7 + w18).toNat) (u := (wvU V l o)) (by first | assumption | decide | exact xs_ (by decide) | exact xc_ (by decide) | exact x31_ (by decide) | omega) m1_41 (wvU_y (i := w7) (k := w18) (by first | assumption | decide | exact xs_ (by decide) | exact xc_ (by decide) | exact x31_ (by decide) | omega) (i0_41.trans (congrArg (wvI V l o) (by first | assumption | decide | exact xs_ (by decide) | exact xc_ (by decide) | exact x31_ (by decide) | omega))) (by unfold wvC; omega)) (fun ρ29 g_ρ29 w_ρ29 => ?_)
                    have Rρ29 : RS t σ0 V ρ29 := RS.mk2 m0_41.1 m0_41.2.1 m0_41.2.2 (fun c p q h => g_ρ29 c p q (by first | assumption | decide | exact xs_ (by decide) | exact xc_ (by decide) | exact x31_ (by decide) | omega))
                    refine r_iincE hC ((w7 + 1)) dX6_woven_116 rfl rfl (by first | assumption | decide | exact xs_ (by decide) | exact xc_ (by decide) | exact x31_ (by decide) | omega) (by unfold inR; omega) ?_
                    refine r_goto (tgt := 31) hC dX6_woven_119 rfl ?_
                    exact ih31 (w18) ((w7 + 1)) ρ29 (by first | assumption | decide | exact xs_ (by decide) | exact xc_ (by decide) | exact x31_ (by decide) | omega) (by first | assumption | decide | exact xs_ (by decide) | exact xc_ (by decide) | exact x31_ (by decide) | omega) (by first | rfl | exact wvI_y (by first | assumption | decide | exact xs_ (by decide) | exact xc_ (by decide) | exact x31_ (by decide) | omega) i0_41 (by unfold wvC; omega)) (by first | assumption | decide | exact xs_ (by decide) | exact xc_ (by decide) | exact x31_ (by decide) | omega) (by first | assumption | decide | exact xs_ (by decide) | exact xc_ (by decide) | exact x31_ (by decide) | omega) (by first | assumption | decide | exact xs_ (by decide) | exact xc_ (by decide) | exact x31_ (by decide) | omega)  (⟨Rρ29.1, Rρ29.2.1, Rρ29.2.2⟩) (by rw [show ((((w7 + 1) + w18 : Int)).toNat : Nat) = ((w7 + w18).toNat + 1) from by omega]; exact w_ρ29)
                  · refine r_aload_n hC dX6_woven_78 rfl ?_
                    refine r_aload_n hC dX6_woven_79 rfl ?_
                    refine z_getR hM dX6_woven_80 fl_RX6_16 rfl rfl (vld_of (n := 1) rfl (by first | assumption | decide | exact xs_ (by decide) | exact xc_ (by decide) | exact x31_ (by decide) | omega) (by first | assumption | decide | exact xs_ (by decide) | exact xc_ (by decide) | exact x31_ (by decide) | omega)) ?_
                    refine r_bipush hC dX6_woven_83 rfl ?_
                    refine r_iload_n hC dX6_woven_85 rfl ?_
                    refine r_imulE hC ((121 * o)) dX6_woven_86 (by first | assumption | decide | exact xs_ (by decide) | exact xc_ (by decide) | exact x31_ (by decide) | omega) (by unfold inR; omega) ?_
                    refine r_iload hC dX6_woven_87 rfl ?_
                    refine r_iaddE hC (((121 * o) + w18)) dX6_woven_89 (by first | assumption | decide | exact xs_ (by decide) | exact xc_ (by decide) | exact x31_ (by decide) | omega) (by unfold inR; omega) ?_
                    refine z_iald hM dX6_woven_90 rfl (by first | assumption | decide | exact xs_ (by decide) | exact xc_ (by decide) | exact x31_ (by decide) | omega) (by first | assumption | decide | exact xs_ (by decide) | exact xc_ (by decide) | exact x31_ (by decide) | omega) (fun v30 h_v30 o_v30 t_v30 => ?_)
                    have w_v30 := ((t_v30 (Or.inl trivial)).trans ((show ρ19 33 0 ((121 * o) + w18) = V 9 o w18 from by rw [show ((121 * o) + w18) = 121 * o + w18 from by omega]; exact m0_41.1.a9 (y := w18) (by first | assumption | decide | exact xs_ (by decide) | exact xc_ (by decide) | exact x31_ (by decide) | omega) (by first | assumption | decide | exact xs_ (by decide) | exact xc_ (by decide) | exact x31_ (by decide) | omega) (by first | assumption | decide | exact xs_ (by decide) | exact xc_ (by decide) | exact x31_ (by decide) | omega) (by first | assumption | decide | exact xs_ (by decide) | exact xc_ (by decide) | exact x31_ (by decide) | omega)).trans (rfl))).symm
                    clear t_v30
                    subst w_v30
                    have q_v30 : -1000 ≤ (V 9 o w18) ∧ (V 9 o w18) ≤ 1000 := o_v30
                    refine z_inv1 hM dX6_woven_91 vl_RX6_109 rfl rfl rfl (Nat.le_of_ble_eq_true rfl) (Nat.le_of_ble_eq_true rfl) ?_
                    refine y_put (n := (w7 + w18).toNat) (u := (wvU V l o)) (by first | assumption | decide | exact xs_ (by decide) | exact xc_ (by decide) | exact x31_ (by decide) | omega) m1_41 (wvU_n (i := w7) (k := w18) (by first | assumption | decide | exact xs_ (by decide) | exact xc_ (by decide) | exact x31_ (by decide) | omega) (i0_41.trans (congrArg (wvI V l o) (by first | assumption | decide | exact xs_ (by decide) | exact xc_ (by decide) | exact x31_ (by decide) | omega))) (by unfold wvC; omega)) (fun ρ31 g_ρ31 w_ρ31 => ?_)
                    have Rρ31 : RS t σ0 V ρ31 := RS.mk2 m0_41.1 m0_41.2.1 m0_41.2.2 (fun c p q h => g_ρ31 c p q (by first | assumption | decide | exact xs_ (by decide) | exact xc_ (by decide) | exact x31_ (by decide) | omega))
                    refine r_iincE hC ((w18 + 1)) dX6_woven_94 rfl rfl (by first | assumption | decide | exact xs_ (by decide) | exact xc_ (by decide) | exact x31_ (by decide) | omega) (by unfold inR; omega) ?_
                    refine r_goto (tgt := 41) hC dX6_woven_97 rfl ?_
                    exact ih41 ((w18 + 1)) ρ31 (by first | assumption | decide | exact xs_ (by decide) | exact xc_ (by decide) | exact x31_ (by decide) | omega) (by first | exact i0_31 | exact wvI_n (by first | assumption | decide | exact xs_ (by decide) | exact xc_ (by decide) | exact x31_ (by decide) | omega) i0_41 (by unfold wvC; omega)) (by first | assumption | decide | exact xs_ (by decide) | exact xc_ (by decide) | exact x31_ (by decide) | omega) (by first | assumption | decide | exact xs_ (by decide) | exact xc_ (by decide) | exact x31_ (by decide) | omega)  (⟨Rρ31.1, Rρ31.2.1, Rρ31.2.2⟩) (by rw [show (((w7 + (w18 + 1) : Int)).toNat : Nat) = ((w7 + w18).toNat + 1) from by omega]; exact w_ρ31)
            exact L41 123 (w6) ρ8 (by first | assumption | decide | exact xs_ (by decide) | exact xc_ (by decide) | exact x31_ (by decide) | omega) (by first | exact i0_31 | exact wvI_n (by first | assumption | decide | exact xs_ (by decide) | exact xc_ (by decide) | exact x31_ (by decide) | omega) i0_41 (by unfold wvC; omega)) (by first | assumption | decide | exact xs_ (by decide) | exact xc_ (by decide) | exact x31_ (by decide) | omega) (by first | assumption | decide | exact xs_ (by decide) | exact xc_ (by decide) | exact x31_ (by decide) | omega)  (⟨m0_31.1, m0_31.2.1, m0_31.2.2⟩) (by rw [show (((w7 + w6 : Int)).toNat : Nat) = (w7 + w6).toNat from by omega]; exact m1_31)
      exact L31 123 (0) (0) ρ5 (by first | assumption | decide | exact xs_ (by decide) | exact xc_ (by decide) | exact x31_ (by decide) | omega) (by first | assumption | decide | exact xs_ (by decide) | exact xc_ (by decide) | exact x31_ (by decide) | omega) (by first | rfl | exact wvI_y (by first | assumption | decide | exact xs_ (by decide) | exact xc_ (by decide) | exact x31_ (by decide) | omega) i0_41 (by unfold wvC; omega)) (by first | assumption | decide | exact xs_ (by decide) | exact xc_ (by decide) | exact x31_ (by decide) | omega) (by first | assumption | decide | exact xs_ (by decide) | exact xc_ (by decide) | exact x31_ (by decide) | omega) (by first | assumption | decide | exact xs_ (by decide) | exact xc_ (by decide) | exact x31_ (by decide) | omega)  (⟨Rρ5.1, Rρ5.2.1, Rρ5.2.2⟩) (by rw [show (((0 + 0 : Int)).toNat : Nat) = 0 from by omega]; exact n_ρ5 (wvU V l o))
    · unfold lwC opV at h3
      refine r_if_ne (tgt := 21) hC dX6_woven_15 rfl (fun h32 => by omega) (fun h32 => ?_)
      refine r_ldc hC dX6_woven_18 co_RX6_160 rfl ?_
      refine y_iret hK rfl dX6_woven_20 ?_
      have hRr : wvR V l o w = (-2147483648) := by
        exact if_neg (by unfold lkC2 lwC opV; omega)
      rw [hRr] at k
      exact k _ ⟨hR.1, hR.2.1, hR.2.2⟩
  · unfold saC opV at h1
    refine r_if_eq (tgt := 18) hC dX6_woven_6 rfl (fun h33 => ?_) (fun h33 => by omega)
    refine r_ldc hC dX6_woven_18 co_RX6_160 rfl ?_
    refine y_iret hK rfl dX6_woven_20 ?_
    have hRr : wvR V l o w = (-2147483648) := by
      exact if_neg (by unfold lkC2 lwC opV; omega)
    rw [hRr] at k
    exact k _ ⟨hR.1, hR.2.1, hR.2.2⟩
-- B: the reference: same, commutes
def FKx (σ ρ : Mm) : Prop := ∀ (c : Nat) (p q : Int), ¬ (c = 30 ∨ c = 37 ∨ c = 38) → ρ c p q = σ c p q
theorem y_goThroughW {eb : Bool} {n : Nat} {u : Int → Int} {d : Nat} {P : Option Vl → Mm → Prop} {σ : Mm} {o : Int} (b_o : 0 ≤ o ∧ o ≤ 9) (hn1 : 1 ≤ n) (hn : n ≤ 242) (hR : RWP σ u n) (hb : Bd u n) (k : ∀ ρ : Mm, Gx (fun c x y => c = 38 ∧ x = 0) σ ρ → (∀ k : Int, 0 ≤ k → k < numF o → ρ 38 0 k = cmN (σ 36 0) (σ 35 0) o u n k) → P none ρ) : WT (true, eb, true) (d + 3) 158 [vR 30 0, vI o] σ P :=
  y_goThrough b_o hR.1 hn1 hn (hb.cg hR.2) (fun ρ g h => k ρ g (fun k a b => (h k a b).trans (cmN_c (fun j a b => hR.2 j a b))))
theorem y_layAllK {eb : Bool} {t : Int} {V : Mm} {d : Nat} {P : Option Vl → Mm → Prop} {σ : Mm} {l : Int} (b_l : 0 ≤ l ∧ l ≤ 7) {σ0 : Mm} (ht : 6 ≤ t ∧ t ≤ 7) (hR : RS t σ0 V σ) (hl : l ≤ t) (hL : LK V l)  (k : ∀ ρ : Mm, RS t σ0 V ρ → FKx σ ρ → RWP ρ (V 9 l) (V 7 l 6).toNat → P none ρ) : WT (true, eb, true) (d + 3) 155 [vR 30 0, vI l] σ P := by
  refine WT_in fun K hK => ?_
  have hK : StpY (true, eb, true) cX6_layAll RX6 (none) (WT (true, eb, true) (d + 2)) P K := hK
  have hM := hK.1
  have hC := hK.1.1
  show K 0 [some (vR 30 0), some (vI l)] [] σ
  have hop := hL.1
  have h6 := hL.2.1
  refine r_aload_n hC dX6_layAll_0 rfl ?_
  refine z_inv0 hM dX6_layAll_1 vl_RX6_113 rfl rfl rfl (Nat.le_of_ble_eq_true rfl) (Nat.le_of_ble_eq_true rfl) ?_
  refine y_clearRow ?_
  obtain ⟨ρ1, e_ρ1⟩ : ∃ zz_, zz_ = mu σ 30 0 8 0 := ⟨_, rfl⟩
  rw [← e_ρ1]
  have n_ρ1 : ∀ u : Int → Int, RWP ρ1 u 0 := fun u => RWP.nil (by rw [e_ρ1]; exact mu_self _ _ _ _ _)
  have f_ρ1 : FKx σ ρ1 := fun c p q h => by rw [e_ρ1]; exact mu_ne (by first | assumption | decide | exact xs_ (by decide) | exact xc_ (by decide) | exact x31_ (by decide) | omega)
  clear e_ρ1
  have Rρ1 : RS t σ0 V ρ1 := RS.mk2 hR.1 hR.2.1 hR.2.2 (fun c p q h => f_ρ1 c p q (by first | assumption | decide | exact xs_ (by decide) | exact xc_ (by decide) | exact x31_ (by decide) | omega))
  refine r_aload_n hC dX6_layAll_4 rfl ?_
  refine r_iload_n hC dX6_layAll_5 rfl ?_
  refine r_iconst hC dX6_layAll_6 rfl ?_
  refine r_aload_n hC dX6_layAll_7 rfl ?_
  refine r_iload_n hC dX6_layAll_8 rfl ?_
  refine z_inv1 hM dX6_layAll_9 vl_RX6_116 rfl rfl rfl (Nat.le_of_ble_eq_true rfl) (Nat.le_of_ble_eq_true rfl) ?_
  refine y_heldOf (by first | assumption | decide | exact xs_ (by decide) | exact xc_ (by decide) | exact x31_ (by decide) | omega) (fun o2 => ?_)
  have e3 : ρ1 31 0 (22 * l + 5) = (V 7 l 6) := (Rρ1.1.a7 (s := 6) (f := 5) (by first | assumption | decide | exact xs_ (by decide) | exact xc_ (by decide) | exact x31_ (by decide) | omega) (by first | assumption | decide | exact xs_ (by decide) | exact xc_ (by decide) | exact x31_ (by decide) | omega) (by first | assumption | decide | exact xs_ (by decide) | exact xc_ (by decide) | exact x31_ (by decide) | omega)).trans (rfl)
  rw [e3] at o2 ⊢
  have qo2 : 0 ≤ (V 7 l 6) ∧ (V 7 l 6) ≤ 121 := o2.1 (by first | assumption | decide | exact xs_ (by decide) | exact xc_ (by decide) | exact x31_ (by decide) | omega)
  refine r_iconst hC dX6_layAll_12 rfl ?_
  refine r_isubE hC (((V 7 l 6) - 1)) dX6_layAll_13 (by first | assumption | decide | exact xs_ (by decide) | exact xc_ (by decide) | exact x31_ (by decide) | omega) (by unfold inR; omega) ?_
  refine z_inv3 hM dX6_layAll_14 vl_RX6_120 rfl rfl rfl (Nat.le_of_ble_eq_true rfl) (Nat.le_of_ble_eq_true rfl) ?_
  refine y_putFrom (n := 0) (u := (V 9 l)) (by first | assumption | decide | exact xs_ (by decide) | exact xc_ (by decide) | exact x31_ (by decide) | omega) (by first | assumption | decide | exact xs_ (by decide) | exact xc_ (by decide) | exact x31_ (by decide) | omega) (by first | assumption | decide | exact xs_ (by decide) | exact xc_ (by decide) | exact x31_ (by decide) | omega) (by first | assumption | decide | exact xs_ (by decide) | exact xc_ (by decide) | exact x31_ (by decide) | omega) (by first | assumption | decide | exact xs_ (by decide) | exact xc_ (by decide) | exact x31_ (by decide) | omega) (n_ρ1 (V 9 l)) (fun j a b => by rw [show (((0 : Nat) : Int) + (j - 0)) = j from by omega]; exact (Rρ1.1.a9 (y := j) (by first | assumption | decide | exact xs_ (by decide) | exact xc_ (by decide) | exact x31_ (by decide) | omega) (by first | assumption | decide | exact xs_ (by decide) | exact xc_ (by decide) | exact x31_ (by decide) | omega) (by first | assumption | decide | exact xs_ (by decide) | exact xc_ (by decide) | exact x31_ (by decide) | omega) (by first | assumption | decide | exact xs_ (by decide) | exact xc_ (by decide) | exact x31_ (by decide) | omega)).symm) (fun ρ4 g_ρ4 w_ρ4 => ?_)
  have f_ρ4 : FKx ρ1 ρ4 := fun c p q h => g_ρ4 c p q (by first | assumption | decide | exact xs_ (by decide) | exact xc_ (by decide) | exact x31_ (by decide) | omega)
  have Rρ4 : RS t σ0 V ρ4 := RS.mk2 Rρ1.1 Rρ1.2.1 Rρ1.2.2 (fun c p q h => f_ρ4 c p q (by first | assumption | decide | exact xs_ (by decide) | exact xc_ (by decide) | exact x31_ (by decide) | omega))
  clear Rρ1
  refine y_vret hK rfl dX6_layAll_17 ?_
  have q := w_ρ4
  rw [show (0 + (((V 7 l 6) - 1) + 1 - 0).toNat) = (V 7 l 6).toNat from by omega] at q
  exact k _ ⟨Rρ4.1, Rρ4.2.1, Rρ4.2.2⟩ (fun c p q h => (f_ρ4 c p q h).trans (f_ρ1 c p q h)) q
theorem y_comesFromK {eb : Bool} {t : Int} {V : Mm} {d : Nat} {P : Option Vl → Mm → Prop} {σ : Mm} {l f z w : Int} (b_l : 0 ≤ l ∧ l ≤ 7) (b_f : 0 ≤ f ∧ f ≤ 121) (b_z : -2147483648 ≤ z ∧ z ≤ 120) (b_w : 0 ≤ w ∧ w ≤ 6) {σ0 : Mm} (ht : 6 ≤ t ∧ t ≤ 7) (hR : RS t σ0 V σ) (hl : l ≤ t) (hL : LK V l) (hw : w < numF (V 7 l 2))  (k : ∀ ρ : Mm, RS t σ0 V ρ → FKx σ ρ → P (some (vI (cm (V 16 0) (V 15 0) (V 7 l 2) (fun j => V 9 l (f + j)) (z + 1 - f).toNat w))) ρ) : WT (true, eb, true) (d + 5) 213 [vR 30 0, vI l, vI f, vI z, vI w] σ P := by
  refine WT_in fun K hK => ?_
  have hK : StpY (true, eb, true) cX6_comesFrom RX6 (some .int) (WT (true, eb, true) (d + 4)) P K := hK
  have hM := hK.1
  have hC := hK.1.1
  show K 0 [some (vR 30 0), some (vI l), some (vI f), some (vI z), some (vI w)] [] σ
  have hop := hL.1
  have h6 := hL.2.1
  have hBd_ : Bd (fun j => V 9 l (f + j)) (0 + (z + 1 - f).toNat) := fun j a b => hL.2.2.1 (f + j) (by first | assumption | decide | exact xs_ (by decide) | exact xc_ (by decide) | exact x31_ (by decide) | omega) (by first | assumption | decide | exact xs_ (by decide) | exact xc_ (by decide) | exact x31_ (by decide) | omega)
  refine r_aload_n hC dX6_comesFrom_0 rfl ?_
  refine z_inv0 hM dX6_comesFrom_1 vl_RX6_113 rfl rfl rfl (Nat.le_of_ble_eq_true rfl) (Nat.le_of_ble_eq_true rfl) ?_
  refine y_clearRow ?_
  obtain ⟨ρ1, e_ρ1⟩ : ∃ zz_, zz_ = mu σ 30 0 8 0 := ⟨_, rfl⟩
  rw [← e_ρ1]
  have n_ρ1 : ∀ u : Int → Int, RWP ρ1 u 0 := fun u => RWP.nil (by rw [e_ρ1]; exact mu_self _ _ _ _ _)
  have f_ρ1 : FKx σ ρ1 := fun c p q h => by rw [e_ρ1]; exact mu_ne (by first | assumption | decide | exact xs_ (by decide) | exact xc_ (by decide) | exact x31_ (by decide) | omega)
  clear e_ρ1
  have Rρ1 : RS t σ0 V ρ1 := RS.mk2 hR.1 hR.2.1 hR.2.2 (fun c p q h => f_ρ1 c p q (by first | assumption | decide | exact xs_ (by decide) | exact xc_ (by decide) | exact x31_ (by decide) | omega))
  refine r_aload_n hC dX6_comesFrom_4 rfl ?_
  refine r_iload_n hC dX6_comesFrom_5 rfl ?_
  refine r_iload_n hC dX6_comesFrom_6 rfl ?_
  refine r_iload_n hC dX6_comesFrom_7 rfl ?_
  refine z_inv3 hM dX6_comesFrom_8 vl_RX6_120 rfl rfl rfl (Nat.le_of_ble_eq_true rfl) (Nat.le_of_ble_eq_true rfl) ?_
  refine y_putFrom (n := 0) (u := (fun j => V 9 l (f + j))) (by first | assumption | decide | exact xs_ (by decide) | exact xc_ (by decide) | exact x31_ (by decide) | omega) (by first | assumption | decide | exact xs_ (by decide) | exact xc_ (by decide) | exact x31_ (by decide) | omega) (by first | assumption | decide | exact xs_ (by decide) | exact xc_ (by decide) | exact x31_ (by decide) | omega) (by first | assumption | decide | exact xs_ (by decide) | exact xc_ (by decide) | exact x31_ (by decide) | omega) (by first | assumption | decide | exact xs_ (by decide) | exact xc_ (by decide) | exact x31_ (by decide) | omega) (n_ρ1 (fun j => V 9 l (f + j))) (fun j a b => by show V 9 l (f + (((0 : Nat) : Int) + (j - f))) = _; rw [show f + (((0 : Nat) : Int) + (j - f)) = j from by omega]; exact (Rρ1.1.a9 (y := j) (by first | assumption | decide | exact xs_ (by decide) | exact xc_ (by decide) | exact x31_ (by decide) | omega) (by first | assumption | decide | exact xs_ (by decide) | exact xc_ (by decide) | exact x31_ (by decide) | omega) (by first | assumption | decide | exact xs_ (by decide) | exact xc_ (by decide) | exact x31_ (by decide) | omega) (by first | assumption | decide | exact xs_ (by decide) | exact xc_ (by decide) | exact x31_ (by decide) | omega)).symm) (fun ρ2 g_ρ2 w_ρ2 => ?_)
  have f_ρ2 : FKx ρ1 ρ2 := fun c p q h => g_ρ2 c p q (by first | assumption | decide | exact xs_ (by decide) | exact xc_ (by decide) | exact x31_ (by decide) | omega)
  have Rρ2 : RS t σ0 V ρ2 := RS.mk2 Rρ1.1 Rρ1.2.1 Rρ1.2.2 (fun c p q h => f_ρ2 c p q (by first | assumption | decide | exact xs_ (by decide) | exact xc_ (by decide) | exact x31_ (by decide) | omega))
  clear Rρ1
  refine r_aload_n hC dX6_comesFrom_11 rfl ?_
  refine r_aload_n hC dX6_comesFrom_12 rfl ?_
  refine r_iload_n hC dX6_comesFrom_13 rfl ?_
  refine r_iconst hC dX6_comesFrom_14 rfl ?_
  refine z_inv2 hM dX6_comesFrom_15 vl_RX6_80 rfl rfl rfl (Nat.le_of_ble_eq_true rfl) (Nat.le_of_ble_eq_true rfl) ?_
  refine y_of (by first | assumption | decide | exact xs_ (by decide) | exact xc_ (by decide) | exact x31_ (by decide) | omega) (by first | assumption | decide | exact xs_ (by decide) | exact xc_ (by decide) | exact x31_ (by decide) | omega) (by first | assumption | decide | exact xs_ (by decide) | exact xc_ (by decide) | exact x31_ (by decide) | omega) (fun o3 => ?_)
  have e4 : ρ2 31 0 (22 * l + 1) = (V 7 l 2) := (Rρ2.1.a7 (s := 2) (f := 1) (by first | assumption | decide | exact xs_ (by decide) | exact xc_ (by decide) | exact x31_ (by decide) | omega) (by first | assumption | decide | exact xs_ (by decide) | exact xc_ (by decide) | exact x31_ (by decide) | omega) (by first | assumption | decide | exact xs_ (by decide) | exact xc_ (by decide) | exact x31_ (by decide) | omega)).trans (rfl)
  rw [e4] at o3 ⊢
  refine r_iload hC dX6_comesFrom_18 rfl ?_
  refine z_inv2 hM dX6_comesFrom_20 vl_RX6_197 rfl rfl rfl (Nat.le_of_ble_eq_true rfl) (Nat.le_of_ble_eq_true rfl) ?_
  refine y_comes (n := (0 + (z + 1 - f).toNat)) (u := (fun j => V 9 l (f + j))) (by first | assumption | decide | exact xs_ (by decide) | exact xc_ (by decide) | exact x31_ (by decide) | omega) (by first | assumption | decide | exact xs_ (by decide) | exact xc_ (by decide) | exact x31_ (by decide) | omega) (by first | assumption | decide | exact xs_ (by decide) | exact xc_ (by decide) | exact x31_ (by decide) | omega) (by first | assumption | decide | exact xs_ (by decide) | exact xc_ (by decide) | exact x31_ (by decide) | omega) w_ρ2 hBd_ (fun ρ5 g_ρ5 => ?_)
  rw [cm_t (fun j a b => Rρ2.1.t16 a b) (fun j a b => Rρ2.1.t15 a b) (fun j a b => by rw [Rρ2.1.t15 a (by first | assumption | decide | exact xs_ (by decide) | exact xc_ (by decide) | exact x31_ (by decide) | omega)]; exact hL.2.2.2.1 j a b)]
  have f_ρ5 : FKx ρ2 ρ5 := fun c p q h => g_ρ5 c p q (by first | assumption | decide | exact xs_ (by decide) | exact xc_ (by decide) | exact x31_ (by decide) | omega)
  have Rρ5 : RS t σ0 V ρ5 := RS.mk2 Rρ2.1 Rρ2.2.1 Rρ2.2.2 (fun c p q h => f_ρ5 c p q (by first | assumption | decide | exact xs_ (by decide) | exact xc_ (by decide) | exact x31_ (by decide) | omega))
  clear Rρ2
  refine y_iret hK rfl dX6_comesFrom_23 ?_
  have hv : (cm (V 16 0) (V 15 0) (V 7 l 2) (fun j => V 9 l (f + j)) (z + 1 - f).toNat w) = (cm (V 16 0) (V 15 0) (V 7 l 2) (fun j => V 9 l (f + j)) (0 + (z + 1 - f).toNat) w) := by rw [Nat.zero_add]
  rw [hv] at k
  exact k _ ⟨Rρ5.1, Rρ5.2.1, Rρ5.2.2⟩ (fun c p q h => (f_ρ5 c p q h).trans ((f_ρ2 c p q h).trans (f_ρ1 c p q h)))
theorem y_keepNumbers {eb : Bool} {d : Nat} {P : Option Vl → Mm → Prop} {σ : Mm} {o : Int} (b_o : 0 ≤ o ∧ o ≤ 9)  (k : ∀ ρ : Mm, (∀ (c : Nat) (x y : Int), ¬ (c = 49) → ρ c x y = σ c x y) → (∀ k : Int, 0 ≤ k → k < numF o → ρ 49 0 k = σ 38 0 k) → P none ρ) : WT (true, eb, true) (d + 2) 228 [vR 30 0, vI o] σ P := by
  refine WT_in fun K hK => ?_
  have hK : StpY (true, eb, true) cX6_keepNumbers RX6 (none) (WT (true, eb, true) (d + 1)) P K := hK
  have hM := hK.1
  have hC := hK.1.1
  show K 0 [some (vR 30 0), some (vI o), none] [] σ
  have n7_ := numF_rng o
  refine r_iconst hC dX6_keepNumbers_0 rfl ?_
  refine r_istore_n hC dX6_keepNumbers_1 rfl ?_
  have L2 : ∀ (n2 : Nat) (w1 : Int) (ρ2 : Mm), 0 ≤ w1 ∧ w1 ≤ 7 → ((w1) ≤ numF o) → 7 - w1 < (n2 : Int) → (∀ (c : Nat) (x y : Int), ¬ (c = 49) → ρ2 c x y = σ c x y) → (∀ k : Int, 0 ≤ k → k < (w1) → ρ2 49 0 k = σ 38 0 k) → K 2 [some (vR 30 0), some (vI o), some (vI w1)] [] ρ2 := by
    intro n2
    induction n2 with
    | zero => intro w1 ρ2 f_w1 i0_2 hm  m0_2 m1_2; omega
    | succ n2 ih2 =>
      intro w1 ρ2 f_w1 i0_2 hm2  m0_2 m1_2
      refine r_iload_n hC dX6_keepNumbers_2 rfl ?_
      refine r_iload_n hC dX6_keepNumbers_3 rfl ?_
      refine z_ins1 hM dX6_keepNumbers_4 tl_RX6_127 rfl (Nat.le_of_ble_eq_true rfl) (Nat.le_of_ble_eq_true rfl) ?_
      refine y_howMany (by first | assumption | decide | exact xs_ (by decide) | exact xc_ (by decide) | exact x31_ (by decide) | omega) ?_
      refine r_icmp_ge (tgt := 28) hC dX6_keepNumbers_7 rfl (fun h3 => ?_) (fun h3 => ?_)
      · refine y_vret hK rfl dX6_keepNumbers_28 ?_
        exact k _ m0_2 (fun k a b => m1_2 k a (by first | assumption | decide | exact xs_ (by decide) | exact xc_ (by decide) | exact x31_ (by decide) | omega))
      · refine r_aload_n hC dX6_keepNumbers_10 rfl ?_
        refine z_getR hM dX6_keepNumbers_11 fl_RX6_64 rfl rfl (vld_of (n := 1) rfl (by first | assumption | decide | exact xs_ (by decide) | exact xc_ (by decide) | exact x31_ (by decide) | omega) (by first | assumption | decide | exact xs_ (by decide) | exact xc_ (by decide) | exact x31_ (by decide) | omega)) ?_
        refine r_iload_n hC dX6_keepNumbers_14 rfl ?_
        refine r_aload_n hC dX6_keepNumbers_15 rfl ?_
        refine z_getR hM dX6_keepNumbers_16 fl_RX6_31 rfl rfl (vld_of (n := 1) rfl (by first | assumption | decide | exact xs_ (by decide) | exact xc_ (by decide) | exact x31_ (by decide) | omega) (by first | assumption | decide | exact xs_ (by decide) | exact xc_ (by decide) | exact x31_ (by decide) | omega)) ?_
        refine r_iload_n hC dX6_keepNumbers_19 rfl ?_
        refine z_iald hM dX6_keepNumbers_20 rfl (by first | assumption | decide | exact xs_ (by decide) | exact xc_ (by decide) | exact x31_ (by decide) | omega) (by first | assumption | decide | exact xs_ (by decide) | exact xc_ (by decide) | exact x31_ (by decide) | omega) (fun v4 h_v4 o_v4 t_v4 => ?_)
        have w_v4 := ((t_v4 (Or.inr (Or.inr (Or.inr ⟨rfl, by first | exact True.intro | exact (rfl : true = true)⟩)))).trans (rfl)).symm
        clear t_v4
        subst w_v4
        refine z_iastT hM dX6_keepNumbers_21 rfl (by first | assumption | decide | exact xs_ (by decide) | exact xc_ (by decide) | exact x31_ (by decide) | omega) (by first | assumption | decide | exact xs_ (by decide) | exact xc_ (by decide) | exact x31_ (by decide) | omega) ⟨Or.inr (by simp [DL]), Or.inr (by simp [DF])⟩ (by first | trivial | (simp only [Okv]; omega) | (simp [Okv]; try omega)) ?_
        obtain ⟨ρ5, e_ρ5⟩ : ∃ zz_, zz_ = mu ρ2 49 0 w1 (ρ2 38 0 w1) := ⟨_, rfl⟩
        rw [← e_ρ5]
        refine r_iincE hC ((w1 + 1)) dX6_keepNumbers_22 rfl rfl (by first | assumption | decide | exact xs_ (by decide) | exact xc_ (by decide) | exact x31_ (by decide) | omega) (by unfold inR; omega) ?_
        refine r_goto (tgt := 2) hC dX6_keepNumbers_25 rfl ?_
        exact ih2 ((w1 + 1)) ρ5 (by first | assumption | decide | exact xs_ (by decide) | exact xc_ (by decide) | exact x31_ (by decide) | omega) (by first | assumption | decide | exact xs_ (by decide) | exact xc_ (by decide) | exact x31_ (by decide) | omega) (by first | assumption | decide | exact xs_ (by decide) | exact xc_ (by decide) | exact x31_ (by decide) | omega)  (fun c x y q => by rw [e_ρ5]; exact (mu_ne (by first | assumption | decide | exact xs_ (by decide) | exact xc_ (by decide) | exact x31_ (by decide) | omega)).trans (m0_2 c x y q)) (fun k a b => by rw [e_ρ5]; rcases (by omega : k < w1 ∨ k = w1) with z | z; exact (mu_ne (by first | assumption | decide | exact xs_ (by decide) | exact xc_ (by decide) | exact x31_ (by decide) | omega)).trans (m1_2 k a z); subst z; exact (mu_self _ _ _ _ _).trans (m0_2 38 0 _ (by decide)))
  exact L2 9 (0) σ (by first | assumption | decide | exact xs_ (by decide) | exact xc_ (by decide) | exact x31_ (by decide) | omega) (by first | assumption | decide | exact xs_ (by decide) | exact xc_ (by decide) | exact x31_ (by decide) | omega) (by first | assumption | decide | exact xs_ (by decide) | exact xc_ (by decide) | exact x31_ (by decide) | omega)  (fun _ _ _ _ => rfl) (fun k a b => by omega)
theorem y_areKept {eb : Bool} {d : Nat} {P : Option Vl → Mm → Prop} {σ : Mm} {o : Int} (b_o : 0 ≤ o ∧ o ≤ 9)  (k1 : (∀ k : Int, 0 ≤ k → k < numF o → σ 49 0 k = σ 38 0 k) → P (some (vI 1)) σ) (k0 : ¬ (∀ k : Int, 0 ≤ k → k < numF o → σ 49 0 k = σ 38 0 k) → P (some (vI 0)) σ) : WT (true, eb, true) (d + 2) 229 [vR 30 0, vI o] σ P := by
  refine WT_in fun K hK => ?_
  have hK : StpY (true, eb, true) cX6_areKept RX6 (some .boolean) (WT (true, eb, true) (d + 1)) P K := hK
  have hM := hK.1
  have hC := hK.1.1
  show K 0 [some (vR 30 0), some (vI o), none] [] σ
  have n7_ := numF_rng o
  refine r_iconst hC dX6_areKept_0 rfl ?_
  refine r_istore_n hC dX6_areKept_1 rfl ?_
  have L2 : ∀ (n2 : Nat) (w1 : Int), 0 ≤ w1 ∧ w1 ≤ 7 → (∀ k : Int, 0 ≤ k → k < (w1) → σ 49 0 k = σ 38 0 k) → ((w1) ≤ numF o) → 7 - w1 < (n2 : Int) → K 2 [some (vR 30 0), some (vI o), some (vI w1)] [] σ := by
    intro n2
    induction n2 with
    | zero => intro w1  f_w1 i0_2 i1_2 hm  ; omega
    | succ n2 ih2 =>
      intro w1  f_w1 i0_2 i1_2 hm2  
      refine r_iload_n hC dX6_areKept_2 rfl ?_
      refine r_iload_n hC dX6_areKept_3 rfl ?_
      refine z_ins1 hM dX6_areKept_4 tl_RX6_127 rfl (Nat.le_of_ble_eq_true rfl) (Nat.le_of_ble_eq_true rfl) ?_
      refine y_howMany (by first | assumption | decide | exact xs_ (by decide) | exact xc_ (by decide) | exact x31_ (by decide) | omega) ?_
      refine r_icmp_ge (tgt := 33) hC dX6_areKept_7 rfl (fun h2 => ?_) (fun h2 => ?_)
      · refine r_iconst hC dX6_areKept_33 rfl ?_
        refine y_zret hK rfl dX6_areKept_34 (by first | assumption | decide | exact xs_ (by decide) | exact xc_ (by decide) | exact x31_ (by decide) | omega) ?_
        exact k1 (fun k a b => i0_2 k a (by first | assumption | decide | exact xs_ (by decide) | exact xc_ (by decide) | exact x31_ (by decide) | omega))
      · refine r_aload_n hC dX6_areKept_10 rfl ?_
        refine z_getR hM dX6_areKept_11 fl_RX6_64 rfl rfl (vld_of (n := 1) rfl (by first | assumption | decide | exact xs_ (by decide) | exact xc_ (by decide) | exact x31_ (by decide) | omega) (by first | assumption | decide | exact xs_ (by decide) | exact xc_ (by decide) | exact x31_ (by decide) | omega)) ?_
        refine r_iload_n hC dX6_areKept_14 rfl ?_
        refine z_iald hM dX6_areKept_15 rfl (by first | assumption | decide | exact xs_ (by decide) | exact xc_ (by decide) | exact x31_ (by decide) | omega) (by first | assumption | decide | exact xs_ (by decide) | exact xc_ (by decide) | exact x31_ (by decide) | omega) (fun v3 h_v3 o_v3 t_v3 => ?_)
        have w_v3 := ((t_v3 (Or.inr (Or.inr (Or.inr ⟨rfl, by first | exact True.intro | exact (rfl : true = true)⟩)))).trans (rfl)).symm
        clear t_v3
        subst w_v3
        refine r_aload_n hC dX6_areKept_16 rfl ?_
        refine z_getR hM dX6_areKept_17 fl_RX6_31 rfl rfl (vld_of (n := 1) rfl (by first | assumption | decide | exact xs_ (by decide) | exact xc_ (by decide) | exact x31_ (by decide) | omega) (by first | assumption | decide | exact xs_ (by decide) | exact xc_ (by decide) | exact x31_ (by decide) | omega)) ?_
        refine r_iload_n hC dX6_areKept_20 rfl ?_
        refine z_iald hM dX6_areKept_21 rfl (by first | assumption | decide | exact xs_ (by decide) | exact xc_ (by decide) | exact x31_ (by decide) | omega) (by first | assumption | decide | exact xs_ (by decide) | exact xc_ (by decide) | exact x31_ (by decide) | omega) (fun v4 h_v4 o_v4 t_v4 => ?_)
        have w_v4 := ((t_v4 (Or.inr (Or.inr (Or.inr ⟨rfl, by first | exact True.intro | exact (rfl : true = true)⟩)))).trans (rfl)).symm
        clear t_v4
        subst w_v4
        refine r_icmp_eq (tgt := 27) hC dX6_areKept_22 rfl (fun h5 => ?_) (fun h5 => ?_)
        · refine r_iincE hC ((w1 + 1)) dX6_areKept_27 rfl rfl (by first | assumption | decide | exact xs_ (by decide) | exact xc_ (by decide) | exact x31_ (by decide) | omega) (by unfold inR; omega) ?_
          refine r_goto (tgt := 2) hC dX6_areKept_30 rfl ?_
          exact ih2 ((w1 + 1))  (by first | assumption | decide | exact xs_ (by decide) | exact xc_ (by decide) | exact x31_ (by decide) | omega) (by intro k a b; first | omega | (rcases (by omega : k < w1 ∨ k = w1) with z | z; exact i0_2 k a z; subst z; omega)) (by first | assumption | decide | exact xs_ (by decide) | exact xc_ (by decide) | exact x31_ (by decide) | omega) (by first | assumption | decide | exact xs_ (by decide) | exact xc_ (by decide) | exact x31_ (by decide) | omega)  
        · refine r_iconst hC dX6_areKept_25 rfl ?_
          refine y_zret hK rfl dX6_areKept_26 (by first | assumption | decide | exact xs_ (by decide) | exact xc_ (by decide) | exact x31_ (by decide) | omega) ?_
          exact k0 (fun q => by have := q w1 (by first | assumption | decide | exact xs_ (by decide) | exact xc_ (by decide) | exact x31_ (by decide) | omega) (by first | assumption | decide | exact xs_ (by decide) | exact xc_ (by decide) | exact x31_ (by decide) | omega); omega)
  exact L2 9 (0)  (by first | assumption | decide | exact xs_ (by decide) | exact xc_ (by decide) | exact x31_ (by decide) | omega) (by intro k a b; first | omega | (rcases (by omega : k < w1 ∨ k = w1) with z | z; exact i0_2 k a z; subst z; omega)) (by first | assumption | decide | exact xs_ (by decide) | exact xc_ (by decide) | exact x31_ (by decide) | omega) (by first | assumption | decide | exact xs_ (by decide) | exact xc_ (by decide) | exact x31_ (by decide) | omega)  
theorem y_same {eb : Bool} {t : Int} {V : Mm} {d : Nat} {P : Option Vl → Mm → Prop} {σ : Mm} {l o : Int}  {σ0 : Mm} (ht : 6 ≤ t ∧ t ≤ 7) (hR : RS t σ0 V σ) (hG : GI V)  (k : ∀ (r : Int) (ρ : Mm), saA V l o r → RS t σ0 V ρ → P (some (vI r)) ρ) : WT (true, eb, true) (d + 4) 234 [vR 30 0, vI l, vI o] σ P := by
  refine WT_in fun K hK => ?_
  have hK : StpY (true, eb, true) cX6_same RX6 (some .int) (WT (true, eb, true) (d + 3)) P K := hK
  have hM := hK.1
  have hC := hK.1.1
  show K 0 [some (vR 30 0), some (vI l), some (vI o)] [] σ
  refine r_rngz hC (fun g0 => ?_)
  have r_l : -2147483648 ≤ l ∧ l ≤ 2147483647 := inR_le (g0 (vI l) (by simp))
  have r_o : -2147483648 ≤ o ∧ o ≤ 2147483647 := inR_le (g0 (vI o) (by simp))
  have hcl := hG.2.1.2.2.2.2.2.2.2
  have hrow := hG.2.1.2.2.1
  refine r_aload_n hC dX6_same_0 rfl ?_
  refine r_iload_n hC dX6_same_1 rfl ?_
  refine r_iload_n hC dX6_same_2 rfl ?_
  refine z_inv2 hM dX6_same_3 vl_RX6_280 rfl rfl rfl (Nat.le_of_ble_eq_true rfl) (Nat.le_of_ble_eq_true rfl) ?_
  refine y_areAlike (V := V) ht ⟨hR.1, hR.2.1, hR.2.2⟩ hG (fun h1 => ?_) (fun h1 => ?_)
  · unfold saC opV at h1
    have hop_ : V 7 o 2 = V 7 l 2 := by omega
    have h6_l := hG.1.h7 (l := l) (by first | assumption | decide | exact xs_ (by decide) | exact xc_ (by decide) | exact x31_ (by decide) | omega) (by first | assumption | decide | exact xs_ (by decide) | exact xc_ (by decide) | exact x31_ (by decide) | omega)
    have h6_o := hG.1.h7 (l := o) (by first | assumption | decide | exact xs_ (by decide) | exact xc_ (by decide) | exact x31_ (by decide) | omega) (by first | assumption | decide | exact xs_ (by decide) | exact xc_ (by decide) | exact x31_ (by decide) | omega)
    have hO_l := (hG.2.1.2.2.2.1 l (by first | assumption | decide | exact xs_ (by decide) | exact xc_ (by decide) | exact x31_ (by decide) | omega) (by first | assumption | decide | exact xs_ (by decide) | exact xc_ (by decide) | exact x31_ (by decide) | omega)).2
    have n_l := numF_rng (V 7 l 2)
    refine r_if_ne (tgt := 11) hC dX6_same_6 rfl (fun h2 => ?_) (fun h2 => by omega)
    refine r_aload_n hC dX6_same_11 rfl ?_
    refine r_iload_n hC dX6_same_12 rfl ?_
    refine z_inv1 hM dX6_same_13 vl_RX6_116 rfl rfl rfl (Nat.le_of_ble_eq_true rfl) (Nat.le_of_ble_eq_true rfl) ?_
    refine y_heldOf (by first | assumption | decide | exact xs_ (by decide) | exact xc_ (by decide) | exact x31_ (by decide) | omega) (fun o3 => ?_)
    have e4 : σ 31 0 (22 * l + 5) = (V 7 l 6) := (hR.1.a7 (s := 6) (f := 5) (by first | assumption | decide | exact xs_ (by decide) | exact xc_ (by decide) | exact x31_ (by decide) | omega) (by first | assumption | decide | exact xs_ (by decide) | exact xc_ (by decide) | exact x31_ (by decide) | omega) (by first | assumption | decide | exact xs_ (by decide) | exact xc_ (by decide) | exact x31_ (by decide) | omega)).trans (rfl)
    rw [e4] at o3 ⊢
    have qo3 : 0 ≤ (V 7 l 6) ∧ (V 7 l 6) ≤ 121 := o3.1 (by first | assumption | decide | exact xs_ (by decide) | exact xc_ (by decide) | exact x31_ (by decide) | omega)
    refine r_if_eq (tgt := 27) hC dX6_same_16 rfl (fun h5 => ?_) (fun h5 => ?_)
    · refine r_aload_n hC dX6_same_27 rfl ?_
      refine r_iload_n hC dX6_same_28 rfl ?_
      refine z_inv1 hM dX6_same_29 vl_RX6_116 rfl rfl rfl (Nat.le_of_ble_eq_true rfl) (Nat.le_of_ble_eq_true rfl) ?_
      refine y_heldOf (by first | assumption | decide | exact xs_ (by decide) | exact xc_ (by decide) | exact x31_ (by decide) | omega) (fun o6 => ?_)
      have e7 : σ 31 0 (22 * l + 5) = (V 7 l 6) := (hR.1.a7 (s := 6) (f := 5) (by first | assumption | decide | exact xs_ (by decide) | exact xc_ (by decide) | exact x31_ (by decide) | omega) (by first | assumption | decide | exact xs_ (by decide) | exact xc_ (by decide) | exact x31_ (by decide) | omega) (by first | assumption | decide | exact xs_ (by decide) | exact xc_ (by decide) | exact x31_ (by decide) | omega)).trans (rfl)
      rw [e7] at o6 ⊢
      have qo6 : 0 ≤ (V 7 l 6) ∧ (V 7 l 6) ≤ 121 := o6.1 (by first | assumption | decide | exact xs_ (by decide) | exact xc_ (by decide) | exact x31_ (by decide) | omega)
      refine r_aload_n hC dX6_same_32 rfl ?_
      refine r_iload_n hC dX6_same_33 rfl ?_
      refine z_inv1 hM dX6_same_34 vl_RX6_116 rfl rfl rfl (Nat.le_of_ble_eq_true rfl) (Nat.le_of_ble_eq_true rfl) ?_
      refine y_heldOf (by first | assumption | decide | exact xs_ (by decide) | exact xc_ (by decide) | exact x31_ (by decide) | omega) (fun o8 => ?_)
      have e9 : σ 31 0 (22 * o + 5) = (V 7 o 6) := (hR.1.a7 (s := 6) (f := 5) (by first | assumption | decide | exact xs_ (by decide) | exact xc_ (by decide) | exact x31_ (by decide) | omega) (by first | assumption | decide | exact xs_ (by decide) | exact xc_ (by decide) | exact x31_ (by decide) | omega) (by first | assumption | decide | exact xs_ (by decide) | exact xc_ (by decide) | exact x31_ (by decide) | omega)).trans (rfl)
      rw [e9] at o8 ⊢
      have qo8 : 0 ≤ (V 7 o 6) ∧ (V 7 o 6) ≤ 121 := o8.1 (by first | assumption | decide | exact xs_ (by decide) | exact xc_ (by decide) | exact x31_ (by decide) | omega)
      refine r_icmp_ne (tgt := 44) hC dX6_same_37 rfl (fun h10 => ?_) (fun h10 => ?_)
      · refine r_iconst hC dX6_same_44 rfl ?_
        refine y_iret hK rfl dX6_same_45 ?_
        have hA : saA V l o 0 := by
          refine ⟨fun z => absurd (by unfold saC opV; omega) z, fun _ => ?_⟩
          unfold alk
          rw [if_pos (by first | assumption | decide | exact xs_ (by decide) | exact xc_ (by decide) | exact x31_ (by decide) | omega)]
          exact ⟨fun z => absurd z (by first | assumption | decide | exact xs_ (by decide) | exact xc_ (by decide) | exact x31_ (by decide) | omega), fun _ => rfl⟩
        exact k _ _ hA ⟨hR.1, hR.2.1, hR.2.2⟩
      · refine r_iconst hC dX6_same_40 rfl ?_
        refine r_goto (tgt := 45) hC dX6_same_41 rfl ?_
        refine y_iret hK rfl dX6_same_45 ?_
        have hA : saA V l o 1 := by
          refine ⟨fun z => absurd (by unfold saC opV; omega) z, fun _ => ?_⟩
          unfold alk
          rw [if_pos (by first | assumption | decide | exact xs_ (by decide) | exact xc_ (by decide) | exact x31_ (by decide) | omega)]
          exact ⟨fun _ => rfl, fun z => absurd (by first | assumption | decide | exact xs_ (by decide) | exact xc_ (by decide) | exact x31_ (by decide) | omega) z⟩
        exact k _ _ hA ⟨hR.1, hR.2.1, hR.2.2⟩
    · refine r_aload_n hC dX6_same_19 rfl ?_
      refine r_iload_n hC dX6_same_20 rfl ?_
      refine z_inv1 hM dX6_same_21 vl_RX6_116 rfl rfl rfl (Nat.le_of_ble_eq_true rfl) (Nat.le_of_ble_eq_true rfl) ?_
      refine y_heldOf (by first | assumption | decide | exact xs_ (by decide) | exact xc_ (by decide) | exact x31_ (by decide) | omega) (fun o11 => ?_)
      have e12 : σ 31 0 (22 * o + 5) = (V 7 o 6) := (hR.1.a7 (s := 6) (f := 5) (by first | assumption | decide | exact xs_ (by decide) | exact xc_ (by decide) | exact x31_ (by decide) | omega) (by first | assumption | decide | exact xs_ (by decide) | exact xc_ (by decide) | exact x31_ (by decide) | omega) (by first | assumption | decide | exact xs_ (by decide) | exact xc_ (by decide) | exact x31_ (by decide) | omega)).trans (rfl)
      rw [e12] at o11 ⊢
      have qo11 : 0 ≤ (V 7 o 6) ∧ (V 7 o 6) ≤ 121 := o11.1 (by first | assumption | decide | exact xs_ (by decide) | exact xc_ (by decide) | exact x31_ (by decide) | omega)
      refine r_if_ne (tgt := 46) hC dX6_same_24 rfl (fun h13 => ?_) (fun h13 => ?_)
      · refine r_aload_n hC dX6_same_46 rfl ?_
        refine r_iload_n hC dX6_same_47 rfl ?_
        refine z_inv1 hM dX6_same_48 vl_RX6_194 rfl rfl rfl (Nat.le_of_ble_eq_true rfl) (Nat.le_of_ble_eq_true rfl) ?_
        refine y_layAllK (V := V) (l := l) (by first | assumption | decide | exact xs_ (by decide) | exact xc_ (by decide) | exact x31_ (by decide) | omega) ht ⟨hR.1, hR.2.1, hR.2.2⟩ (by first | assumption | decide | exact xs_ (by decide) | exact xc_ (by decide) | exact x31_ (by decide) | omega) (hG.2.1.lk hG.1 (by first | assumption | decide | exact xs_ (by decide) | exact xc_ (by decide) | exact x31_ (by decide) | omega) (by first | assumption | decide | exact xs_ (by decide) | exact xc_ (by decide) | exact x31_ (by decide) | omega)) (fun ρ14 Rρ14 f_ρ14 w_ρ14 => ?_)
        refine r_aload_n hC dX6_same_51 rfl ?_
        refine r_aload_n hC dX6_same_52 rfl ?_
        refine r_iload_n hC dX6_same_53 rfl ?_
        refine r_iconst hC dX6_same_54 rfl ?_
        refine z_inv2 hM dX6_same_55 vl_RX6_80 rfl rfl rfl (Nat.le_of_ble_eq_true rfl) (Nat.le_of_ble_eq_true rfl) ?_
        refine y_of (by first | assumption | decide | exact xs_ (by decide) | exact xc_ (by decide) | exact x31_ (by decide) | omega) (by first | assumption | decide | exact xs_ (by decide) | exact xc_ (by decide) | exact x31_ (by decide) | omega) (by first | assumption | decide | exact xs_ (by decide) | exact xc_ (by decide) | exact x31_ (by decide) | omega) (fun o15 => ?_)
        have e16 : ρ14 31 0 (22 * l + 1) = (V 7 l 2) := (Rρ14.1.a7 (s := 2) (f := 1) (by first | assumption | decide | exact xs_ (by decide) | exact xc_ (by decide) | exact x31_ (by decide) | omega) (by first | assumption | decide | exact xs_ (by decide) | exact xc_ (by decide) | exact x31_ (by decide) | omega) (by first | assumption | decide | exact xs_ (by decide) | exact xc_ (by decide) | exact x31_ (by decide) | omega)).trans (rfl)
        rw [e16] at o15 ⊢
        refine z_inv1 hM dX6_same_58 vl_RX6_161 rfl rfl rfl (Nat.le_of_ble_eq_true rfl) (Nat.le_of_ble_eq_true rfl) ?_
        refine y_goThroughW (n := (V 7 l 6).toNat) (u := (V 9 l)) (by first | assumption | decide | exact xs_ (by decide) | exact xc_ (by decide) | exact x31_ (by decide) | omega) (by first | assumption | decide | exact xs_ (by decide) | exact xc_ (by decide) | exact x31_ (by decide) | omega) (by first | assumption | decide | exact xs_ (by decide) | exact xc_ (by decide) | exact x31_ (by decide) | omega) w_ρ14 (fun j h0 h1 => (hrow l j (by first | assumption | decide | exact xs_ (by decide) | exact xc_ (by decide) | exact x31_ (by decide) | omega) (by first | assumption | decide | exact xs_ (by decide) | exact xc_ (by decide) | exact x31_ (by decide) | omega) h0 (by first | assumption | decide | exact xs_ (by decide) | exact xc_ (by decide) | exact x31_ (by decide) | omega)).2) (fun ρ17 g_ρ17 c_ρ17 => ?_)
        have d_ρ17 : ∀ k : Int, 0 ≤ k → k < numF (V 7 l 2) → ρ17 38 0 k = cmN (V 16 0) (V 15 0) (V 7 l 2) (V 9 l) (V 7 l 6).toNat k := fun k a b => (c_ρ17 k a b).trans (cmN_t (fun j a b => Rρ14.1.t16 a b) (fun j a b => Rρ14.1.t15 a b) (fun j a b => by rw [Rρ14.1.t15 a (by first | assumption | decide | exact xs_ (by decide) | exact xc_ (by decide) | exact x31_ (by decide) | omega)]; exact hcl j a b) _ _ _ _)
        have f_ρ17 : FKx ρ14 ρ17 := fun c p q h => g_ρ17 c p q (by first | assumption | decide | exact xs_ (by decide) | exact xc_ (by decide) | exact x31_ (by decide) | omega)
        have Rρ17 : RS t σ0 V ρ17 := RS.mk2 Rρ14.1 Rρ14.2.1 Rρ14.2.2 (fun c p q h => f_ρ17 c p q (by first | assumption | decide | exact xs_ (by decide) | exact xc_ (by decide) | exact x31_ (by decide) | omega))
        clear Rρ14
        refine r_aload_n hC dX6_same_61 rfl ?_
        refine r_aload_n hC dX6_same_62 rfl ?_
        refine r_iload_n hC dX6_same_63 rfl ?_
        refine r_iconst hC dX6_same_64 rfl ?_
        refine z_inv2 hM dX6_same_65 vl_RX6_80 rfl rfl rfl (Nat.le_of_ble_eq_true rfl) (Nat.le_of_ble_eq_true rfl) ?_
        refine y_of (by first | assumption | decide | exact xs_ (by decide) | exact xc_ (by decide) | exact x31_ (by decide) | omega) (by first | assumption | decide | exact xs_ (by decide) | exact xc_ (by decide) | exact x31_ (by decide) | omega) (by first | assumption | decide | exact xs_ (by decide) | exact xc_ (by decide) | exact x31_ (by decide) | omega) (fun o18 => ?_)
        have e19 : ρ17 31 0 (22 * l + 1) = (V 7 l 2) := (Rρ17.1.a7 (s := 2) (f := 1) (by first | assumption | decide | exact xs_ (by decide) | exact xc_ (by decide) | exact x31_ (by decide) | omega) (by first | assumption | decide | exact xs_ (by decide) | exact xc_ (by decide) | exact x31_ (by decide) | omega) (by first | assumption | decide | exact xs_ (by decide) | exact xc_ (by decide) | exact x31_ (by decide) | omega)).trans (rfl)
        rw [e19] at o18 ⊢
        refine z_inv1 hM dX6_same_68 vl_RX6_274 rfl rfl rfl (Nat.le_of_ble_eq_true rfl) (Nat.le_of_ble_eq_true rfl) ?_
        refine y_keepNumbers (by first | assumption | decide | exact xs_ (by decide) | exact xc_ (by decide) | exact x31_ (by decide) | omega) (fun ρ20 g_ρ20 k_ρ20 => ?_)
        have kp_ρ20 : ∀ k : Int, 0 ≤ k → k < numF (V 7 l 2) → ρ20 49 0 k = cmN (V 16 0) (V 15 0) (V 7 l 2) (V 9 l) (V 7 l 6).toNat k := fun k a b => (k_ρ20 k a b).trans (d_ρ17 k a b)
        have Rρ20 : RS t σ0 V ρ20 := RS.mk2 Rρ17.1 Rρ17.2.1 Rρ17.2.2 (fun c p q h => g_ρ20 c p q (by first | assumption | decide | exact xs_ (by decide) | exact xc_ (by decide) | exact x31_ (by decide) | omega))
        clear Rρ17
        skip
        refine r_aload_n hC dX6_same_71 rfl ?_
        refine r_iload_n hC dX6_same_72 rfl ?_
        refine z_inv1 hM dX6_same_73 vl_RX6_194 rfl rfl rfl (Nat.le_of_ble_eq_true rfl) (Nat.le_of_ble_eq_true rfl) ?_
        refine y_layAllK (V := V) (l := o) (by first | assumption | decide | exact xs_ (by decide) | exact xc_ (by decide) | exact x31_ (by decide) | omega) ht ⟨Rρ20.1, Rρ20.2.1, Rρ20.2.2⟩ (by first | assumption | decide | exact xs_ (by decide) | exact xc_ (by decide) | exact x31_ (by decide) | omega) (hG.2.1.lk hG.1 (by first | assumption | decide | exact xs_ (by decide) | exact xc_ (by decide) | exact x31_ (by decide) | omega) (by first | assumption | decide | exact xs_ (by decide) | exact xc_ (by decide) | exact x31_ (by decide) | omega)) (fun ρ21 Rρ21 f_ρ21 w_ρ21 => ?_)
        clear Rρ20
        have kp_ρ21 : ∀ k : Int, 0 ≤ k → k < numF (V 7 l 2) → ρ21 49 0 k = cmN (V 16 0) (V 15 0) (V 7 l 2) (V 9 l) (V 7 l 6).toNat k := fun k a b => (f_ρ21 49 0 k (by decide)).trans (kp_ρ20 k a b)
        refine r_aload_n hC dX6_same_76 rfl ?_
        refine r_aload_n hC dX6_same_77 rfl ?_
        refine r_iload_n hC dX6_same_78 rfl ?_
        refine r_iconst hC dX6_same_79 rfl ?_
        refine z_inv2 hM dX6_same_80 vl_RX6_80 rfl rfl rfl (Nat.le_of_ble_eq_true rfl) (Nat.le_of_ble_eq_true rfl) ?_
        refine y_of (by first | assumption | decide | exact xs_ (by decide) | exact xc_ (by decide) | exact x31_ (by decide) | omega) (by first | assumption | decide | exact xs_ (by decide) | exact xc_ (by decide) | exact x31_ (by decide) | omega) (by first | assumption | decide | exact xs_ (by decide) | exact xc_ (by decide) | exact x31_ (by decide) | omega) (fun o22 => ?_)
        have e23 : ρ21 31 0 (22 * o + 1) = (V 7 o 2) := (Rρ21.1.a7 (s := 2) (f := 1) (by first | assumption | decide | exact xs_ (by decide) | exact xc_ (by decide) | exact x31_ (by decide) | omega) (by first | assumption | decide | exact xs_ (by decide) | exact xc_ (by decide) | exact x31_ (by decide) | omega) (by first | assumption | decide | exact xs_ (by decide) | exact xc_ (by decide) | exact x31_ (by decide) | omega)).trans (rfl)
        rw [e23] at o22 ⊢
        refine z_inv1 hM dX6_same_83 vl_RX6_161 rfl rfl rfl (Nat.le_of_ble_eq_true rfl) (Nat.le_of_ble_eq_true rfl) ?_
        refine y_goThroughW (n := (V 7 o 6).toNat) (u := (V 9 o)) (by first | assumption | decide | exact xs_ (by decide) | exact xc_ (by decide) | exact x31_ (by decide) | omega) (by first | assumption | decide | exact xs_ (by decide) | exact xc_ (by decide) | exact x31_ (by decide) | omega) (by first | assumption | decide | exact xs_ (by decide) | exact xc_ (by decide) | exact x31_ (by decide) | omega) w_ρ21 (fun j h0 h1 => (hrow o j (by first | assumption | decide | exact xs_ (by decide) | exact xc_ (by decide) | exact x31_ (by decide) | omega) (by first | assumption | decide | exact xs_ (by decide) | exact xc_ (by decide) | exact x31_ (by decide) | omega) h0 (by first | assumption | decide | exact xs_ (by decide) | exact xc_ (by decide) | exact x31_ (by decide) | omega)).2) (fun ρ24 g_ρ24 c_ρ24 => ?_)
        have d_ρ24 : ∀ k : Int, 0 ≤ k → k < numF (V 7 o 2) → ρ24 38 0 k = cmN (V 16 0) (V 15 0) (V 7 o 2) (V 9 o) (V 7 o 6).toNat k := fun k a b => (c_ρ24 k a b).trans (cmN_t (fun j a b => Rρ21.1.t16 a b) (fun j a b => Rρ21.1.t15 a b) (fun j a b => by rw [Rρ21.1.t15 a (by first | assumption | decide | exact xs_ (by decide) | exact xc_ (by decide) | exact x31_ (by decide) | omega)]; exact hcl j a b) _ _ _ _)
        rw [hop_] at d_ρ24
        have f_ρ24 : FKx ρ21 ρ24 := fun c p q h => g_ρ24 c p q (by first | assumption | decide | exact xs_ (by decide) | exact xc_ (by decide) | exact x31_ (by decide) | omega)
        have Rρ24 : RS t σ0 V ρ24 := RS.mk2 Rρ21.1 Rρ21.2.1 Rρ21.2.2 (fun c p q h => f_ρ24 c p q (by first | assumption | decide | exact xs_ (by decide) | exact xc_ (by decide) | exact x31_ (by decide) | omega))
        clear Rρ21
        have kp_ρ24 : ∀ k : Int, 0 ≤ k → k < numF (V 7 l 2) → ρ24 49 0 k = cmN (V 16 0) (V 15 0) (V 7 l 2) (V 9 l) (V 7 l 6).toNat k := fun k a b => (f_ρ24 49 0 k (by decide)).trans (kp_ρ21 k a b)
        refine r_aload_n hC dX6_same_86 rfl ?_
        refine r_aload_n hC dX6_same_87 rfl ?_
        refine r_iload_n hC dX6_same_88 rfl ?_
        refine r_iconst hC dX6_same_89 rfl ?_
        refine z_inv2 hM dX6_same_90 vl_RX6_80 rfl rfl rfl (Nat.le_of_ble_eq_true rfl) (Nat.le_of_ble_eq_true rfl) ?_
        refine y_of (by first | assumption | decide | exact xs_ (by decide) | exact xc_ (by decide) | exact x31_ (by decide) | omega) (by first | assumption | decide | exact xs_ (by decide) | exact xc_ (by decide) | exact x31_ (by decide) | omega) (by first | assumption | decide | exact xs_ (by decide) | exact xc_ (by decide) | exact x31_ (by decide) | omega) (fun o25 => ?_)
        have e26 : ρ24 31 0 (22 * o + 1) = (V 7 o 2) := (Rρ24.1.a7 (s := 2) (f := 1) (by first | assumption | decide | exact xs_ (by decide) | exact xc_ (by decide) | exact x31_ (by decide) | omega) (by first | assumption | decide | exact xs_ (by decide) | exact xc_ (by decide) | exact x31_ (by decide) | omega) (by first | assumption | decide | exact xs_ (by decide) | exact xc_ (by decide) | exact x31_ (by decide) | omega)).trans (rfl)
        rw [e26] at o25 ⊢
        refine z_inv1 hM dX6_same_93 vl_RX6_277 rfl rfl rfl (Nat.le_of_ble_eq_true rfl) (Nat.le_of_ble_eq_true rfl) ?_
        refine y_areKept (by first | assumption | decide | exact xs_ (by decide) | exact xc_ (by decide) | exact x31_ (by decide) | omega) (fun hk_93 => ?_) (fun hk_93 => ?_)
        · rw [hop_] at hk_93
          have hq_ : ∀ k : Int, 0 ≤ k → k < numF (V 7 l 2) → cmN (V 16 0) (V 15 0) (V 7 l 2) (V 9 o) (V 7 o 6).toNat k = cmN (V 16 0) (V 15 0) (V 7 l 2) (V 9 l) (V 7 l 6).toNat k := fun k a b => ((d_ρ24 k a b).symm.trans ((hk_93 k a b).symm)).trans (kp_ρ24 k a b)
          refine r_if_eq (tgt := 103) hC dX6_same_96 rfl (fun h27 => by omega) (fun h27 => ?_)
          refine r_iconst hC dX6_same_99 rfl ?_
          refine r_goto (tgt := 104) hC dX6_same_100 rfl ?_
          refine y_iret hK rfl dX6_same_104 ?_
          have hA : saA V l o 1 := by
            refine ⟨fun z => absurd (by unfold saC opV; omega) z, fun _ => ?_⟩
            unfold alk
            rw [if_neg (by first | assumption | decide | exact xs_ (by decide) | exact xc_ (by decide) | exact x31_ (by decide) | omega)]
            exact ⟨fun _ => rfl, fun z => absurd hq_ z⟩
          exact k _ _ hA ⟨Rρ24.1, Rρ24.2.1, Rρ24.2.2⟩
        · rw [hop_] at hk_93
          have hq_ : ¬ ∀ k : Int, 0 ≤ k → k < numF (V 7 l 2) → cmN (V 16 0) (V 15 0) (V 7 l 2) (V 9 o) (V 7 o 6).toNat k = cmN (V 16 0) (V 15 0) (V 7 l 2) (V 9 l) (V 7 l 6).toNat k := fun q => hk_93 (fun k a b => (kp_ρ24 k a b).trans ((q k a b).symm.trans (d_ρ24 k a b).symm))
          refine r_if_eq (tgt := 103) hC dX6_same_96 rfl (fun h28 => ?_) (fun h28 => by omega)
          refine r_iconst hC dX6_same_103 rfl ?_
          refine y_iret hK rfl dX6_same_104 ?_
          have hA : saA V l o 0 := by
            refine ⟨fun z => absurd (by unfold saC opV; omega) z, fun _ => ?_⟩
            unfold alk
            rw [if_neg (by first | assumption | decide | exact xs_ (by decide) | exact xc_ (by decide) | exact x31_ (by decide) | omega)]
            exact ⟨fun z => absurd z hq_, fun _ => rfl⟩
          exact k _ _ hA ⟨Rρ24.1, Rρ24.2.1, Rρ24.2.2⟩
      · refine r_aload_n hC dX6_same_27 rfl ?_
        refine r_iload_n hC dX6_same_28 rfl ?_
        refine z_inv1 hM dX6_same_29 vl_RX6_116 rfl rfl rfl (Nat.le_of_ble_eq_true rfl) (Nat.le_of_ble_eq_true rfl) ?_
        refine y_heldOf (by first | assumption | decide | exact xs_ (by decide) | exact xc_ (by decide) | exact x31_ (by decide) | omega) (fun o29 => ?_)
        have e30 : σ 31 0 (22 * l + 5) = (V 7 l 6) := (hR.1.a7 (s := 6) (f := 5) (by first | assumption | decide | exact xs_ (by decide) | exact xc_ (by decide) | exact x31_ (by decide) | omega) (by first | assumption | decide | exact xs_ (by decide) | exact xc_ (by decide) | exact x31_ (by decide) | omega) (by first | assumption | decide | exact xs_ (by decide) | exact xc_ (by decide) | exact x31_ (by decide) | omega)).trans (rfl)
        rw [e30] at o29 ⊢
        have qo29 : 0 ≤ (V 7 l 6) ∧ (V 7 l 6) ≤ 121 := o29.1 (by first | assumption | decide | exact xs_ (by decide) | exact xc_ (by decide) | exact x31_ (by decide) | omega)
        refine r_aload_n hC dX6_same_32 rfl ?_
        refine r_iload_n hC dX6_same_33 rfl ?_
        refine z_inv1 hM dX6_same_34 vl_RX6_116 rfl rfl rfl (Nat.le_of_ble_eq_true rfl) (Nat.le_of_ble_eq_true rfl) ?_
        refine y_heldOf (by first | assumption | decide | exact xs_ (by decide) | exact xc_ (by decide) | exact x31_ (by decide) | omega) (fun o31 => ?_)
        have e32 : σ 31 0 (22 * o + 5) = (V 7 o 6) := (hR.1.a7 (s := 6) (f := 5) (by first | assumption | decide | exact xs_ (by decide) | exact xc_ (by decide) | exact x31_ (by decide) | omega) (by first | assumption | decide | exact xs_ (by decide) | exact xc_ (by decide) | exact x31_ (by decide) | omega) (by first | assumption | decide | exact xs_ (by decide) | exact xc_ (by decide) | exact x31_ (by decide) | omega)).trans (rfl)
        rw [e32] at o31 ⊢
        have qo31 : 0 ≤ (V 7 o 6) ∧ (V 7 o 6) ≤ 121 := o31.1 (by first | assumption | decide | exact xs_ (by decide) | exact xc_ (by decide) | exact x31_ (by decide) | omega)
        refine r_icmp_ne (tgt := 44) hC dX6_same_37 rfl (fun h33 => ?_) (fun h33 => by omega)
        refine r_iconst hC dX6_same_44 rfl ?_
        refine y_iret hK rfl dX6_same_45 ?_
        have hA : saA V l o 0 := by
          refine ⟨fun z => absurd (by unfold saC opV; omega) z, fun _ => ?_⟩
          unfold alk
          rw [if_pos (by first | assumption | decide | exact xs_ (by decide) | exact xc_ (by decide) | exact x31_ (by decide) | omega)]
          exact ⟨fun z => absurd z (by first | assumption | decide | exact xs_ (by decide) | exact xc_ (by decide) | exact x31_ (by decide) | omega), fun _ => rfl⟩
        exact k _ _ hA ⟨hR.1, hR.2.1, hR.2.2⟩
  · unfold saC opV at h1
    refine r_if_ne (tgt := 11) hC dX6_same_6 rfl (fun h34 => by omega) (fun h34 => ?_)
    refine r_iconst hC dX6_same_9 rfl ?_
    refine y_iret hK rfl dX6_same_10 ?_
    have hA : saA V l o (-1) := by
      exact ⟨fun _ => rfl, fun q => by unfold saC opV at q; omega⟩
    exact k _ _ hA ⟨hR.1, hR.2.1, hR.2.2⟩
theorem y_commutes {eb : Bool} {t : Int} {V : Mm} {d : Nat} {P : Option Vl → Mm → Prop} {σ : Mm} {l x : Int}  {σ0 : Mm} (ht : 6 ≤ t ∧ t ≤ 7) (hR : RS t σ0 V σ) (hG : GI V)  (k : ∀ (r : Int) (ρ : Mm), comA V l x r → RS t σ0 V ρ → P (some (vI r)) ρ) : WT (true, eb, true) (d + 4) 230 [vR 30 0, vI l, vI x] σ P := by
  refine WT_in fun K hK => ?_
  have hK : StpY (true, eb, true) cX6_commutes RX6 (some .int) (WT (true, eb, true) (d + 3)) P K := hK
  have hM := hK.1
  have hC := hK.1.1
  show K 0 [some (vR 30 0), some (vI l), some (vI x), none] [] σ
  refine r_rngz hC (fun g0 => ?_)
  have r_l : -2147483648 ≤ l ∧ l ≤ 2147483647 := inR_le (g0 (vI l) (by simp))
  have r_x : -2147483648 ≤ x ∧ x ≤ 2147483647 := inR_le (g0 (vI x) (by simp))
  have hcl := hG.2.1.2.2.2.2.2.2.2
  have hrow := hG.2.1.2.2.1
  refine r_aload_n hC dX6_commutes_0 rfl ?_
  refine r_iload_n hC dX6_commutes_1 rfl ?_
  refine z_inv1 hM dX6_commutes_2 vl_RX6_124 rfl rfl rfl (Nat.le_of_ble_eq_true rfl) (Nat.le_of_ble_eq_true rfl) ?_
  refine y_isLane (V := V) ht ⟨hR.1, hR.2.1, hR.2.2⟩ (fun h1 => ?_) (fun h1 => ?_)
  · unfold opV at h1
    have h6_l := hG.1.h7 (l := l) (by first | assumption | decide | exact xs_ (by decide) | exact xc_ (by decide) | exact x31_ (by decide) | omega) (by first | assumption | decide | exact xs_ (by decide) | exact xc_ (by decide) | exact x31_ (by decide) | omega)
    have hO_l := (hG.2.1.2.2.2.1 l (by first | assumption | decide | exact xs_ (by decide) | exact xc_ (by decide) | exact x31_ (by decide) | omega) (by first | assumption | decide | exact xs_ (by decide) | exact xc_ (by decide) | exact x31_ (by decide) | omega)).2
    refine r_if_eq (tgt := 23) hC dX6_commutes_5 rfl (fun h2 => by omega) (fun h2 => ?_)
    refine r_iload_n hC dX6_commutes_8 rfl ?_
    refine r_iconst hC dX6_commutes_9 rfl ?_
    refine r_aload_n hC dX6_commutes_10 rfl ?_
    refine r_iload_n hC dX6_commutes_11 rfl ?_
    refine z_inv1 hM dX6_commutes_12 vl_RX6_116 rfl rfl rfl (Nat.le_of_ble_eq_true rfl) (Nat.le_of_ble_eq_true rfl) ?_
    refine y_heldOf (by first | assumption | decide | exact xs_ (by decide) | exact xc_ (by decide) | exact x31_ (by decide) | omega) (fun o3 => ?_)
    have e4 : σ 31 0 (22 * l + 5) = (V 7 l 6) := (hR.1.a7 (s := 6) (f := 5) (by first | assumption | decide | exact xs_ (by decide) | exact xc_ (by decide) | exact x31_ (by decide) | omega) (by first | assumption | decide | exact xs_ (by decide) | exact xc_ (by decide) | exact x31_ (by decide) | omega) (by first | assumption | decide | exact xs_ (by decide) | exact xc_ (by decide) | exact x31_ (by decide) | omega)).trans (rfl)
    rw [e4] at o3 ⊢
    have qo3 : 0 ≤ (V 7 l 6) ∧ (V 7 l 6) ≤ 121 := o3.1 (by first | assumption | decide | exact xs_ (by decide) | exact xc_ (by decide) | exact x31_ (by decide) | omega)
    refine r_iconst hC dX6_commutes_15 rfl ?_
    refine r_isubE hC (((V 7 l 6) - 2)) dX6_commutes_16 (by first | assumption | decide | exact xs_ (by decide) | exact xc_ (by decide) | exact x31_ (by decide) | omega) (by unfold inR; omega) ?_
    refine z_ins3 hM dX6_commutes_17 tl_RX6_76 rfl (Nat.le_of_ble_eq_true rfl) (Nat.le_of_ble_eq_true rfl) ?_
    refine m_isIn (fun h6 => ?_) (fun h6 => ?_)
    · refine r_if_ne (tgt := 25) hC dX6_commutes_20 rfl (fun h7 => ?_) (fun h7 => by omega)
      refine r_aload_n hC dX6_commutes_25 rfl ?_
      refine r_iload_n hC dX6_commutes_26 rfl ?_
      refine z_inv1 hM dX6_commutes_27 vl_RX6_194 rfl rfl rfl (Nat.le_of_ble_eq_true rfl) (Nat.le_of_ble_eq_true rfl) ?_
      refine y_layAllK (V := V) (l := l) (by first | assumption | decide | exact xs_ (by decide) | exact xc_ (by decide) | exact x31_ (by decide) | omega) ht ⟨hR.1, hR.2.1, hR.2.2⟩ (by first | assumption | decide | exact xs_ (by decide) | exact xc_ (by decide) | exact x31_ (by decide) | omega) (hG.2.1.lk hG.1 (by first | assumption | decide | exact xs_ (by decide) | exact xc_ (by decide) | exact x31_ (by decide) | omega) (by first | assumption | decide | exact xs_ (by decide) | exact xc_ (by decide) | exact x31_ (by decide) | omega)) (fun ρ8 Rρ8 f_ρ8 w_ρ8 => ?_)
      refine r_aload_n hC dX6_commutes_30 rfl ?_
      refine r_aload_n hC dX6_commutes_31 rfl ?_
      refine r_iload_n hC dX6_commutes_32 rfl ?_
      refine r_iconst hC dX6_commutes_33 rfl ?_
      refine z_inv2 hM dX6_commutes_34 vl_RX6_80 rfl rfl rfl (Nat.le_of_ble_eq_true rfl) (Nat.le_of_ble_eq_true rfl) ?_
      refine y_of (by first | assumption | decide | exact xs_ (by decide) | exact xc_ (by decide) | exact x31_ (by decide) | omega) (by first | assumption | decide | exact xs_ (by decide) | exact xc_ (by decide) | exact x31_ (by decide) | omega) (by first | assumption | decide | exact xs_ (by decide) | exact xc_ (by decide) | exact x31_ (by decide) | omega) (fun o9 => ?_)
      have e10 : ρ8 31 0 (22 * l + 1) = (V 7 l 2) := (Rρ8.1.a7 (s := 2) (f := 1) (by first | assumption | decide | exact xs_ (by decide) | exact xc_ (by decide) | exact x31_ (by decide) | omega) (by first | assumption | decide | exact xs_ (by decide) | exact xc_ (by decide) | exact x31_ (by decide) | omega) (by first | assumption | decide | exact xs_ (by decide) | exact xc_ (by decide) | exact x31_ (by decide) | omega)).trans (rfl)
      rw [e10] at o9 ⊢
      refine z_inv1 hM dX6_commutes_37 vl_RX6_161 rfl rfl rfl (Nat.le_of_ble_eq_true rfl) (Nat.le_of_ble_eq_true rfl) ?_
      refine y_goThroughW (n := (V 7 l 6).toNat) (u := (V 9 l)) (by first | assumption | decide | exact xs_ (by decide) | exact xc_ (by decide) | exact x31_ (by decide) | omega) (by first | assumption | decide | exact xs_ (by decide) | exact xc_ (by decide) | exact x31_ (by decide) | omega) (by first | assumption | decide | exact xs_ (by decide) | exact xc_ (by decide) | exact x31_ (by decide) | omega) w_ρ8 (fun j h0 h1 => (hrow l j (by first | assumption | decide | exact xs_ (by decide) | exact xc_ (by decide) | exact x31_ (by decide) | omega) (by first | assumption | decide | exact xs_ (by decide) | exact xc_ (by decide) | exact x31_ (by decide) | omega) h0 (by first | assumption | decide | exact xs_ (by decide) | exact xc_ (by decide) | exact x31_ (by decide) | omega)).2) (fun ρ11 g_ρ11 c_ρ11 => ?_)
      have d_ρ11 : ∀ k : Int, 0 ≤ k → k < numF (V 7 l 2) → ρ11 38 0 k = cmN (V 16 0) (V 15 0) (V 7 l 2) (V 9 l) (V 7 l 6).toNat k := fun k a b => (c_ρ11 k a b).trans (cmN_t (fun j a b => Rρ8.1.t16 a b) (fun j a b => Rρ8.1.t15 a b) (fun j a b => by rw [Rρ8.1.t15 a (by first | assumption | decide | exact xs_ (by decide) | exact xc_ (by decide) | exact x31_ (by decide) | omega)]; exact hcl j a b) _ _ _ _)
      have f_ρ11 : FKx ρ8 ρ11 := fun c p q h => g_ρ11 c p q (by first | assumption | decide | exact xs_ (by decide) | exact xc_ (by decide) | exact x31_ (by decide) | omega)
      have Rρ11 : RS t σ0 V ρ11 := RS.mk2 Rρ8.1 Rρ8.2.1 Rρ8.2.2 (fun c p q h => f_ρ11 c p q (by first | assumption | decide | exact xs_ (by decide) | exact xc_ (by decide) | exact x31_ (by decide) | omega))
      clear Rρ8
      refine r_aload_n hC dX6_commutes_40 rfl ?_
      refine r_aload_n hC dX6_commutes_41 rfl ?_
      refine r_iload_n hC dX6_commutes_42 rfl ?_
      refine r_iconst hC dX6_commutes_43 rfl ?_
      refine z_inv2 hM dX6_commutes_44 vl_RX6_80 rfl rfl rfl (Nat.le_of_ble_eq_true rfl) (Nat.le_of_ble_eq_true rfl) ?_
      refine y_of (by first | assumption | decide | exact xs_ (by decide) | exact xc_ (by decide) | exact x31_ (by decide) | omega) (by first | assumption | decide | exact xs_ (by decide) | exact xc_ (by decide) | exact x31_ (by decide) | omega) (by first | assumption | decide | exact xs_ (by decide) | exact xc_ (by decide) | exact x31_ (by decide) | omega) (fun o12 => ?_)
      have e13 : ρ11 31 0 (22 * l + 1) = (V 7 l 2) := (Rρ11.1.a7 (s := 2) (f := 1) (by first | assumption | decide | exact xs_ (by decide) | exact xc_ (by decide) | exact x31_ (by decide) | omega) (by first | assumption | decide | exact xs_ (by decide) | exact xc_ (by decide) | exact x31_ (by decide) | omega) (by first | assumption | decide | exact xs_ (by decide) | exact xc_ (by decide) | exact x31_ (by decide) | omega)).trans (rfl)
      rw [e13] at o12 ⊢
      refine z_inv1 hM dX6_commutes_47 vl_RX6_274 rfl rfl rfl (Nat.le_of_ble_eq_true rfl) (Nat.le_of_ble_eq_true rfl) ?_
      refine y_keepNumbers (by first | assumption | decide | exact xs_ (by decide) | exact xc_ (by decide) | exact x31_ (by decide) | omega) (fun ρ14 g_ρ14 k_ρ14 => ?_)
      have kp_ρ14 : ∀ k : Int, 0 ≤ k → k < numF (V 7 l 2) → ρ14 49 0 k = cmN (V 16 0) (V 15 0) (V 7 l 2) (V 9 l) (V 7 l 6).toNat k := fun k a b => (k_ρ14 k a b).trans (d_ρ11 k a b)
      have Rρ14 : RS t σ0 V ρ14 := RS.mk2 Rρ11.1 Rρ11.2.1 Rρ11.2.2 (fun c p q h => g_ρ14 c p q (by first | assumption | decide | exact xs_ (by decide) | exact xc_ (by decide) | exact x31_ (by decide) | omega))
      clear Rρ11
      skip
      have w9_ : RWP ρ14 (V 9 l) (V 7 l 6).toNat := RWP.ext (RWP.ext w_ρ8 (g_ρ11 30 0 8 (by decide)) (fun j => g_ρ11 37 0 j (by show ¬ ((37 : Nat) = 38 ∧ (0 : Int) = 0); decide))) (g_ρ14 30 0 8 (by decide)) (fun j => g_ρ14 37 0 j (by decide))
      refine r_aload_n hC dX6_commutes_50 rfl ?_
      refine z_getR hM dX6_commutes_51 fl_RX6_28 rfl rfl (vld_of (n := 1) rfl (by first | assumption | decide | exact xs_ (by decide) | exact xc_ (by decide) | exact x31_ (by decide) | omega) (by first | assumption | decide | exact xs_ (by decide) | exact xc_ (by decide) | exact x31_ (by decide) | omega)) ?_
      refine r_iload_n hC dX6_commutes_54 rfl ?_
      refine z_iald hM dX6_commutes_55 rfl (by first | assumption | decide | exact xs_ (by decide) | exact xc_ (by decide) | exact x31_ (by decide) | omega) (by first | assumption | decide | exact xs_ (by decide) | exact xc_ (by decide) | exact x31_ (by decide) | omega) (fun v15 h_v15 o_v15 t_v15 => ?_)
      have w_v15 := (t_v15 (Or.inr (Or.inr (Or.inr ⟨rfl, by first | exact True.intro | exact (rfl : true = true)⟩)))).symm
      clear t_v15
      subst w_v15
      refine r_istore_n hC dX6_commutes_56 rfl ?_
      refine r_aload_n hC dX6_commutes_57 rfl ?_
      refine z_getR hM dX6_commutes_58 fl_RX6_28 rfl rfl (vld_of (n := 1) rfl (by first | assumption | decide | exact xs_ (by decide) | exact xc_ (by decide) | exact x31_ (by decide) | omega) (by first | assumption | decide | exact xs_ (by decide) | exact xc_ (by decide) | exact x31_ (by decide) | omega)) ?_
      refine r_iload_n hC dX6_commutes_61 rfl ?_
      refine r_aload_n hC dX6_commutes_62 rfl ?_
      refine z_getR hM dX6_commutes_63 fl_RX6_28 rfl rfl (vld_of (n := 1) rfl (by first | assumption | decide | exact xs_ (by decide) | exact xc_ (by decide) | exact x31_ (by decide) | omega) (by first | assumption | decide | exact xs_ (by decide) | exact xc_ (by decide) | exact x31_ (by decide) | omega)) ?_
      refine r_iload_n hC dX6_commutes_66 rfl ?_
      refine r_iconst hC dX6_commutes_67 rfl ?_
      refine r_iaddE hC ((x + 1)) dX6_commutes_68 (by first | assumption | decide | exact xs_ (by decide) | exact xc_ (by decide) | exact x31_ (by decide) | omega) (by unfold inR; omega) ?_
      refine z_iald hM dX6_commutes_69 rfl (by first | assumption | decide | exact xs_ (by decide) | exact xc_ (by decide) | exact x31_ (by decide) | omega) (by first | assumption | decide | exact xs_ (by decide) | exact xc_ (by decide) | exact x31_ (by decide) | omega) (fun v16 h_v16 o_v16 t_v16 => ?_)
      have w_v16 := (t_v16 (Or.inr (Or.inr (Or.inr ⟨rfl, by first | exact True.intro | exact (rfl : true = true)⟩)))).symm
      clear t_v16
      subst w_v16
      refine z_iastT hM dX6_commutes_70 rfl (by first | assumption | decide | exact xs_ (by decide) | exact xc_ (by decide) | exact x31_ (by decide) | omega) (by first | assumption | decide | exact xs_ (by decide) | exact xc_ (by decide) | exact x31_ (by decide) | omega) ⟨Or.inr (by simp [DL]), Or.inr (by simp [DF])⟩ (by first | trivial | (simp only [Okv]; omega) | (simp [Okv]; try omega)) ?_
      obtain ⟨ρ17, e_ρ17⟩ : ∃ zz_, zz_ = mu ρ14 37 0 x (ρ14 37 0 (x + 1)) := ⟨_, rfl⟩
      rw [← e_ρ17]
      have f_ρ17 : FKx ρ14 ρ17 := fun c p q h => by rw [e_ρ17]; exact mu_ne (by first | assumption | decide | exact xs_ (by decide) | exact xc_ (by decide) | exact x31_ (by decide) | omega)
      have Rρ17 : RS t σ0 V ρ17 := RS.mk2 Rρ14.1 Rρ14.2.1 Rρ14.2.2 (fun c p q h => f_ρ17 c p q (by first | assumption | decide | exact xs_ (by decide) | exact xc_ (by decide) | exact x31_ (by decide) | omega))
      clear Rρ14
      have kp_ρ17 : ∀ k : Int, 0 ≤ k → k < numF (V 7 l 2) → ρ17 49 0 k = cmN (V 16 0) (V 15 0) (V 7 l 2) (V 9 l) (V 7 l 6).toNat k := fun k a b => (f_ρ17 49 0 k (by decide)).trans (kp_ρ14 k a b)
      refine r_aload_n hC dX6_commutes_71 rfl ?_
      refine z_getR hM dX6_commutes_72 fl_RX6_28 rfl rfl (vld_of (n := 1) rfl (by first | assumption | decide | exact xs_ (by decide) | exact xc_ (by decide) | exact x31_ (by decide) | omega) (by first | assumption | decide | exact xs_ (by decide) | exact xc_ (by decide) | exact x31_ (by decide) | omega)) ?_
      refine r_iload_n hC dX6_commutes_75 rfl ?_
      refine r_iconst hC dX6_commutes_76 rfl ?_
      refine r_iaddE hC ((x + 1)) dX6_commutes_77 (by first | assumption | decide | exact xs_ (by decide) | exact xc_ (by decide) | exact x31_ (by decide) | omega) (by unfold inR; omega) ?_
      refine r_iload_n hC dX6_commutes_78 rfl ?_
      refine z_iastT hM dX6_commutes_79 rfl (by first | assumption | decide | exact xs_ (by decide) | exact xc_ (by decide) | exact x31_ (by decide) | omega) (by first | assumption | decide | exact xs_ (by decide) | exact xc_ (by decide) | exact x31_ (by decide) | omega) ⟨Or.inr (by simp [DL]), Or.inr (by simp [DF])⟩ (by first | trivial | (simp only [Okv]; omega) | (simp [Okv]; try omega)) ?_
      obtain ⟨ρ18, e_ρ18⟩ : ∃ zz_, zz_ = mu ρ17 37 0 (x + 1) (ρ14 37 0 x) := ⟨_, rfl⟩
      rw [← e_ρ18]
      have f_ρ18 : FKx ρ17 ρ18 := fun c p q h => by rw [e_ρ18]; exact mu_ne (by first | assumption | decide | exact xs_ (by decide) | exact xc_ (by decide) | exact x31_ (by decide) | omega)
      have Rρ18 : RS t σ0 V ρ18 := RS.mk2 Rρ17.1 Rρ17.2.1 Rρ17.2.2 (fun c p q h => f_ρ18 c p q (by first | assumption | decide | exact xs_ (by decide) | exact xc_ (by decide) | exact x31_ (by decide) | omega))
      clear Rρ17
      have kp_ρ18 : ∀ k : Int, 0 ≤ k → k < numF (V 7 l 2) → ρ18 49 0 k = cmN (V 16 0) (V 15 0) (V 7 l 2) (V 9 l) (V 7 l 6).toNat k := fun k a b => (f_ρ18 49 0 k (by decide)).trans (kp_ρ17 k a b)
      skip
      have w_ρ18 : RWP ρ18 (coU V l x) (V 7 l 6).toNat := by
        refine ⟨?_, fun j a b => ?_⟩
        · rw [e_ρ18, mu_ne (by first | assumption | decide | exact xs_ (by decide) | exact xc_ (by decide) | exact x31_ (by decide) | omega), e_ρ17, mu_ne (by first | assumption | decide | exact xs_ (by decide) | exact xc_ (by decide) | exact x31_ (by decide) | omega)]; exact w9_.1
        · show ρ18 37 0 j = V 9 l (if j = x then x + 1 else if j = x + 1 then x else j)
          rw [e_ρ18]
          clear e_ρ18
          by_cases h1 : j = x + 1
          · subst h1
            rw [mu_self, if_neg (by first | assumption | decide | exact xs_ (by decide) | exact xc_ (by decide) | exact x31_ (by decide) | omega), if_pos rfl]
            exact w9_.2 x (by first | assumption | decide | exact xs_ (by decide) | exact xc_ (by decide) | exact x31_ (by decide) | omega) (by first | assumption | decide | exact xs_ (by decide) | exact xc_ (by decide) | exact x31_ (by decide) | omega)
          · rw [mu_ne (by first | assumption | decide | exact xs_ (by decide) | exact xc_ (by decide) | exact x31_ (by decide) | omega), e_ρ17]
            clear e_ρ17
            by_cases h2 : j = x
            · subst h2
              rw [mu_self, if_pos rfl]
              exact w9_.2 (j + 1) (by first | assumption | decide | exact xs_ (by decide) | exact xc_ (by decide) | exact x31_ (by decide) | omega) (by first | assumption | decide | exact xs_ (by decide) | exact xc_ (by decide) | exact x31_ (by decide) | omega)
            · rw [mu_ne (by first | assumption | decide | exact xs_ (by decide) | exact xc_ (by decide) | exact x31_ (by decide) | omega), if_neg h2, if_neg h1]
              exact w9_.2 j a b
      refine r_aload_n hC dX6_commutes_80 rfl ?_
      refine r_aload_n hC dX6_commutes_81 rfl ?_
      refine r_iload_n hC dX6_commutes_82 rfl ?_
      refine r_iconst hC dX6_commutes_83 rfl ?_
      refine z_inv2 hM dX6_commutes_84 vl_RX6_80 rfl rfl rfl (Nat.le_of_ble_eq_true rfl) (Nat.le_of_ble_eq_true rfl) ?_
      refine y_of (by first | assumption | decide | exact xs_ (by decide) | exact xc_ (by decide) | exact x31_ (by decide) | omega) (by first | assumption | decide | exact xs_ (by decide) | exact xc_ (by decide) | exact x31_ (by decide) | omega) (by first | assumption | decide | exact xs_ (by decide) | exact xc_ (by decide) | exact x31_ (by decide) | omega) (fun o19 => ?_)
      have e20 : ρ18 31 0 (22 * l + 1) = (V 7 l 2) := (Rρ18.1.a7 (s := 2) (f := 1) (by first | assumption | decide | exact xs_ (by decide) | exact xc_ (by decide) | exact x31_ (by decide) | omega) (by first | assumption | decide | exact xs_ (by decide) | exact xc_ (by decide) | exact x31_ (by decide) | omega) (by first | assumption | decide | exact xs_ (by decide) | exact xc_ (by decide) | exact x31_ (by decide) | omega)).trans (rfl)
      rw [e20] at o19 ⊢
      refine z_inv1 hM dX6_commutes_87 vl_RX6_161 rfl rfl rfl (Nat.le_of_ble_eq_true rfl) (Nat.le_of_ble_eq_true rfl) ?_
      refine y_goThroughW (n := (V 7 l 6).toNat) (u := (coU V l x)) (by first | assumption | decide | exact xs_ (by decide) | exact xc_ (by decide) | exact x31_ (by decide) | omega) (by first | assumption | decide | exact xs_ (by decide) | exact xc_ (by decide) | exact x31_ (by decide) | omega) (by first | assumption | decide | exact xs_ (by decide) | exact xc_ (by decide) | exact x31_ (by decide) | omega) w_ρ18 (fun j h0 h1 => by unfold coU; exact (hrow l _ (by first | assumption | decide | exact xs_ (by decide) | exact xc_ (by decide) | exact x31_ (by decide) | omega) (by first | assumption | decide | exact xs_ (by decide) | exact xc_ (by decide) | exact x31_ (by decide) | omega) (by (repeat' split) <;> omega) (by (repeat' split) <;> omega)).2) (fun ρ21 g_ρ21 c_ρ21 => ?_)
      have d_ρ21 : ∀ k : Int, 0 ≤ k → k < numF (V 7 l 2) → ρ21 38 0 k = cmN (V 16 0) (V 15 0) (V 7 l 2) (coU V l x) (V 7 l 6).toNat k := fun k a b => (c_ρ21 k a b).trans (cmN_t (fun j a b => Rρ18.1.t16 a b) (fun j a b => Rρ18.1.t15 a b) (fun j a b => by rw [Rρ18.1.t15 a (by first | assumption | decide | exact xs_ (by decide) | exact xc_ (by decide) | exact x31_ (by decide) | omega)]; exact hcl j a b) _ _ _ _)
      have f_ρ21 : FKx ρ18 ρ21 := fun c p q h => g_ρ21 c p q (by first | assumption | decide | exact xs_ (by decide) | exact xc_ (by decide) | exact x31_ (by decide) | omega)
      have Rρ21 : RS t σ0 V ρ21 := RS.mk2 Rρ18.1 Rρ18.2.1 Rρ18.2.2 (fun c p q h => f_ρ21 c p q (by first | assumption | decide | exact xs_ (by decide) | exact xc_ (by decide) | exact x31_ (by decide) | omega))
      clear Rρ18
      have kp_ρ21 : ∀ k : Int, 0 ≤ k → k < numF (V 7 l 2) → ρ21 49 0 k = cmN (V 16 0) (V 15 0) (V 7 l 2) (V 9 l) (V 7 l 6).toNat k := fun k a b => (f_ρ21 49 0 k (by decide)).trans (kp_ρ18 k a b)
      refine r_aload_n hC dX6_commutes_90 rfl ?_
      refine r_aload_n hC dX6_commutes_91 rfl ?_
      refine r_iload_n hC dX6_commutes_92 rfl ?_
      refine r_iconst hC dX6_commutes_93 rfl ?_
      refine z_inv2 hM dX6_commutes_94 vl_RX6_80 rfl rfl rfl (Nat.le_of_ble_eq_true rfl) (Nat.le_of_ble_eq_true rfl) ?_
      refine y_of (by first | assumption | decide | exact xs_ (by decide) | exact xc_ (by decide) | exact x31_ (by decide) | omega) (by first | assumption | decide | exact xs_ (by decide) | exact xc_ (by decide) | exact x31_ (by decide) | omega) (by first | assumption | decide | exact xs_ (by decide) | exact xc_ (by decide) | exact x31_ (by decide) | omega) (fun o22 => ?_)
      have e23 : ρ21 31 0 (22 * l + 1) = (V 7 l 2) := (Rρ21.1.a7 (s := 2) (f := 1) (by first | assumption | decide | exact xs_ (by decide) | exact xc_ (by decide) | exact x31_ (by decide) | omega) (by first | assumption | decide | exact xs_ (by decide) | exact xc_ (by decide) | exact x31_ (by decide) | omega) (by first | assumption | decide | exact xs_ (by decide) | exact xc_ (by decide) | exact x31_ (by decide) | omega)).trans (rfl)
      rw [e23] at o22 ⊢
      refine z_inv1 hM dX6_commutes_97 vl_RX6_277 rfl rfl rfl (Nat.le_of_ble_eq_true rfl) (Nat.le_of_ble_eq_true rfl) ?_
      refine y_areKept (by first | assumption | decide | exact xs_ (by decide) | exact xc_ (by decide) | exact x31_ (by decide) | omega) (fun hk_97 => ?_) (fun hk_97 => ?_)
      · have hq_ : ∀ k : Int, 0 ≤ k → k < numF (V 7 l 2) → cmN (V 16 0) (V 15 0) (V 7 l 2) (coU V l x) (V 7 l 6).toNat k = cmN (V 16 0) (V 15 0) (V 7 l 2) (V 9 l) (V 7 l 6).toNat k := fun k a b => ((d_ρ21 k a b).symm.trans ((hk_97 k a b).symm)).trans (kp_ρ21 k a b)
        refine r_if_eq (tgt := 107) hC dX6_commutes_100 rfl (fun h24 => by omega) (fun h24 => ?_)
        refine r_iconst hC dX6_commutes_103 rfl ?_
        refine r_goto (tgt := 108) hC dX6_commutes_104 rfl ?_
        refine y_iret hK rfl dX6_commutes_108 ?_
        have hA : comA V l x 1 := by
          refine ⟨fun z => absurd (by unfold comC opV; omega) z, fun _ => ?_⟩
          unfold alk
          rw [if_neg (by first | assumption | decide | exact xs_ (by decide) | exact xc_ (by decide) | exact x31_ (by decide) | omega)]
          exact ⟨fun _ => rfl, fun z => absurd hq_ z⟩
        exact k _ _ hA ⟨Rρ21.1, Rρ21.2.1, Rρ21.2.2⟩
      · have hq_ : ¬ ∀ k : Int, 0 ≤ k → k < numF (V 7 l 2) → cmN (V 16 0) (V 15 0) (V 7 l 2) (coU V l x) (V 7 l 6).toNat k = cmN (V 16 0) (V 15 0) (V 7 l 2) (V 9 l) (V 7 l 6).toNat k := fun q => hk_97 (fun k a b => (kp_ρ21 k a b).trans ((q k a b).symm.trans (d_ρ21 k a b).symm))
        refine r_if_eq (tgt := 107) hC dX6_commutes_100 rfl (fun h25 => ?_) (fun h25 => by omega)
        refine r_iconst hC dX6_commutes_107 rfl ?_
        refine y_iret hK rfl dX6_commutes_108 ?_
        have hA : comA V l x 0 := by
          refine ⟨fun z => absurd (by unfold comC opV; omega) z, fun _ => ?_⟩
          unfold alk
          rw [if_neg (by first | assumption | decide | exact xs_ (by decide) | exact xc_ (by decide) | exact x31_ (by decide) | omega)]
          exact ⟨fun z => absurd z hq_, fun _ => rfl⟩
        exact k _ _ hA ⟨Rρ21.1, Rρ21.2.1, Rρ21.2.2⟩
    · refine r_if_ne (tgt := 25) hC dX6_commutes_20 rfl (fun h26 => by omega) (fun h26 => ?_)
      refine r_iconst hC dX6_commutes_23 rfl ?_
      refine y_iret hK rfl dX6_commutes_24 ?_
      have hA : comA V l x (-1) := by
        exact ⟨fun _ => rfl, fun q => by unfold comC opV at q; omega⟩
      exact k _ _ hA ⟨hR.1, hR.2.1, hR.2.2⟩
  · unfold opV at h1
    refine r_if_eq (tgt := 23) hC dX6_commutes_5 rfl (fun h27 => ?_) (fun h27 => by omega)
    refine r_iconst hC dX6_commutes_23 rfl ?_
    refine y_iret hK rfl dX6_commutes_24 ?_
    have hA : comA V l x (-1) := by
      exact ⟨fun _ => rfl, fun q => by unfold comC opV at q; omega⟩
    exact k _ _ hA ⟨hR.1, hR.2.1, hR.2.2⟩
-- B: the reference: layParts, shortest, windows
theorem y_layParts {eb : Bool} {t : Int} {V : Mm} {d : Nat} {P : Option Vl → Mm → Prop} {σ : Mm} {l w : Int} (b_l : 0 ≤ l ∧ l ≤ 3) (b_w : 0 ≤ w ∧ w ≤ 6) {σ0 : Mm} (ht : 6 ≤ t ∧ t ≤ 7) (hR : RS t σ0 V σ) (hG : GI V) (hw : w < numF (V 7 l 2))  (k : ∀ ρ : Mm, RS t σ0 V ρ → (∀ a b : Int, 0 ≤ a → a ≤ b → b < V 7 l 6 → ρ 50 0 (120 * a + b) = ptV V l a (b + 1) w) → P none ρ) : WT (true, eb, true) (d + 6) 236 [vR 30 0, vI l, vI w] σ P := by
  refine WT_in fun K hK => ?_
  have hK : StpY (true, eb, true) cX6_layParts RX6 (none) (WT (true, eb, true) (d + 5)) P K := hK
  have hM := hK.1
  have hC := hK.1.1
  show K 0 [some (vR 30 0), some (vI l), some (vI w), none, none] [] σ
  have h6 := hG.1.h7 (l := l) (by first | assumption | decide | exact xs_ (by decide) | exact xc_ (by decide) | exact x31_ (by decide) | omega) (by first | assumption | decide | exact xs_ (by decide) | exact xc_ (by decide) | exact x31_ (by decide) | omega)
  refine r_iconst hC dX6_layParts_0 rfl ?_
  refine r_istore_n hC dX6_layParts_1 rfl ?_
  have L2 : ∀ (n2 : Nat) (w1 : Int) (ρ2 : Mm), 0 ≤ w1 ∧ w1 ≤ 121 → ((w1) ≤ V 7 l 6) → 121 - w1 < (n2 : Int) → (RS t σ0 V ρ2) → (∀ a b : Int, 0 ≤ a → a < (w1) → a ≤ b → b < V 7 l 6 → ρ2 50 0 (120 * a + b) = ptV V l a (b + 1) w) → K 2 [some (vR 30 0), some (vI l), some (vI w), some (vI w1), none] [] ρ2 := by
    intro n2
    induction n2 with
    | zero => intro w1 ρ2 f_w1 i0_2 hm  m0_2 m1_2; omega
    | succ n2 ih2 =>
      intro w1 ρ2 f_w1 i0_2 hm2  m0_2 m1_2
      refine r_iload_n hC dX6_layParts_2 rfl ?_
      refine r_aload_n hC dX6_layParts_3 rfl ?_
      refine r_iload_n hC dX6_layParts_4 rfl ?_
      refine z_inv1 hM dX6_layParts_5 vl_RX6_116 rfl rfl rfl (Nat.le_of_ble_eq_true rfl) (Nat.le_of_ble_eq_true rfl) ?_
      refine y_heldOf (by first | assumption | decide | exact xs_ (by decide) | exact xc_ (by decide) | exact x31_ (by decide) | omega) (fun o3 => ?_)
      have e4 : ρ2 31 0 (22 * l + 5) = (V 7 l 6) := (m0_2.1.a7 (s := 6) (f := 5) (by first | assumption | decide | exact xs_ (by decide) | exact xc_ (by decide) | exact x31_ (by decide) | omega) (by first | assumption | decide | exact xs_ (by decide) | exact xc_ (by decide) | exact x31_ (by decide) | omega) (by first | assumption | decide | exact xs_ (by decide) | exact xc_ (by decide) | exact x31_ (by decide) | omega)).trans (rfl)
      rw [e4] at o3 ⊢
      have qo3 : 0 ≤ (V 7 l 6) ∧ (V 7 l 6) ≤ 121 := o3.1 (by first | assumption | decide | exact xs_ (by decide) | exact xc_ (by decide) | exact x31_ (by decide) | omega)
      refine r_icmp_ge (tgt := 57) hC dX6_layParts_8 rfl (fun h5 => ?_) (fun h5 => ?_)
      · refine y_vret hK rfl dX6_layParts_57 ?_
        exact k _ ⟨m0_2.1, m0_2.2.1, m0_2.2.2⟩ (fun a b a0 b0 b1 => m1_2 a b a0 (by first | assumption | decide | exact xs_ (by decide) | exact xc_ (by decide) | exact x31_ (by decide) | omega) b0 b1)
      · refine r_iload_n hC dX6_layParts_11 rfl ?_
        refine r_istore hC dX6_layParts_12 rfl ?_
        have L14 : ∀ (n14 : Nat) (w6 : Int) (ρ7 : Mm), 0 ≤ w6 ∧ w6 ≤ 121 → ((w1) ≤ (w6)) → ((w6) ≤ V 7 l 6) → 121 - w6 < (n14 : Int) → (RS t σ0 V ρ7) → (∀ a b : Int, 0 ≤ a → a < (w1) → a ≤ b → b < V 7 l 6 → ρ7 50 0 (120 * a + b) = ptV V l a (b + 1) w) → (∀ b : Int, (w1) ≤ b → b < (w6) → ρ7 50 0 (120 * (w1) + b) = ptV V l (w1) (b + 1) w) → K 14 [some (vR 30 0), some (vI l), some (vI w), some (vI w1), some (vI w6)] [] ρ7 := by
          intro n14
          induction n14 with
          | zero => intro w6 ρ7 f_w6 i0_14 i1_14 hm  m0_14 m1_14 m2_14; omega
          | succ n14 ih14 =>
            intro w6 ρ7 f_w6 i0_14 i1_14 hm14  m0_14 m1_14 m2_14
            refine r_iload hC dX6_layParts_14 rfl ?_
            refine r_aload_n hC dX6_layParts_16 rfl ?_
            refine r_iload_n hC dX6_layParts_17 rfl ?_
            refine z_inv1 hM dX6_layParts_18 vl_RX6_116 rfl rfl rfl (Nat.le_of_ble_eq_true rfl) (Nat.le_of_ble_eq_true rfl) ?_
            refine y_heldOf (by first | assumption | decide | exact xs_ (by decide) | exact xc_ (by decide) | exact x31_ (by decide) | omega) (fun o8 => ?_)
            have e9 : ρ7 31 0 (22 * l + 5) = (V 7 l 6) := (m0_14.1.a7 (s := 6) (f := 5) (by first | assumption | decide | exact xs_ (by decide) | exact xc_ (by decide) | exact x31_ (by decide) | omega) (by first | assumption | decide | exact xs_ (by decide) | exact xc_ (by decide) | exact x31_ (by decide) | omega) (by first | assumption | decide | exact xs_ (by decide) | exact xc_ (by decide) | exact x31_ (by decide) | omega)).trans (rfl)
            rw [e9] at o8 ⊢
            have qo8 : 0 ≤ (V 7 l 6) ∧ (V 7 l 6) ≤ 121 := o8.1 (by first | assumption | decide | exact xs_ (by decide) | exact xc_ (by decide) | exact x31_ (by decide) | omega)
            refine r_icmp_ge (tgt := 51) hC dX6_layParts_21 rfl (fun h10 => ?_) (fun h10 => ?_)
            · refine r_iincE hC ((w1 + 1)) dX6_layParts_51 rfl rfl (by first | assumption | decide | exact xs_ (by decide) | exact xc_ (by decide) | exact x31_ (by decide) | omega) (by unfold inR; omega) ?_
              refine r_goto (tgt := 2) hC dX6_layParts_54 rfl ?_
              refine r_forget hC (ls2 := [some (vR 30 0), some (vI l), some (vI w), some (vI (w1 + 1)), none]) (lsub_some (lsub_some (lsub_some (lsub_some (lsub_none lsub_nil))))) ?_
              exact ih2 ((w1 + 1)) ρ7 (by first | assumption | decide | exact xs_ (by decide) | exact xc_ (by decide) | exact x31_ (by decide) | omega) (by first | assumption | decide | exact xs_ (by decide) | exact xc_ (by decide) | exact x31_ (by decide) | omega) (by first | assumption | decide | exact xs_ (by decide) | exact xc_ (by decide) | exact x31_ (by decide) | omega)  (⟨m0_14.1, m0_14.2.1, m0_14.2.2⟩) (fun a b a0 a1 b0 b1 => by rcases (by omega : a < w1 ∨ a = w1) with z | z; exact m1_14 a b a0 z b0 b1; subst z; exact m2_14 b b0 (by first | assumption | decide | exact xs_ (by decide) | exact xc_ (by decide) | exact x31_ (by decide) | omega))
            · refine r_aload_n hC dX6_layParts_24 rfl ?_
              refine z_getR hM dX6_layParts_25 fl_RX6_67 rfl rfl (vld_of (n := 1) rfl (by first | assumption | decide | exact xs_ (by decide) | exact xc_ (by decide) | exact x31_ (by decide) | omega) (by first | assumption | decide | exact xs_ (by decide) | exact xc_ (by decide) | exact x31_ (by decide) | omega)) ?_
              refine r_bipush hC dX6_layParts_28 rfl ?_
              refine r_iload_n hC dX6_layParts_30 rfl ?_
              refine r_imulE hC ((120 * w1)) dX6_layParts_31 (by first | assumption | decide | exact xs_ (by decide) | exact xc_ (by decide) | exact x31_ (by decide) | omega) (by unfold inR; omega) ?_
              refine r_iload hC dX6_layParts_32 rfl ?_
              refine r_iaddE hC (((120 * w1) + w6)) dX6_layParts_34 (by first | assumption | decide | exact xs_ (by decide) | exact xc_ (by decide) | exact x31_ (by decide) | omega) (by unfold inR; omega) ?_
              refine r_aload_n hC dX6_layParts_35 rfl ?_
              refine r_iload_n hC dX6_layParts_36 rfl ?_
              refine r_iload_n hC dX6_layParts_37 rfl ?_
              refine r_iload hC dX6_layParts_38 rfl ?_
              refine r_iload_n hC dX6_layParts_40 rfl ?_
              refine z_inv4 hM dX6_layParts_41 vl_RX6_243 rfl rfl rfl (Nat.le_of_ble_eq_true rfl) (Nat.le_of_ble_eq_true rfl) ?_
              refine y_comesFromK (V := V) (by first | assumption | decide | exact xs_ (by decide) | exact xc_ (by decide) | exact x31_ (by decide) | omega) (by first | assumption | decide | exact xs_ (by decide) | exact xc_ (by decide) | exact x31_ (by decide) | omega) (by first | assumption | decide | exact xs_ (by decide) | exact xc_ (by decide) | exact x31_ (by decide) | omega) (by first | assumption | decide | exact xs_ (by decide) | exact xc_ (by decide) | exact x31_ (by decide) | omega) ht ⟨m0_14.1, m0_14.2.1, m0_14.2.2⟩ (by first | assumption | decide | exact xs_ (by decide) | exact xc_ (by decide) | exact x31_ (by decide) | omega) (hG.2.1.lk hG.1 (l := l) (by first | assumption | decide | exact xs_ (by decide) | exact xc_ (by decide) | exact x31_ (by decide) | omega) (by first | assumption | decide | exact xs_ (by decide) | exact xc_ (by decide) | exact x31_ (by decide) | omega)) (by first | assumption | decide | exact xs_ (by decide) | exact xc_ (by decide) | exact x31_ (by decide) | omega) (fun ρ11 Rρ11 f_ρ11 => ?_)
              have ePρ11 : cm (V 16 0) (V 15 0) (V 7 l 2) (fun j => V 9 l (w1 + j)) (w6 + 1 - w1).toNat w = ptV V l w1 (w6 + 1) w := by unfold ptV; rw [show (w6 + 1 - w1 : Int) = (w6 + 1) - w1 from by omega]
              rw [ePρ11]
              refine z_iastT hM dX6_layParts_44 rfl (by first | assumption | decide | exact xs_ (by decide) | exact xc_ (by decide) | exact x31_ (by decide) | omega) (by first | assumption | decide | exact xs_ (by decide) | exact xc_ (by decide) | exact x31_ (by decide) | omega) ⟨Or.inr (by simp [DL]), Or.inr (by simp [DF])⟩ (by first | trivial | (simp only [Okv]; omega) | (simp [Okv]; try omega)) ?_
              obtain ⟨ρ12, e_ρ12⟩ : ∃ zz_, zz_ = mu ρ11 50 0 ((120 * w1) + w6) (ptV V l w1 (w6 + 1) w) := ⟨_, rfl⟩
              rw [← e_ρ12]
              have Rρ12 : RS t σ0 V ρ12 := RS.mk2 Rρ11.1 Rρ11.2.1 Rρ11.2.2 (fun c p q h => by rw [e_ρ12]; exact mu_ne (by first | assumption | decide | exact xs_ (by decide) | exact xc_ (by decide) | exact x31_ (by decide) | omega))
              clear Rρ11
              refine r_iincE hC ((w6 + 1)) dX6_layParts_45 rfl rfl (by first | assumption | decide | exact xs_ (by decide) | exact xc_ (by decide) | exact x31_ (by decide) | omega) (by unfold inR; omega) ?_
              refine r_goto (tgt := 14) hC dX6_layParts_48 rfl ?_
              exact ih14 ((w6 + 1)) ρ12 (by first | assumption | decide | exact xs_ (by decide) | exact xc_ (by decide) | exact x31_ (by decide) | omega) (by first | assumption | decide | exact xs_ (by decide) | exact xc_ (by decide) | exact x31_ (by decide) | omega) (by first | assumption | decide | exact xs_ (by decide) | exact xc_ (by decide) | exact x31_ (by decide) | omega) (by first | assumption | decide | exact xs_ (by decide) | exact xc_ (by decide) | exact x31_ (by decide) | omega)  (⟨Rρ12.1, Rρ12.2.1, Rρ12.2.2⟩) (fun a b a0 a1 b0 b1 => by rw [e_ρ12, mu_ne (by first | assumption | decide | exact xs_ (by decide) | exact xc_ (by decide) | exact x31_ (by decide) | omega)]; exact (f_ρ11 50 0 _ (by decide)).trans (m1_14 a b a0 a1 b0 b1)) (fun b b0 b1 => by rw [e_ρ12]; rcases (by omega : b < w6 ∨ b = w6) with z | z; exact (mu_ne (by first | assumption | decide | exact xs_ (by decide) | exact xc_ (by decide) | exact x31_ (by decide) | omega)).trans ((f_ρ11 50 0 _ (by decide)).trans (m2_14 b b0 z)); subst z; exact mu_self _ _ _ _ _)
        exact L14 123 (w1) ρ2 (by first | assumption | decide | exact xs_ (by decide) | exact xc_ (by decide) | exact x31_ (by decide) | omega) (by first | assumption | decide | exact xs_ (by decide) | exact xc_ (by decide) | exact x31_ (by decide) | omega) (by first | assumption | decide | exact xs_ (by decide) | exact xc_ (by decide) | exact x31_ (by decide) | omega) (by first | assumption | decide | exact xs_ (by decide) | exact xc_ (by decide) | exact x31_ (by decide) | omega)  (⟨m0_2.1, m0_2.2.1, m0_2.2.2⟩) (m1_2) (fun b b0 b1 => by omega)
  exact L2 123 (0) σ (by first | assumption | decide | exact xs_ (by decide) | exact xc_ (by decide) | exact x31_ (by decide) | omega) (by first | assumption | decide | exact xs_ (by decide) | exact xc_ (by decide) | exact x31_ (by decide) | omega) (by first | assumption | decide | exact xs_ (by decide) | exact xc_ (by decide) | exact x31_ (by decide) | omega)  (⟨hR.1, hR.2.1, hR.2.2⟩) (fun a b a0 a1 => by omega)
theorem y_shortest {eb : Bool} {t : Int} {V : Mm} {d : Nat} {P : Option Vl → Mm → Prop} {σ : Mm} {l w b u : Int}  {σ0 : Mm} (ht : 6 ≤ t ∧ t ≤ 7) (hR : RS t σ0 V σ) (hG : GI V)  (k : ∀ (r : Int) (ρ : Mm), stA V l w b u r → RS t σ0 V ρ → P (some (vI r)) ρ) : WT (true, eb, true) (d + 7) 237 [vR 30 0, vI l, vI w, vI b, vI u] σ P := by
  refine WT_in fun K hK => ?_
  have hK : StpY (true, eb, true) cX6_shortest RX6 (some .int) (WT (true, eb, true) (d + 6)) P K := hK
  have hM := hK.1
  have hC := hK.1.1
  show K 0 [some (vR 30 0), some (vI l), some (vI w), some (vI b), some (vI u), none, none] [] σ
  refine r_rngz hC (fun g0 => ?_)
  have r_l : -2147483648 ≤ l ∧ l ≤ 2147483647 := inR_le (g0 (vI l) (by simp))
  have r_w : -2147483648 ≤ w ∧ w ≤ 2147483647 := inR_le (g0 (vI w) (by simp))
  have r_b : -2147483648 ≤ b ∧ b ≤ 2147483647 := inR_le (g0 (vI b) (by simp))
  have r_u : -2147483648 ≤ u ∧ u ≤ 2147483647 := inR_le (g0 (vI u) (by simp))
  refine r_aload_n hC dX6_shortest_0 rfl ?_
  refine r_iload_n hC dX6_shortest_1 rfl ?_
  refine r_iload_n hC dX6_shortest_2 rfl ?_
  refine z_inv2 hM dX6_shortest_3 vl_RX6_207 rfl rfl rfl (Nat.le_of_ble_eq_true rfl) (Nat.le_of_ble_eq_true rfl) ?_
  refine y_isNumber (V := V) ht ⟨hR.1, hR.2.1, hR.2.2⟩ (fun l a b => (hG.2.1.2.2.2.1 l a b).2) (fun h1 => ?_) (fun h1 => ?_)
  · unfold lwC opV at h1
    have n_h1 := numF_rng (V 7 l 2)
    have h6 := hG.1.h7 (l := l) (by first | assumption | decide | exact xs_ (by decide) | exact xc_ (by decide) | exact x31_ (by decide) | omega) (by first | assumption | decide | exact xs_ (by decide) | exact xc_ (by decide) | exact x31_ (by decide) | omega)
    have hO_h1 := (hG.2.1.2.2.2.1 l (by first | assumption | decide | exact xs_ (by decide) | exact xc_ (by decide) | exact x31_ (by decide) | omega) (by first | assumption | decide | exact xs_ (by decide) | exact xc_ (by decide) | exact x31_ (by decide) | omega)).2
    refine r_if_eq (tgt := 19) hC dX6_shortest_6 rfl (fun h2 => by omega) (fun h2 => ?_)
    refine r_iload hC dX6_shortest_9 rfl ?_
    refine r_iconst hC dX6_shortest_11 rfl ?_
    refine r_iconst hC dX6_shortest_12 rfl ?_
    refine z_ins3 hM dX6_shortest_13 tl_RX6_76 rfl (Nat.le_of_ble_eq_true rfl) (Nat.le_of_ble_eq_true rfl) ?_
    refine m_isIn (fun h4 => ?_) (fun h4 => ?_)
    · refine r_if_ne (tgt := 21) hC dX6_shortest_16 rfl (fun h5 => ?_) (fun h5 => by omega)
      refine r_aload_n hC dX6_shortest_21 rfl ?_
      refine r_iload_n hC dX6_shortest_22 rfl ?_
      refine r_iload_n hC dX6_shortest_23 rfl ?_
      refine z_inv2 hM dX6_shortest_24 vl_RX6_286 rfl rfl rfl (Nat.le_of_ble_eq_true rfl) (Nat.le_of_ble_eq_true rfl) ?_
      refine y_layParts (V := V) (by first | assumption | decide | exact xs_ (by decide) | exact xc_ (by decide) | exact x31_ (by decide) | omega) (by first | assumption | decide | exact xs_ (by decide) | exact xc_ (by decide) | exact x31_ (by decide) | omega) ht ⟨hR.1, hR.2.1, hR.2.2⟩ hG (by first | assumption | decide | exact xs_ (by decide) | exact xc_ (by decide) | exact x31_ (by decide) | omega) (fun ρ6 Rρ6 hp_ => ?_)
      refine r_iconst hC dX6_shortest_27 rfl ?_
      refine r_istore hC dX6_shortest_28 rfl ?_
      have L30 : ∀ (n30 : Nat) (w7 : Int), 1 ≤ w7 ∧ w7 ≤ 121 → (∀ f m : Int, 0 ≤ f → 1 ≤ m → m < (w7) → f + m ≤ V 7 l 6 → ¬ rchV V l f (f + m) w b) → ((w7) ≤ V 7 l 6 + 1) → 121 - w7 < (n30 : Int) → K 30 [some (vR 30 0), some (vI l), some (vI w), some (vI b), some (vI u), some (vI w7), none] [] ρ6 := by
        intro n30
        induction n30 with
        | zero => intro w7  f_w7 i0_30 i1_30 hm  ; omega
        | succ n30 ih30 =>
          intro w7  f_w7 i0_30 i1_30 hm30  
          refine r_iload hC dX6_shortest_30 rfl ?_
          refine r_aload_n hC dX6_shortest_32 rfl ?_
          refine r_iload_n hC dX6_shortest_33 rfl ?_
          refine z_inv1 hM dX6_shortest_34 vl_RX6_116 rfl rfl rfl (Nat.le_of_ble_eq_true rfl) (Nat.le_of_ble_eq_true rfl) ?_
          refine y_heldOf (by first | assumption | decide | exact xs_ (by decide) | exact xc_ (by decide) | exact x31_ (by decide) | omega) (fun o8 => ?_)
          have e9 : ρ6 31 0 (22 * l + 5) = (V 7 l 6) := (Rρ6.1.a7 (s := 6) (f := 5) (by first | assumption | decide | exact xs_ (by decide) | exact xc_ (by decide) | exact x31_ (by decide) | omega) (by first | assumption | decide | exact xs_ (by decide) | exact xc_ (by decide) | exact x31_ (by decide) | omega) (by first | assumption | decide | exact xs_ (by decide) | exact xc_ (by decide) | exact x31_ (by decide) | omega)).trans (rfl)
          rw [e9] at o8 ⊢
          have qo8 : 0 ≤ (V 7 l 6) ∧ (V 7 l 6) ≤ 121 := o8.1 (by first | assumption | decide | exact xs_ (by decide) | exact xc_ (by decide) | exact x31_ (by decide) | omega)
          refine r_icmp_gt (tgt := 106) hC dX6_shortest_37 rfl (fun h10 => ?_) (fun h10 => ?_)
          · refine r_iconst hC dX6_shortest_106 rfl ?_
            refine y_iret hK rfl dX6_shortest_107 ?_
            have hA : stA V l w b u (-1) := by
              exact ⟨fun z => absurd (by unfold shC2 lwC opV; omega) z, fun _ => ⟨V 7 l 6 + 1, -1, Or.inl ⟨rfl, rfl, fun f m a b c => i0_30 f m a b (by first | assumption | decide | exact xs_ (by decide) | exact xc_ (by decide) | exact x31_ (by decide) | omega) c⟩, (if_pos rfl).symm⟩⟩
            exact k _ _ hA ⟨Rρ6.1, Rρ6.2.1, Rρ6.2.2⟩
          · refine r_iconst hC dX6_shortest_40 rfl ?_
            refine r_istore hC dX6_shortest_41 rfl ?_
            have L43 : ∀ (n43 : Nat) (w11 : Int), 0 ≤ w11 ∧ w11 ≤ 121 → (∀ f : Int, 0 ≤ f → f < (w11) → f + (w7) ≤ V 7 l 6 → ¬ rchV V l f (f + (w7)) w b) → ((w11) ≤ V 7 l 6) → 121 - w11 < (n43 : Int) → K 43 [some (vR 30 0), some (vI l), some (vI w), some (vI b), some (vI u), some (vI w7), some (vI w11)] [] ρ6 := by
              intro n43
              induction n43 with
              | zero => intro w11  f_w11 i0_43 i1_43 hm  ; omega
              | succ n43 ih43 =>
                intro w11  f_w11 i0_43 i1_43 hm43  
                refine r_iload hC dX6_shortest_43 rfl ?_
                refine r_iload hC dX6_shortest_45 rfl ?_
                refine r_iaddE hC ((w11 + w7)) dX6_shortest_47 (by first | assumption | decide | exact xs_ (by decide) | exact xc_ (by decide) | exact x31_ (by decide) | omega) (by unfold inR; omega) ?_
                refine r_aload_n hC dX6_shortest_48 rfl ?_
                refine r_iload_n hC dX6_shortest_49 rfl ?_
                refine z_inv1 hM dX6_shortest_50 vl_RX6_116 rfl rfl rfl (Nat.le_of_ble_eq_true rfl) (Nat.le_of_ble_eq_true rfl) ?_
                refine y_heldOf (by first | assumption | decide | exact xs_ (by decide) | exact xc_ (by decide) | exact x31_ (by decide) | omega) (fun o12 => ?_)
                have e13 : ρ6 31 0 (22 * l + 5) = (V 7 l 6) := (Rρ6.1.a7 (s := 6) (f := 5) (by first | assumption | decide | exact xs_ (by decide) | exact xc_ (by decide) | exact x31_ (by decide) | omega) (by first | assumption | decide | exact xs_ (by decide) | exact xc_ (by decide) | exact x31_ (by decide) | omega) (by first | assumption | decide | exact xs_ (by decide) | exact xc_ (by decide) | exact x31_ (by decide) | omega)).trans (rfl)
                rw [e13] at o12 ⊢
                have qo12 : 0 ≤ (V 7 l 6) ∧ (V 7 l 6) ≤ 121 := o12.1 (by first | assumption | decide | exact xs_ (by decide) | exact xc_ (by decide) | exact x31_ (by decide) | omega)
                refine r_icmp_gt (tgt := 100) hC dX6_shortest_53 rfl (fun h14 => ?_) (fun h14 => ?_)
                · refine r_iincE hC ((w7 + 1)) dX6_shortest_100 rfl rfl (by first | assumption | decide | exact xs_ (by decide) | exact xc_ (by decide) | exact x31_ (by decide) | omega) (by unfold inR; omega) ?_
                  refine r_goto (tgt := 30) hC dX6_shortest_103 rfl ?_
                  refine r_forget hC (ls2 := [some (vR 30 0), some (vI l), some (vI w), some (vI b), some (vI u), some (vI (w7 + 1)), none]) (lsub_some (lsub_some (lsub_some (lsub_some (lsub_some (lsub_some (lsub_none lsub_nil))))))) ?_
                  exact ih30 ((w7 + 1))  (by first | assumption | decide | exact xs_ (by decide) | exact xc_ (by decide) | exact x31_ (by decide) | omega) (by first | (intro f m a b c d; omega) | (intro f m a b c d; rcases (by omega : m < w7 ∨ m = w7) with z | z; exact i0_30 f m a b z d; subst z; exact i0_43 f a (by first | assumption | decide | exact xs_ (by decide) | exact xc_ (by decide) | exact x31_ (by decide) | omega) d)) (by first | assumption | decide | exact xs_ (by decide) | exact xc_ (by decide) | exact x31_ (by decide) | omega) (by first | assumption | decide | exact xs_ (by decide) | exact xc_ (by decide) | exact x31_ (by decide) | omega)  
                · refine r_aload_n hC dX6_shortest_56 rfl ?_
                  refine z_getR hM dX6_shortest_57 fl_RX6_67 rfl rfl (vld_of (n := 1) rfl (by first | assumption | decide | exact xs_ (by decide) | exact xc_ (by decide) | exact x31_ (by decide) | omega) (by first | assumption | decide | exact xs_ (by decide) | exact xc_ (by decide) | exact x31_ (by decide) | omega)) ?_
                  refine r_bipush hC dX6_shortest_60 rfl ?_
                  refine r_iload hC dX6_shortest_62 rfl ?_
                  refine r_imulE hC ((120 * w11)) dX6_shortest_64 (by first | assumption | decide | exact xs_ (by decide) | exact xc_ (by decide) | exact x31_ (by decide) | omega) (by unfold inR; omega) ?_
                  refine r_iload hC dX6_shortest_65 rfl ?_
                  refine r_iaddE hC (((120 * w11) + w11)) dX6_shortest_67 (by first | assumption | decide | exact xs_ (by decide) | exact xc_ (by decide) | exact x31_ (by decide) | omega) (by unfold inR; omega) ?_
                  refine r_iload hC dX6_shortest_68 rfl ?_
                  refine r_iaddE hC ((((120 * w11) + w11) + w7)) dX6_shortest_70 (by first | assumption | decide | exact xs_ (by decide) | exact xc_ (by decide) | exact x31_ (by decide) | omega) (by unfold inR; omega) ?_
                  refine r_iconst hC dX6_shortest_71 rfl ?_
                  refine r_isubE hC (((((120 * w11) + w11) + w7) - 1)) dX6_shortest_72 (by first | assumption | decide | exact xs_ (by decide) | exact xc_ (by decide) | exact x31_ (by decide) | omega) (by unfold inR; omega) ?_
                  have ev_v15 : ρ6 50 0 ((((120 * w11) + w11) + w7) - 1) = ptV V l w11 (w11 + w7) w := by rw [show ((((120 * w11) + w11) + w7) - 1) = 120 * w11 + (w11 + w7 - 1) from by omega]; exact (hp_ w11 (w11 + w7 - 1) (by first | assumption | decide | exact xs_ (by decide) | exact xc_ (by decide) | exact x31_ (by decide) | omega) (by first | assumption | decide | exact xs_ (by decide) | exact xc_ (by decide) | exact x31_ (by decide) | omega) (by first | assumption | decide | exact xs_ (by decide) | exact xc_ (by decide) | exact x31_ (by decide) | omega)).trans (by rw [show ((w11 + w7 - 1) + 1 : Int) = (w11 + w7) from by omega])
                  refine z_iald hM dX6_shortest_73 rfl (by first | assumption | decide | exact xs_ (by decide) | exact xc_ (by decide) | exact x31_ (by decide) | omega) (by first | assumption | decide | exact xs_ (by decide) | exact xc_ (by decide) | exact x31_ (by decide) | omega) (fun v15 h_v15 o_v15 t_v15 => ?_)
                  have w_v15 := ((t_v15 (Or.inr (Or.inr (Or.inr ⟨rfl, by first | exact True.intro | exact (rfl : true = true)⟩)))).trans ev_v15).symm
                  clear t_v15
                  subst w_v15
                  refine r_iload_n hC dX6_shortest_74 rfl ?_
                  refine z_ins2 hM dX6_shortest_75 tl_RX6_200 rfl (Nat.le_of_ble_eq_true rfl) (Nat.le_of_ble_eq_true rfl) ?_
                  refine y_isReached (fun hr_75 => ?_) (fun hr_75 => ?_)
                  · refine r_if_eq (tgt := 94) hC dX6_shortest_78 rfl (fun h16 => by omega) (fun h16 => ?_)
                    refine r_iload hC dX6_shortest_81 rfl ?_
                    refine r_if_ne (tgt := 91) hC dX6_shortest_83 rfl (fun h17 => ?_) (fun h17 => ?_)
                    · refine r_iload hC dX6_shortest_91 rfl ?_
                      refine y_iret hK rfl dX6_shortest_93 ?_
                      have hA : stA V l w b u w11 := by
                        exact ⟨fun z => absurd (by unfold shC2 lwC opV; omega) z, fun _ => ⟨w7, w11, Or.inr ⟨by omega, hr_75, fun f m a b c d => i0_30 f m a b d c, fun f a c => i0_43 f a c (by first | assumption | decide | exact xs_ (by decide) | exact xc_ (by decide) | exact x31_ (by decide) | omega)⟩, by rw [if_neg (by first | assumption | decide | exact xs_ (by decide) | exact xc_ (by decide) | exact x31_ (by decide) | omega)]; first | (rw [if_pos (by first | assumption | decide | exact xs_ (by decide) | exact xc_ (by decide) | exact x31_ (by decide) | omega)]; done) | (rw [if_neg (by first | assumption | decide | exact xs_ (by decide) | exact xc_ (by decide) | exact x31_ (by decide) | omega)]; done)⟩⟩
                      exact k _ _ hA ⟨Rρ6.1, Rρ6.2.1, Rρ6.2.2⟩
                    · refine r_iload hC dX6_shortest_86 rfl ?_
                      refine r_goto (tgt := 93) hC dX6_shortest_88 rfl ?_
                      refine y_iret hK rfl dX6_shortest_93 ?_
                      have hA : stA V l w b u w7 := by
                        exact ⟨fun z => absurd (by unfold shC2 lwC opV; omega) z, fun _ => ⟨w7, w11, Or.inr ⟨by omega, hr_75, fun f m a b c d => i0_30 f m a b d c, fun f a c => i0_43 f a c (by first | assumption | decide | exact xs_ (by decide) | exact xc_ (by decide) | exact x31_ (by decide) | omega)⟩, by rw [if_neg (by first | assumption | decide | exact xs_ (by decide) | exact xc_ (by decide) | exact x31_ (by decide) | omega)]; first | (rw [if_pos (by first | assumption | decide | exact xs_ (by decide) | exact xc_ (by decide) | exact x31_ (by decide) | omega)]; done) | (rw [if_neg (by first | assumption | decide | exact xs_ (by decide) | exact xc_ (by decide) | exact x31_ (by decide) | omega)]; done)⟩⟩
                      exact k _ _ hA ⟨Rρ6.1, Rρ6.2.1, Rρ6.2.2⟩
                  · refine r_if_eq (tgt := 94) hC dX6_shortest_78 rfl (fun h18 => ?_) (fun h18 => by omega)
                    refine r_iincE hC ((w11 + 1)) dX6_shortest_94 rfl rfl (by first | assumption | decide | exact xs_ (by decide) | exact xc_ (by decide) | exact x31_ (by decide) | omega) (by unfold inR; omega) ?_
                    refine r_goto (tgt := 43) hC dX6_shortest_97 rfl ?_
                    exact ih43 ((w11 + 1))  (by first | assumption | decide | exact xs_ (by decide) | exact xc_ (by decide) | exact x31_ (by decide) | omega) (by first | (intro f a b c; omega) | (intro f a b c; rcases (by omega : f < w11 ∨ f = w11) with z | z; exact i0_43 f a z c; subst z; exact hr_75)) (by first | assumption | decide | exact xs_ (by decide) | exact xc_ (by decide) | exact x31_ (by decide) | omega) (by first | assumption | decide | exact xs_ (by decide) | exact xc_ (by decide) | exact x31_ (by decide) | omega)  
            exact L43 123 (0)  (by first | assumption | decide | exact xs_ (by decide) | exact xc_ (by decide) | exact x31_ (by decide) | omega) (by first | (intro f a b c; omega) | (intro f a b c; rcases (by omega : f < w11 ∨ f = w11) with z | z; exact i0_43 f a z c; subst z; exact hr_75)) (by first | assumption | decide | exact xs_ (by decide) | exact xc_ (by decide) | exact x31_ (by decide) | omega) (by first | assumption | decide | exact xs_ (by decide) | exact xc_ (by decide) | exact x31_ (by decide) | omega)  
      exact L30 123 (1)  (by first | assumption | decide | exact xs_ (by decide) | exact xc_ (by decide) | exact x31_ (by decide) | omega) (by first | (intro f m a b c d; omega) | (intro f m a b c d; rcases (by omega : m < w7 ∨ m = w7) with z | z; exact i0_30 f m a b z d; subst z; exact i0_43 f a (by first | assumption | decide | exact xs_ (by decide) | exact xc_ (by decide) | exact x31_ (by decide) | omega) d)) (by first | assumption | decide | exact xs_ (by decide) | exact xc_ (by decide) | exact x31_ (by decide) | omega) (by first | assumption | decide | exact xs_ (by decide) | exact xc_ (by decide) | exact x31_ (by decide) | omega)  
    · refine r_if_ne (tgt := 21) hC dX6_shortest_16 rfl (fun h19 => by omega) (fun h19 => ?_)
      refine r_iconst hC dX6_shortest_19 rfl ?_
      refine y_iret hK rfl dX6_shortest_20 ?_
      have hA : stA V l w b u (-1) := by
        exact ⟨fun _ => rfl, fun q => by unfold shC2 lwC opV at q; omega⟩
      exact k _ _ hA ⟨hR.1, hR.2.1, hR.2.2⟩
  · unfold lwC opV at h1
    refine r_if_eq (tgt := 19) hC dX6_shortest_6 rfl (fun h20 => ?_) (fun h20 => by omega)
    refine r_iconst hC dX6_shortest_19 rfl ?_
    refine y_iret hK rfl dX6_shortest_20 ?_
    have hA : stA V l w b u (-1) := by
      exact ⟨fun _ => rfl, fun q => by unfold shC2 lwC opV at q; omega⟩
    exact k _ _ hA ⟨hR.1, hR.2.1, hR.2.2⟩
theorem y_windows {eb : Bool} {t : Int} {V : Mm} {d : Nat} {P : Option Vl → Mm → Prop} {σ : Mm} {l w x y : Int}  {σ0 : Mm} (ht : 6 ≤ t ∧ t ≤ 7) (hR : RS t σ0 V σ) (hG : GI V)  (k : ∀ ρ : Mm, RS t σ0 V ρ → P (some (vI (wnQ V l w x y))) ρ) : WT (true, eb, true) (d + 7) 238 [vR 30 0, vI l, vI w, vI x, vI y] σ P := by
  refine WT_in fun K hK => ?_
  have hK : StpY (true, eb, true) cX6_windows RX6 (some .int) (WT (true, eb, true) (d + 6)) P K := hK
  have hM := hK.1
  have hC := hK.1.1
  show K 0 [some (vR 30 0), some (vI l), some (vI w), some (vI x), some (vI y), none, none, none, none] [] σ
  refine r_rngz hC (fun g0 => ?_)
  have r_l : -2147483648 ≤ l ∧ l ≤ 2147483647 := inR_le (g0 (vI l) (by simp))
  have r_w : -2147483648 ≤ w ∧ w ≤ 2147483647 := inR_le (g0 (vI w) (by simp))
  have r_x : -2147483648 ≤ x ∧ x ≤ 2147483647 := inR_le (g0 (vI x) (by simp))
  have r_y : -2147483648 ≤ y ∧ y ≤ 2147483647 := inR_le (g0 (vI y) (by simp))
  have hcl := hG.2.1.2.2.2.2.2.2.2
  have hrow := hG.2.1.2.2.1
  refine r_aload_n hC dX6_windows_0 rfl ?_
  refine r_iload_n hC dX6_windows_1 rfl ?_
  refine r_iload_n hC dX6_windows_2 rfl ?_
  refine z_inv2 hM dX6_windows_3 vl_RX6_207 rfl rfl rfl (Nat.le_of_ble_eq_true rfl) (Nat.le_of_ble_eq_true rfl) ?_
  refine y_isNumber (V := V) ht ⟨hR.1, hR.2.1, hR.2.2⟩ (fun l a b => (hG.2.1.2.2.2.1 l a b).2) (fun h1 => ?_) (fun h1 => ?_)
  · unfold lwC opV at h1
    have n_h1 := numF_rng (V 7 l 2)
    have h6 := hG.1.h7 (l := l) (by first | assumption | decide | exact xs_ (by decide) | exact xc_ (by decide) | exact x31_ (by decide) | omega) (by first | assumption | decide | exact xs_ (by decide) | exact xc_ (by decide) | exact x31_ (by decide) | omega)
    have hO_h1 := (hG.2.1.2.2.2.1 l (by first | assumption | decide | exact xs_ (by decide) | exact xc_ (by decide) | exact x31_ (by decide) | omega) (by first | assumption | decide | exact xs_ (by decide) | exact xc_ (by decide) | exact x31_ (by decide) | omega)).2
    refine r_if_ne (tgt := 11) hC dX6_windows_6 rfl (fun h2 => ?_) (fun h2 => by omega)
    refine r_aload_n hC dX6_windows_11 rfl ?_
    refine r_iload_n hC dX6_windows_12 rfl ?_
    refine r_iload_n hC dX6_windows_13 rfl ?_
    refine z_inv2 hM dX6_windows_14 vl_RX6_286 rfl rfl rfl (Nat.le_of_ble_eq_true rfl) (Nat.le_of_ble_eq_true rfl) ?_
    refine y_layParts (V := V) (by first | assumption | decide | exact xs_ (by decide) | exact xc_ (by decide) | exact x31_ (by decide) | omega) (by first | assumption | decide | exact xs_ (by decide) | exact xc_ (by decide) | exact x31_ (by decide) | omega) ht ⟨hR.1, hR.2.1, hR.2.2⟩ hG (by first | assumption | decide | exact xs_ (by decide) | exact xc_ (by decide) | exact x31_ (by decide) | omega) (fun ρ3 Rρ3 hp_ => ?_)
    refine r_iconst hC dX6_windows_17 rfl ?_
    refine r_istore hC dX6_windows_18 rfl ?_
    refine r_iconst hC dX6_windows_20 rfl ?_
    refine r_istore hC dX6_windows_21 rfl ?_
    have L23 : ∀ (n23 : Nat) (w4 w5 : Int), 0 ≤ w4 ∧ w4 ≤ 14400 → 0 ≤ w5 ∧ w5 ≤ 121 → ((w4) = wnS V l w x y ((w5)).toNat) → ((w5) ≤ V 7 l 6) → 121 - w5 < (n23 : Int) → K 23 [some (vR 30 0), some (vI l), some (vI w), some (vI x), some (vI y), some (vI w4), some (vI w5), none, none] [] ρ3 := by
      intro n23
      induction n23 with
      | zero => intro w4 w5  f_w4 f_w5 i0_23 i1_23 hm  ; omega
      | succ n23 ih23 =>
        intro w4 w5  f_w4 f_w5 i0_23 i1_23 hm23  
        refine r_iload hC dX6_windows_23 rfl ?_
        refine r_aload_n hC dX6_windows_25 rfl ?_
        refine r_iload_n hC dX6_windows_26 rfl ?_
        refine z_inv1 hM dX6_windows_27 vl_RX6_116 rfl rfl rfl (Nat.le_of_ble_eq_true rfl) (Nat.le_of_ble_eq_true rfl) ?_
        refine y_heldOf (by first | assumption | decide | exact xs_ (by decide) | exact xc_ (by decide) | exact x31_ (by decide) | omega) (fun o6 => ?_)
        have e7 : ρ3 31 0 (22 * l + 5) = (V 7 l 6) := (Rρ3.1.a7 (s := 6) (f := 5) (by first | assumption | decide | exact xs_ (by decide) | exact xc_ (by decide) | exact x31_ (by decide) | omega) (by first | assumption | decide | exact xs_ (by decide) | exact xc_ (by decide) | exact x31_ (by decide) | omega) (by first | assumption | decide | exact xs_ (by decide) | exact xc_ (by decide) | exact x31_ (by decide) | omega)).trans (rfl)
        rw [e7] at o6 ⊢
        have qo6 : 0 ≤ (V 7 l 6) ∧ (V 7 l 6) ≤ 121 := o6.1 (by first | assumption | decide | exact xs_ (by decide) | exact xc_ (by decide) | exact x31_ (by decide) | omega)
        refine r_icmp_ge (tgt := 102) hC dX6_windows_30 rfl (fun h8 => ?_) (fun h8 => ?_)
        · refine r_iload hC dX6_windows_102 rfl ?_
          refine y_iret hK rfl dX6_windows_104 ?_
          have hRr : wnQ V l w x y = w4 := by
            unfold wnQ
            rw [if_pos (by unfold lwC opV; omega), show (V 7 l 6).toNat = (w5).toNat from by omega]
            exact i0_23.symm
          rw [hRr] at k
          exact k _ ⟨Rρ3.1, Rρ3.2.1, Rρ3.2.2⟩
        · refine r_iload hC dX6_windows_33 rfl ?_
          refine r_istore hC dX6_windows_35 rfl ?_
          have L37 : ∀ (n37 : Nat) (w9 w10 : Int), 0 ≤ w9 ∧ w9 ≤ 121 → 0 ≤ w10 ∧ w10 ≤ 14520 → ((w5) ≤ (w9)) → ((w10) = wnS V l w x y ((w5)).toNat + wnR (fun k => ptV V l (w5) ((w5) + k + 1) w) x y ((w9) - (w5)).toNat) → ((w9) ≤ V 7 l 6) → 121 - w9 < (n37 : Int) → K 37 [some (vR 30 0), some (vI l), some (vI w), some (vI x), some (vI y), some (vI w10), some (vI w5), some (vI w9), none] [] ρ3 := by
            intro n37
            induction n37 with
            | zero => intro w9 w10  f_w9 f_w10 i0_37 i1_37 i2_37 hm  ; omega
            | succ n37 ih37 =>
              intro w9 w10  f_w9 f_w10 i0_37 i1_37 i2_37 hm37  
              refine r_iload hC dX6_windows_37 rfl ?_
              refine r_aload_n hC dX6_windows_39 rfl ?_
              refine r_iload_n hC dX6_windows_40 rfl ?_
              refine z_inv1 hM dX6_windows_41 vl_RX6_116 rfl rfl rfl (Nat.le_of_ble_eq_true rfl) (Nat.le_of_ble_eq_true rfl) ?_
              refine y_heldOf (by first | assumption | decide | exact xs_ (by decide) | exact xc_ (by decide) | exact x31_ (by decide) | omega) (fun o11 => ?_)
              have e12 : ρ3 31 0 (22 * l + 5) = (V 7 l 6) := (Rρ3.1.a7 (s := 6) (f := 5) (by first | assumption | decide | exact xs_ (by decide) | exact xc_ (by decide) | exact x31_ (by decide) | omega) (by first | assumption | decide | exact xs_ (by decide) | exact xc_ (by decide) | exact x31_ (by decide) | omega) (by first | assumption | decide | exact xs_ (by decide) | exact xc_ (by decide) | exact x31_ (by decide) | omega)).trans (rfl)
              clear Rρ3
              rw [e12] at o11 ⊢
              have qo11 : 0 ≤ (V 7 l 6) ∧ (V 7 l 6) ≤ 121 := o11.1 (by first | assumption | decide | exact xs_ (by decide) | exact xc_ (by decide) | exact x31_ (by decide) | omega)
              refine r_icmp_ge (tgt := 96) hC dX6_windows_44 rfl (fun h13 => ?_) (fun h13 => ?_)
              · have eS := wnS_I (V := V) (l := l) (w := w) (a := x) (b := y) (i := w5) (by first | assumption | decide | exact xs_ (by decide) | exact xc_ (by decide) | exact x31_ (by decide) | omega)
                rw [show (V 7 l 6 - w5).toNat = (w9 - w5).toNat from by omega] at eS
                have bw := wnS_b (V := V) (l := l) (w := w) (a := x) (b := y) h6.2 (w5).toNat
                have br := wnR_b (fun k => ptV V l w5 (w5 + k + 1) w) x y (w9 - w5).toNat
                refine r_iincE hC ((w5 + 1)) dX6_windows_96 rfl rfl (by first | assumption | decide | exact xs_ (by decide) | exact xc_ (by decide) | exact x31_ (by decide) | omega) (by unfold inR; omega) ?_
                refine r_goto (tgt := 23) hC dX6_windows_99 rfl ?_
                refine r_forget hC (ls2 := [some (vR 30 0), some (vI l), some (vI w), some (vI x), some (vI y), some (vI w10), some (vI (w5 + 1)), none, none]) (lsub_some (lsub_some (lsub_some (lsub_some (lsub_some (lsub_some (lsub_some (lsub_none (lsub_none lsub_nil))))))))) ?_
                exact ih23 (w10) ((w5 + 1))  (by first | assumption | decide | exact xs_ (by decide) | exact xc_ (by decide) | exact x31_ (by decide) | omega) (by first | assumption | decide | exact xs_ (by decide) | exact xc_ (by decide) | exact x31_ (by decide) | omega) (by first | rfl | omega) (by first | assumption | decide | exact xs_ (by decide) | exact xc_ (by decide) | exact x31_ (by decide) | omega) (by first | assumption | decide | exact xs_ (by decide) | exact xc_ (by decide) | exact x31_ (by decide) | omega)  
              · refine r_aload_n hC dX6_windows_47 rfl ?_
                refine z_getR hM dX6_windows_48 fl_RX6_67 rfl rfl (vld_of (n := 1) rfl (by first | assumption | decide | exact xs_ (by decide) | exact xc_ (by decide) | exact x31_ (by decide) | omega) (by first | assumption | decide | exact xs_ (by decide) | exact xc_ (by decide) | exact x31_ (by decide) | omega)) ?_
                refine r_bipush hC dX6_windows_51 rfl ?_
                refine r_iload hC dX6_windows_53 rfl ?_
                refine r_imulE hC ((120 * w5)) dX6_windows_55 (by first | assumption | decide | exact xs_ (by decide) | exact xc_ (by decide) | exact x31_ (by decide) | omega) (by unfold inR; omega) ?_
                refine r_iload hC dX6_windows_56 rfl ?_
                refine r_iaddE hC (((120 * w5) + w9)) dX6_windows_58 (by first | assumption | decide | exact xs_ (by decide) | exact xc_ (by decide) | exact x31_ (by decide) | omega) (by unfold inR; omega) ?_
                have ev_v14 : ρ3 50 0 ((120 * w5) + w9) = ptV V l w5 (w9 + 1) w := by rw [show ((120 * w5) + w9) = 120 * w5 + w9 from by omega]; exact (hp_ w5 w9 (by first | assumption | decide | exact xs_ (by decide) | exact xc_ (by decide) | exact x31_ (by decide) | omega) (by first | assumption | decide | exact xs_ (by decide) | exact xc_ (by decide) | exact x31_ (by decide) | omega) (by first | assumption | decide | exact xs_ (by decide) | exact xc_ (by decide) | exact x31_ (by decide) | omega)).trans (by rw [show (w9 + 1 : Int) = (w9 + 1) from by omega])
                refine z_iald hM dX6_windows_59 rfl (by first | assumption | decide | exact xs_ (by decide) | exact xc_ (by decide) | exact x31_ (by decide) | omega) (by first | assumption | decide | exact xs_ (by decide) | exact xc_ (by decide) | exact x31_ (by decide) | omega) (fun v14 h_v14 o_v14 t_v14 => ?_)
                have w_v14 := ((t_v14 (Or.inr (Or.inr (Or.inr ⟨rfl, by first | exact True.intro | exact (rfl : true = true)⟩)))).trans ev_v14).symm
                clear t_v14
                subst w_v14
                have e2 : ptV V l w5 (w5 + (w9 - w5) + 1) w = (ptV V l w5 (w9 + 1) w) := by rw [show (w5 + (w9 - w5) + 1 : Int) = w9 + 1 from by omega]
                have e1 := wnR_I (f := (fun k => ptV V l w5 (w5 + k + 1) w)) (a := x) (b := y) (i := w9 - w5) (by first | assumption | decide | exact xs_ (by decide) | exact xc_ (by decide) | exact x31_ (by decide) | omega)
                rw [show (w9 - w5 + 1).toNat = (w9 + 1 - w5).toNat from by omega, e2] at e1
                unfold NO at e1
                have bw := wnS_b (V := V) (l := l) (w := w) (a := x) (b := y) h6.2 (w5).toNat
                have br := wnR_b (fun k => ptV V l w5 (w5 + k + 1) w) x y (w9 - w5).toNat
                refine r_istore hC dX6_windows_60 rfl ?_
                refine r_iload hC dX6_windows_62 rfl ?_
                refine r_iload hC dX6_windows_64 rfl ?_
                refine r_ldc hC dX6_windows_66 co_RX6_160 rfl ?_
                refine r_icmp_eq (tgt := 86) hC dX6_windows_68 rfl (fun h15 => ?_) (fun h15 => ?_)
                · refine r_iconst hC dX6_windows_86 rfl ?_
                  refine r_iaddE hC (w10) dX6_windows_87 (by first | assumption | decide | exact xs_ (by decide) | exact xc_ (by decide) | exact x31_ (by decide) | omega) (by unfold inR; omega) ?_
                  refine r_istore hC dX6_windows_88 rfl ?_
                  refine r_iincE hC ((w9 + 1)) dX6_windows_90 rfl rfl (by first | assumption | decide | exact xs_ (by decide) | exact xc_ (by decide) | exact x31_ (by decide) | omega) (by unfold inR; omega) ?_
                  refine r_goto (tgt := 37) hC dX6_windows_93 rfl ?_
                  refine r_forget hC (ls2 := [some (vR 30 0), some (vI l), some (vI w), some (vI x), some (vI y), some (vI w10), some (vI w5), some (vI (w9 + 1)), none]) (lsub_some (lsub_some (lsub_some (lsub_some (lsub_some (lsub_some (lsub_some (lsub_some (lsub_none lsub_nil))))))))) ?_
                  exact ih37 ((w9 + 1)) (w10)  (by first | assumption | decide | exact xs_ (by decide) | exact xc_ (by decide) | exact x31_ (by decide) | omega) (by first | assumption | decide | exact xs_ (by decide) | exact xc_ (by decide) | exact x31_ (by decide) | omega) (by first | assumption | decide | exact xs_ (by decide) | exact xc_ (by decide) | exact x31_ (by decide) | omega) (by first | (rw [show (w5 - w5).toNat = 0 from by omega]; show _ = _ + (0 : Int); omega) | (rw [if_pos (by first | assumption | decide | exact xs_ (by decide) | exact xc_ (by decide) | exact x31_ (by decide) | omega)] at e1; omega) | (rw [if_neg (by first | assumption | decide | exact xs_ (by decide) | exact xc_ (by decide) | exact x31_ (by decide) | omega)] at e1; omega)) (by first | assumption | decide | exact xs_ (by decide) | exact xc_ (by decide) | exact x31_ (by decide) | omega) (by first | assumption | decide | exact xs_ (by decide) | exact xc_ (by decide) | exact x31_ (by decide) | omega)  
                · refine r_iload hC dX6_windows_71 rfl ?_
                  refine r_iload_n hC dX6_windows_73 rfl ?_
                  refine r_iload hC dX6_windows_74 rfl ?_
                  refine z_ins3 hM dX6_windows_76 tl_RX6_76 rfl (Nat.le_of_ble_eq_true rfl) (Nat.le_of_ble_eq_true rfl) ?_
                  refine m_isIn (fun h17 => ?_) (fun h17 => ?_)
                  · refine r_if_eq (tgt := 86) hC dX6_windows_79 rfl (fun h18 => by omega) (fun h18 => ?_)
                    refine r_iconst hC dX6_windows_82 rfl ?_
                    refine r_goto (tgt := 87) hC dX6_windows_83 rfl ?_
                    refine r_iaddE hC ((w10 + 1)) dX6_windows_87 (by first | assumption | decide | exact xs_ (by decide) | exact xc_ (by decide) | exact x31_ (by decide) | omega) (by unfold inR; omega) ?_
                    refine r_istore hC dX6_windows_88 rfl ?_
                    refine r_iincE hC ((w9 + 1)) dX6_windows_90 rfl rfl (by first | assumption | decide | exact xs_ (by decide) | exact xc_ (by decide) | exact x31_ (by decide) | omega) (by unfold inR; omega) ?_
                    refine r_goto (tgt := 37) hC dX6_windows_93 rfl ?_
                    refine r_forget hC (ls2 := [some (vR 30 0), some (vI l), some (vI w), some (vI x), some (vI y), some (vI (w10 + 1)), some (vI w5), some (vI (w9 + 1)), none]) (lsub_some (lsub_some (lsub_some (lsub_some (lsub_some (lsub_some (lsub_some (lsub_some (lsub_none lsub_nil))))))))) ?_
                    exact ih37 ((w9 + 1)) ((w10 + 1))  (by first | assumption | decide | exact xs_ (by decide) | exact xc_ (by decide) | exact x31_ (by decide) | omega) (by first | assumption | decide | exact xs_ (by decide) | exact xc_ (by decide) | exact x31_ (by decide) | omega) (by first | assumption | decide | exact xs_ (by decide) | exact xc_ (by decide) | exact x31_ (by decide) | omega) (by first | (rw [show (w5 - w5).toNat = 0 from by omega]; show _ = _ + (0 : Int); omega) | (rw [if_pos (by first | assumption | decide | exact xs_ (by decide) | exact xc_ (by decide) | exact x31_ (by decide) | omega)] at e1; omega) | (rw [if_neg (by first | assumption | decide | exact xs_ (by decide) | exact xc_ (by decide) | exact x31_ (by decide) | omega)] at e1; omega)) (by first | assumption | decide | exact xs_ (by decide) | exact xc_ (by decide) | exact x31_ (by decide) | omega) (by first | assumption | decide | exact xs_ (by decide) | exact xc_ (by decide) | exact x31_ (by decide) | omega)  
                  · refine r_if_eq (tgt := 86) hC dX6_windows_79 rfl (fun h19 => ?_) (fun h19 => by omega)
                    refine r_iconst hC dX6_windows_86 rfl ?_
                    refine r_iaddE hC (w10) dX6_windows_87 (by first | assumption | decide | exact xs_ (by decide) | exact xc_ (by decide) | exact x31_ (by decide) | omega) (by unfold inR; omega) ?_
                    refine r_istore hC dX6_windows_88 rfl ?_
                    refine r_iincE hC ((w9 + 1)) dX6_windows_90 rfl rfl (by first | assumption | decide | exact xs_ (by decide) | exact xc_ (by decide) | exact x31_ (by decide) | omega) (by unfold inR; omega) ?_
                    refine r_goto (tgt := 37) hC dX6_windows_93 rfl ?_
                    refine r_forget hC (ls2 := [some (vR 30 0), some (vI l), some (vI w), some (vI x), some (vI y), some (vI w10), some (vI w5), some (vI (w9 + 1)), none]) (lsub_some (lsub_some (lsub_some (lsub_some (lsub_some (lsub_some (lsub_some (lsub_some (lsub_none lsub_nil))))))))) ?_
                    exact ih37 ((w9 + 1)) (w10)  (by first | assumption | decide | exact xs_ (by decide) | exact xc_ (by decide) | exact x31_ (by decide) | omega) (by first | assumption | decide | exact xs_ (by decide) | exact xc_ (by decide) | exact x31_ (by decide) | omega) (by first | assumption | decide | exact xs_ (by decide) | exact xc_ (by decide) | exact x31_ (by decide) | omega) (by first | (rw [show (w5 - w5).toNat = 0 from by omega]; show _ = _ + (0 : Int); omega) | (rw [if_pos (by first | assumption | decide | exact xs_ (by decide) | exact xc_ (by decide) | exact x31_ (by decide) | omega)] at e1; omega) | (rw [if_neg (by first | assumption | decide | exact xs_ (by decide) | exact xc_ (by decide) | exact x31_ (by decide) | omega)] at e1; omega)) (by first | assumption | decide | exact xs_ (by decide) | exact xc_ (by decide) | exact x31_ (by decide) | omega) (by first | assumption | decide | exact xs_ (by decide) | exact xc_ (by decide) | exact x31_ (by decide) | omega)  
          exact L37 123 (w5) (w4)  (by first | assumption | decide | exact xs_ (by decide) | exact xc_ (by decide) | exact x31_ (by decide) | omega) (by first | assumption | decide | exact xs_ (by decide) | exact xc_ (by decide) | exact x31_ (by decide) | omega) (by first | assumption | decide | exact xs_ (by decide) | exact xc_ (by decide) | exact x31_ (by decide) | omega) (by first | (rw [show (w5 - w5).toNat = 0 from by omega]; show _ = _ + (0 : Int); omega) | (rw [if_pos (by first | assumption | decide | exact xs_ (by decide) | exact xc_ (by decide) | exact x31_ (by decide) | omega)] at e1; omega) | (rw [if_neg (by first | assumption | decide | exact xs_ (by decide) | exact xc_ (by decide) | exact x31_ (by decide) | omega)] at e1; omega)) (by first | assumption | decide | exact xs_ (by decide) | exact xc_ (by decide) | exact x31_ (by decide) | omega) (by first | assumption | decide | exact xs_ (by decide) | exact xc_ (by decide) | exact x31_ (by decide) | omega)  
    exact L23 123 (0) (0)  (by first | assumption | decide | exact xs_ (by decide) | exact xc_ (by decide) | exact x31_ (by decide) | omega) (by first | assumption | decide | exact xs_ (by decide) | exact xc_ (by decide) | exact x31_ (by decide) | omega) (by first | rfl | omega) (by first | assumption | decide | exact xs_ (by decide) | exact xc_ (by decide) | exact x31_ (by decide) | omega) (by first | assumption | decide | exact xs_ (by decide) | exact xc_ (by decide) | exact x31_ (by decide) | omega)  
  · unfold lwC opV at h1
    refine r_if_ne (tgt := 11) hC dX6_windows_6 rfl (fun h20 => by omega) (fun h20 => ?_)
    refine r_iconst hC dX6_windows_9 rfl ?_
    refine y_iret hK rfl dX6_windows_10 ?_
    have hRr : wnQ V l w x y = (-1) := by
      exact if_neg (by unfold lwC opV; omega)
    rw [hRr] at k
    exact k _ ⟨hR.1, hR.2.1, hR.2.2⟩
