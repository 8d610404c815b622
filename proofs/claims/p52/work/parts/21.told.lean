-- B: the reference: what is asked with folds
theorem y_reach {eb : Bool} {t : Int} {V : Mm} {d : Nat} {P : Option Vl → Mm → Prop} {σ : Mm} {l w b : Int}  {σ0 : Mm} (ht : 6 ≤ t ∧ t ≤ 7) (hR : RS t σ0 V σ) (hG : GI V)  (k : ∀ (r : Int) (ρ : Mm), reA V l w b r → RS t σ0 V ρ → P (some (vI r)) ρ) : WT (true, eb, true) (d + 6) 219 [vR 30 0, vI l, vI w, vI b] σ P := by
  refine WT_in fun K hK => ?_
  have hK : StpY (true, eb, true) cX6_reach RX6 (some .int) (WT (true, eb, true) (d + 5)) P K := hK
  have hM := hK.1
  have hC := hK.1.1
  show K 0 [some (vR 30 0), some (vI l), some (vI w), some (vI b), none] [] σ
  refine r_rngz hC (fun g0 => ?_)
  have r_l : -2147483648 ≤ l ∧ l ≤ 2147483647 := inR_le (g0 (vI l) (by simp))
  have r_w : -2147483648 ≤ w ∧ w ≤ 2147483647 := inR_le (g0 (vI w) (by simp))
  have r_b : -2147483648 ≤ b ∧ b ≤ 2147483647 := inR_le (g0 (vI b) (by simp))
  refine r_aload_n hC dX6_reach_0 rfl ?_
  refine r_iload_n hC dX6_reach_1 rfl ?_
  refine r_iload_n hC dX6_reach_2 rfl ?_
  refine z_inv2 hM dX6_reach_3 vl_RX6_207 rfl rfl rfl (Nat.le_of_ble_eq_true rfl) (Nat.le_of_ble_eq_true rfl) ?_
  refine y_isNumber (V := V) ht ⟨hR.1, hR.2.1, hR.2.2⟩ (fun l a b => (hG.2.1.2.2.2.1 l a b).2) (fun h1 => ?_) (fun h1 => ?_)
  · unfold lwC opV at h1
    have n_h1 := numF_rng (V 7 l 2)
    have h6 := hG.1.h7 (l := l) (by first | assumption | decide | exact xs_ (by decide) | exact xc_ (by decide) | exact x31_ (by decide) | omega) (by first | assumption | decide | exact xs_ (by decide) | exact xc_ (by decide) | exact x31_ (by decide) | omega)
    have hO_h1 := (hG.2.1.2.2.2.1 l (by first | assumption | decide | exact xs_ (by decide) | exact xc_ (by decide) | exact x31_ (by decide) | omega) (by first | assumption | decide | exact xs_ (by decide) | exact xc_ (by decide) | exact x31_ (by decide) | omega)).2
    refine r_if_ne (tgt := 11) hC dX6_reach_6 rfl (fun h2 => ?_) (fun h2 => by omega)
    refine r_iconst hC dX6_reach_11 rfl ?_
    refine r_istore hC dX6_reach_12 rfl ?_
    have L14 : ∀ (n14 : Nat) (w3 : Int) (ρ4 : Mm), 1 ≤ w3 ∧ w3 ≤ 122 → (∀ n : Int, 1 ≤ n → n < (w3) → ¬ rchV V l 0 n w b) → 122 - w3 < (n14 : Int) → (RS t σ0 V ρ4) → K 14 [some (vR 30 0), some (vI l), some (vI w), some (vI b), some (vI w3)] [] ρ4 := by
      intro n14
      induction n14 with
      | zero => intro w3 ρ4 f_w3 i0_14 hm  m0_14; omega
      | succ n14 ih14 =>
        intro w3 ρ4 f_w3 i0_14 hm14  m0_14
        refine r_iload hC dX6_reach_14 rfl ?_
        refine r_aload_n hC dX6_reach_16 rfl ?_
        refine r_iload_n hC dX6_reach_17 rfl ?_
        refine z_inv1 hM dX6_reach_18 vl_RX6_116 rfl rfl rfl (Nat.le_of_ble_eq_true rfl) (Nat.le_of_ble_eq_true rfl) ?_
        refine y_heldOf (by first | assumption | decide | exact xs_ (by decide) | exact xc_ (by decide) | exact x31_ (by decide) | omega) (fun o5 => ?_)
        have e6 : ρ4 31 0 (22 * l + 5) = (V 7 l 6) := (m0_14.1.a7 (s := 6) (f := 5) (by first | assumption | decide | exact xs_ (by decide) | exact xc_ (by decide) | exact x31_ (by decide) | omega) (by first | assumption | decide | exact xs_ (by decide) | exact xc_ (by decide) | exact x31_ (by decide) | omega) (by first | assumption | decide | exact xs_ (by decide) | exact xc_ (by decide) | exact x31_ (by decide) | omega)).trans (rfl)
        rw [e6] at o5 ⊢
        have qo5 : 0 ≤ (V 7 l 6) ∧ (V 7 l 6) ≤ 121 := o5.1 (by first | assumption | decide | exact xs_ (by decide) | exact xc_ (by decide) | exact x31_ (by decide) | omega)
        refine r_icmp_gt (tgt := 51) hC dX6_reach_21 rfl (fun h7 => ?_) (fun h7 => ?_)
        · refine r_iconst hC dX6_reach_51 rfl ?_
          refine y_iret hK rfl dX6_reach_52 ?_
          have hA : reA V l w b (-1) := by
            exact ⟨fun _ => rfl, fun _ => Or.inl ⟨rfl, fun n n0 n1 => i0_14 n n0 (by first | assumption | decide | exact xs_ (by decide) | exact xc_ (by decide) | exact x31_ (by decide) | omega)⟩⟩
          exact k _ _ hA ⟨m0_14.1, m0_14.2.1, m0_14.2.2⟩
        · refine r_aload_n hC dX6_reach_24 rfl ?_
          refine r_iload_n hC dX6_reach_25 rfl ?_
          refine r_iconst hC dX6_reach_26 rfl ?_
          refine r_iload hC dX6_reach_27 rfl ?_
          refine r_iconst hC dX6_reach_29 rfl ?_
          refine r_isubE hC ((w3 - 1)) dX6_reach_30 (by first | assumption | decide | exact xs_ (by decide) | exact xc_ (by decide) | exact x31_ (by decide) | omega) (by unfold inR; omega) ?_
          refine r_iload_n hC dX6_reach_31 rfl ?_
          refine z_inv4 hM dX6_reach_32 vl_RX6_243 rfl rfl rfl (Nat.le_of_ble_eq_true rfl) (Nat.le_of_ble_eq_true rfl) ?_
          refine y_comesFrom (V := V) (by first | assumption | decide | exact xs_ (by decide) | exact xc_ (by decide) | exact x31_ (by decide) | omega) (by first | assumption | decide | exact xs_ (by decide) | exact xc_ (by decide) | exact x31_ (by decide) | omega) (by first | assumption | decide | exact xs_ (by decide) | exact xc_ (by decide) | exact x31_ (by decide) | omega) (by first | assumption | decide | exact xs_ (by decide) | exact xc_ (by decide) | exact x31_ (by decide) | omega) ht ⟨m0_14.1, m0_14.2.1, m0_14.2.2⟩ (by first | assumption | decide | exact xs_ (by decide) | exact xc_ (by decide) | exact x31_ (by decide) | omega) (hG.2.1.lk hG.1 (l := l) (by first | assumption | decide | exact xs_ (by decide) | exact xc_ (by decide) | exact x31_ (by decide) | omega) (by first | assumption | decide | exact xs_ (by decide) | exact xc_ (by decide) | exact x31_ (by decide) | omega)) (by first | assumption | decide | exact xs_ (by decide) | exact xc_ (by decide) | exact x31_ (by decide) | omega) (fun ρ8 Rρ8 => ?_)
          have ePρ8 : cm (V 16 0) (V 15 0) (V 7 l 2) (fun j => V 9 l (0 + j)) ((w3 - 1) + 1 - 0).toNat w = ptV V l 0 w3 w := by unfold ptV; rw [show ((w3 - 1) + 1 - 0 : Int) = w3 - 0 from by omega]
          rw [ePρ8]
          refine r_iload_n hC dX6_reach_35 rfl ?_
          refine z_ins2 hM dX6_reach_36 tl_RX6_200 rfl (Nat.le_of_ble_eq_true rfl) (Nat.le_of_ble_eq_true rfl) ?_
          refine y_isReached (fun hr_36 => ?_) (fun hr_36 => ?_)
          · refine r_if_eq (tgt := 45) hC dX6_reach_39 rfl (fun h9 => by omega) (fun h9 => ?_)
            refine r_iload hC dX6_reach_42 rfl ?_
            refine y_iret hK rfl dX6_reach_44 ?_
            have hA : reA V l w b w3 := by
              exact ⟨fun q => absurd ⟨by unfold opV; omega, by omega, by omega⟩ q, fun _ => Or.inr ⟨by omega, hr_36, fun n n0 n1 => i0_14 n n0 (by first | assumption | decide | exact xs_ (by decide) | exact xc_ (by decide) | exact x31_ (by decide) | omega)⟩⟩
            exact k _ _ hA ⟨Rρ8.1, Rρ8.2.1, Rρ8.2.2⟩
          · refine r_if_eq (tgt := 45) hC dX6_reach_39 rfl (fun h10 => ?_) (fun h10 => by omega)
            refine r_iincE hC ((w3 + 1)) dX6_reach_45 rfl rfl (by first | assumption | decide | exact xs_ (by decide) | exact xc_ (by decide) | exact x31_ (by decide) | omega) (by unfold inR; omega) ?_
            refine r_goto (tgt := 14) hC dX6_reach_48 rfl ?_
            exact ih14 ((w3 + 1)) ρ8 (by first | assumption | decide | exact xs_ (by decide) | exact xc_ (by decide) | exact x31_ (by decide) | omega) (by intro n n0 n1; first | omega | (rcases (by omega : n < w3 ∨ n = w3) with z | z; exact i0_14 n n0 z; subst z; exact hr_36)) (by first | assumption | decide | exact xs_ (by decide) | exact xc_ (by decide) | exact x31_ (by decide) | omega)  (⟨Rρ8.1, Rρ8.2.1, Rρ8.2.2⟩)
    exact L14 124 (1) σ (by first | assumption | decide | exact xs_ (by decide) | exact xc_ (by decide) | exact x31_ (by decide) | omega) (by intro n n0 n1; first | omega | (rcases (by omega : n < w3 ∨ n = w3) with z | z; exact i0_14 n n0 z; subst z; exact hr_36)) (by first | assumption | decide | exact xs_ (by decide) | exact xc_ (by decide) | exact x31_ (by decide) | omega)  (⟨hR.1, hR.2.1, hR.2.2⟩)
  · unfold lwC opV at h1
    refine r_if_ne (tgt := 11) hC dX6_reach_6 rfl (fun h11 => by omega) (fun h11 => ?_)
    refine r_iconst hC dX6_reach_9 rfl ?_
    refine y_iret hK rfl dX6_reach_10 ?_
    have hA : reA V l w b (-1) := by
      exact ⟨fun _ => rfl, fun q => by unfold lwC opV at q; omega⟩
    exact k _ _ hA ⟨hR.1, hR.2.1, hR.2.2⟩
theorem y_reachBack {eb : Bool} {t : Int} {V : Mm} {d : Nat} {P : Option Vl → Mm → Prop} {σ : Mm} {l w b : Int}  {σ0 : Mm} (ht : 6 ≤ t ∧ t ≤ 7) (hR : RS t σ0 V σ) (hG : GI V)  (k : ∀ (r : Int) (ρ : Mm), rbA V l w b r → RS t σ0 V ρ → P (some (vI r)) ρ) : WT (true, eb, true) (d + 6) 220 [vR 30 0, vI l, vI w, vI b] σ P := by
  refine WT_in fun K hK => ?_
  have hK : StpY (true, eb, true) cX6_reachBack RX6 (some .int) (WT (true, eb, true) (d + 5)) P K := hK
  have hM := hK.1
  have hC := hK.1.1
  show K 0 [some (vR 30 0), some (vI l), some (vI w), some (vI b), none] [] σ
  refine r_rngz hC (fun g0 => ?_)
  have r_l : -2147483648 ≤ l ∧ l ≤ 2147483647 := inR_le (g0 (vI l) (by simp))
  have r_w : -2147483648 ≤ w ∧ w ≤ 2147483647 := inR_le (g0 (vI w) (by simp))
  have r_b : -2147483648 ≤ b ∧ b ≤ 2147483647 := inR_le (g0 (vI b) (by simp))
  refine r_aload_n hC dX6_reachBack_0 rfl ?_
  refine r_iload_n hC dX6_reachBack_1 rfl ?_
  refine r_iload_n hC dX6_reachBack_2 rfl ?_
  refine z_inv2 hM dX6_reachBack_3 vl_RX6_207 rfl rfl rfl (Nat.le_of_ble_eq_true rfl) (Nat.le_of_ble_eq_true rfl) ?_
  refine y_isNumber (V := V) ht ⟨hR.1, hR.2.1, hR.2.2⟩ (fun l a b => (hG.2.1.2.2.2.1 l a b).2) (fun h1 => ?_) (fun h1 => ?_)
  · unfold lwC opV at h1
    have n_h1 := numF_rng (V 7 l 2)
    have h6 := hG.1.h7 (l := l) (by first | assumption | decide | exact xs_ (by decide) | exact xc_ (by decide) | exact x31_ (by decide) | omega) (by first | assumption | decide | exact xs_ (by decide) | exact xc_ (by decide) | exact x31_ (by decide) | omega)
    have hO_h1 := (hG.2.1.2.2.2.1 l (by first | assumption | decide | exact xs_ (by decide) | exact xc_ (by decide) | exact x31_ (by decide) | omega) (by first | assumption | decide | exact xs_ (by decide) | exact xc_ (by decide) | exact x31_ (by decide) | omega)).2
    refine r_if_ne (tgt := 11) hC dX6_reachBack_6 rfl (fun h2 => ?_) (fun h2 => by omega)
    refine r_iconst hC dX6_reachBack_11 rfl ?_
    refine r_istore hC dX6_reachBack_12 rfl ?_
    have L14 : ∀ (n14 : Nat) (w3 : Int) (ρ4 : Mm), 1 ≤ w3 ∧ w3 ≤ 122 → (∀ n : Int, 1 ≤ n → n < (w3) → ¬ rchV V l (V 7 l 6 - n) (V 7 l 6) w b) → 122 - w3 < (n14 : Int) → (RS t σ0 V ρ4) → K 14 [some (vR 30 0), some (vI l), some (vI w), some (vI b), some (vI w3)] [] ρ4 := by
      intro n14
      induction n14 with
      | zero => intro w3 ρ4 f_w3 i0_14 hm  m0_14; omega
      | succ n14 ih14 =>
        intro w3 ρ4 f_w3 i0_14 hm14  m0_14
        refine r_iload hC dX6_reachBack_14 rfl ?_
        refine r_aload_n hC dX6_reachBack_16 rfl ?_
        refine r_iload_n hC dX6_reachBack_17 rfl ?_
        refine z_inv1 hM dX6_reachBack_18 vl_RX6_116 rfl rfl rfl (Nat.le_of_ble_eq_true rfl) (Nat.le_of_ble_eq_true rfl) ?_
        refine y_heldOf (by first | assumption | decide | exact xs_ (by decide) | exact xc_ (by decide) | exact x31_ (by decide) | omega) (fun o5 => ?_)
        have e6 : ρ4 31 0 (22 * l + 5) = (V 7 l 6) := (m0_14.1.a7 (s := 6) (f := 5) (by first | assumption | decide | exact xs_ (by decide) | exact xc_ (by decide) | exact x31_ (by decide) | omega) (by first | assumption | decide | exact xs_ (by decide) | exact xc_ (by decide) | exact x31_ (by decide) | omega) (by first | assumption | decide | exact xs_ (by decide) | exact xc_ (by decide) | exact x31_ (by decide) | omega)).trans (rfl)
        rw [e6] at o5 ⊢
        have qo5 : 0 ≤ (V 7 l 6) ∧ (V 7 l 6) ≤ 121 := o5.1 (by first | assumption | decide | exact xs_ (by decide) | exact xc_ (by decide) | exact x31_ (by decide) | omega)
        refine r_icmp_gt (tgt := 61) hC dX6_reachBack_21 rfl (fun h7 => ?_) (fun h7 => ?_)
        · refine r_iconst hC dX6_reachBack_61 rfl ?_
          refine y_iret hK rfl dX6_reachBack_62 ?_
          have hA : rbA V l w b (-1) := by
            exact ⟨fun _ => rfl, fun _ => Or.inl ⟨rfl, fun n n0 n1 => i0_14 n n0 (by first | assumption | decide | exact xs_ (by decide) | exact xc_ (by decide) | exact x31_ (by decide) | omega)⟩⟩
          exact k _ _ hA ⟨m0_14.1, m0_14.2.1, m0_14.2.2⟩
        · refine r_aload_n hC dX6_reachBack_24 rfl ?_
          refine r_iload_n hC dX6_reachBack_25 rfl ?_
          refine r_aload_n hC dX6_reachBack_26 rfl ?_
          refine r_iload_n hC dX6_reachBack_27 rfl ?_
          refine z_inv1 hM dX6_reachBack_28 vl_RX6_116 rfl rfl rfl (Nat.le_of_ble_eq_true rfl) (Nat.le_of_ble_eq_true rfl) ?_
          refine y_heldOf (by first | assumption | decide | exact xs_ (by decide) | exact xc_ (by decide) | exact x31_ (by decide) | omega) (fun o8 => ?_)
          have e9 : ρ4 31 0 (22 * l + 5) = (V 7 l 6) := (m0_14.1.a7 (s := 6) (f := 5) (by first | assumption | decide | exact xs_ (by decide) | exact xc_ (by decide) | exact x31_ (by decide) | omega) (by first | assumption | decide | exact xs_ (by decide) | exact xc_ (by decide) | exact x31_ (by decide) | omega) (by first | assumption | decide | exact xs_ (by decide) | exact xc_ (by decide) | exact x31_ (by decide) | omega)).trans (rfl)
          rw [e9] at o8 ⊢
          have qo8 : 0 ≤ (V 7 l 6) ∧ (V 7 l 6) ≤ 121 := o8.1 (by first | assumption | decide | exact xs_ (by decide) | exact xc_ (by decide) | exact x31_ (by decide) | omega)
          refine r_iload hC dX6_reachBack_31 rfl ?_
          refine r_isubE hC (((V 7 l 6) - w3)) dX6_reachBack_33 (by first | assumption | decide | exact xs_ (by decide) | exact xc_ (by decide) | exact x31_ (by decide) | omega) (by unfold inR; omega) ?_
          refine r_aload_n hC dX6_reachBack_34 rfl ?_
          refine r_iload_n hC dX6_reachBack_35 rfl ?_
          refine z_inv1 hM dX6_reachBack_36 vl_RX6_116 rfl rfl rfl (Nat.le_of_ble_eq_true rfl) (Nat.le_of_ble_eq_true rfl) ?_
          refine y_heldOf (by first | assumption | decide | exact xs_ (by decide) | exact xc_ (by decide) | exact x31_ (by decide) | omega) (fun o10 => ?_)
          have e11 : ρ4 31 0 (22 * l + 5) = (V 7 l 6) := (m0_14.1.a7 (s := 6) (f := 5) (by first | assumption | decide | exact xs_ (by decide) | exact xc_ (by decide) | exact x31_ (by decide) | omega) (by first | assumption | decide | exact xs_ (by decide) | exact xc_ (by decide) | exact x31_ (by decide) | omega) (by first | assumption | decide | exact xs_ (by decide) | exact xc_ (by decide) | exact x31_ (by decide) | omega)).trans (rfl)
          rw [e11] at o10 ⊢
          have qo10 : 0 ≤ (V 7 l 6) ∧ (V 7 l 6) ≤ 121 := o10.1 (by first | assumption | decide | exact xs_ (by decide) | exact xc_ (by decide) | exact x31_ (by decide) | omega)
          refine r_iconst hC dX6_reachBack_39 rfl ?_
          refine r_isubE hC (((V 7 l 6) - 1)) dX6_reachBack_40 (by first | assumption | decide | exact xs_ (by decide) | exact xc_ (by decide) | exact x31_ (by decide) | omega) (by unfold inR; omega) ?_
          refine r_iload_n hC dX6_reachBack_41 rfl ?_
          refine z_inv4 hM dX6_reachBack_42 vl_RX6_243 rfl rfl rfl (Nat.le_of_ble_eq_true rfl) (Nat.le_of_ble_eq_true rfl) ?_
          refine y_comesFrom (V := V) (by first | assumption | decide | exact xs_ (by decide) | exact xc_ (by decide) | exact x31_ (by decide) | omega) (by first | assumption | decide | exact xs_ (by decide) | exact xc_ (by decide) | exact x31_ (by decide) | omega) (by first | assumption | decide | exact xs_ (by decide) | exact xc_ (by decide) | exact x31_ (by decide) | omega) (by first | assumption | decide | exact xs_ (by decide) | exact xc_ (by decide) | exact x31_ (by decide) | omega) ht ⟨m0_14.1, m0_14.2.1, m0_14.2.2⟩ (by first | assumption | decide | exact xs_ (by decide) | exact xc_ (by decide) | exact x31_ (by decide) | omega) (hG.2.1.lk hG.1 (l := l) (by first | assumption | decide | exact xs_ (by decide) | exact xc_ (by decide) | exact x31_ (by decide) | omega) (by first | assumption | decide | exact xs_ (by decide) | exact xc_ (by decide) | exact x31_ (by decide) | omega)) (by first | assumption | decide | exact xs_ (by decide) | exact xc_ (by decide) | exact x31_ (by decide) | omega) (fun ρ12 Rρ12 => ?_)
          have ePρ12 : cm (V 16 0) (V 15 0) (V 7 l 2) (fun j => V 9 l (((V 7 l 6) - w3) + j)) (((V 7 l 6) - 1) + 1 - ((V 7 l 6) - w3)).toNat w = ptV V l ((V 7 l 6) - w3) (V 7 l 6) w := by unfold ptV; rw [show (((V 7 l 6) - 1) + 1 - ((V 7 l 6) - w3) : Int) = (V 7 l 6) - ((V 7 l 6) - w3) from by omega]
          rw [ePρ12]
          refine r_iload_n hC dX6_reachBack_45 rfl ?_
          refine z_ins2 hM dX6_reachBack_46 tl_RX6_200 rfl (Nat.le_of_ble_eq_true rfl) (Nat.le_of_ble_eq_true rfl) ?_
          refine y_isReached (fun hr_46 => ?_) (fun hr_46 => ?_)
          · refine r_if_eq (tgt := 55) hC dX6_reachBack_49 rfl (fun h13 => by omega) (fun h13 => ?_)
            refine r_iload hC dX6_reachBack_52 rfl ?_
            refine y_iret hK rfl dX6_reachBack_54 ?_
            have hA : rbA V l w b w3 := by
              exact ⟨fun q => absurd ⟨by unfold opV; omega, by omega, by omega⟩ q, fun _ => Or.inr ⟨by omega, hr_46, fun n n0 n1 => i0_14 n n0 (by first | assumption | decide | exact xs_ (by decide) | exact xc_ (by decide) | exact x31_ (by decide) | omega)⟩⟩
            exact k _ _ hA ⟨Rρ12.1, Rρ12.2.1, Rρ12.2.2⟩
          · refine r_if_eq (tgt := 55) hC dX6_reachBack_49 rfl (fun h14 => ?_) (fun h14 => by omega)
            refine r_iincE hC ((w3 + 1)) dX6_reachBack_55 rfl rfl (by first | assumption | decide | exact xs_ (by decide) | exact xc_ (by decide) | exact x31_ (by decide) | omega) (by unfold inR; omega) ?_
            refine r_goto (tgt := 14) hC dX6_reachBack_58 rfl ?_
            exact ih14 ((w3 + 1)) ρ12 (by first | assumption | decide | exact xs_ (by decide) | exact xc_ (by decide) | exact x31_ (by decide) | omega) (by intro n n0 n1; first | omega | (rcases (by omega : n < w3 ∨ n = w3) with z | z; exact i0_14 n n0 z; subst z; exact hr_46)) (by first | assumption | decide | exact xs_ (by decide) | exact xc_ (by decide) | exact x31_ (by decide) | omega)  (⟨Rρ12.1, Rρ12.2.1, Rρ12.2.2⟩)
    exact L14 124 (1) σ (by first | assumption | decide | exact xs_ (by decide) | exact xc_ (by decide) | exact x31_ (by decide) | omega) (by intro n n0 n1; first | omega | (rcases (by omega : n < w3 ∨ n = w3) with z | z; exact i0_14 n n0 z; subst z; exact hr_46)) (by first | assumption | decide | exact xs_ (by decide) | exact xc_ (by decide) | exact x31_ (by decide) | omega)  (⟨hR.1, hR.2.1, hR.2.2⟩)
  · unfold lwC opV at h1
    refine r_if_ne (tgt := 11) hC dX6_reachBack_6 rfl (fun h15 => by omega) (fun h15 => ?_)
    refine r_iconst hC dX6_reachBack_9 rfl ?_
    refine y_iret hK rfl dX6_reachBack_10 ?_
    have hA : rbA V l w b (-1) := by
      exact ⟨fun _ => rfl, fun q => by unfold lwC opV at q; omega⟩
    exact k _ _ hA ⟨hR.1, hR.2.1, hR.2.2⟩
theorem y_bestOf {eb : Bool} {t : Int} {V : Mm} {d : Nat} {P : Option Vl → Mm → Prop} {σ : Mm} {l m w : Int}  {σ0 : Mm} (ht : 6 ≤ t ∧ t ≤ 7) (hR : RS t σ0 V σ) (hG : GI V)  (k : ∀ (r : Int) (ρ : Mm), paA V l m w r → RS t σ0 V ρ → P (some (vI r)) ρ) : WT (true, eb, true) (d + 6) 221 [vR 30 0, vI l, vI m, vI w] σ P := by
  refine WT_in fun K hK => ?_
  have hK : StpY (true, eb, true) cX6_bestOf RX6 (some .int) (WT (true, eb, true) (d + 5)) P K := hK
  have hM := hK.1
  have hC := hK.1.1
  show K 0 [some (vR 30 0), some (vI l), some (vI m), some (vI w), none, none, none, none] [] σ
  refine r_rngz hC (fun g0 => ?_)
  have r_l : -2147483648 ≤ l ∧ l ≤ 2147483647 := inR_le (g0 (vI l) (by simp))
  have r_m : -2147483648 ≤ m ∧ m ≤ 2147483647 := inR_le (g0 (vI m) (by simp))
  have r_w : -2147483648 ≤ w ∧ w ≤ 2147483647 := inR_le (g0 (vI w) (by simp))
  refine r_aload_n hC dX6_bestOf_0 rfl ?_
  refine r_iload_n hC dX6_bestOf_1 rfl ?_
  refine r_iload_n hC dX6_bestOf_2 rfl ?_
  refine z_inv2 hM dX6_bestOf_3 vl_RX6_207 rfl rfl rfl (Nat.le_of_ble_eq_true rfl) (Nat.le_of_ble_eq_true rfl) ?_
  refine y_isNumber (V := V) ht ⟨hR.1, hR.2.1, hR.2.2⟩ (fun l a b => (hG.2.1.2.2.2.1 l a b).2) (fun h1 => ?_) (fun h1 => ?_)
  · unfold lwC opV at h1
    have n_h1 := numF_rng (V 7 l 2)
    have h6 := hG.1.h7 (l := l) (by first | assumption | decide | exact xs_ (by decide) | exact xc_ (by decide) | exact x31_ (by decide) | omega) (by first | assumption | decide | exact xs_ (by decide) | exact xc_ (by decide) | exact x31_ (by decide) | omega)
    have hO_h1 := (hG.2.1.2.2.2.1 l (by first | assumption | decide | exact xs_ (by decide) | exact xc_ (by decide) | exact x31_ (by decide) | omega) (by first | assumption | decide | exact xs_ (by decide) | exact xc_ (by decide) | exact x31_ (by decide) | omega)).2
    refine r_if_eq (tgt := 22) hC dX6_bestOf_6 rfl (fun h2 => by omega) (fun h2 => ?_)
    refine r_iload_n hC dX6_bestOf_9 rfl ?_
    refine r_iconst hC dX6_bestOf_10 rfl ?_
    refine r_aload_n hC dX6_bestOf_11 rfl ?_
    refine r_iload_n hC dX6_bestOf_12 rfl ?_
    refine z_inv1 hM dX6_bestOf_13 vl_RX6_116 rfl rfl rfl (Nat.le_of_ble_eq_true rfl) (Nat.le_of_ble_eq_true rfl) ?_
    refine y_heldOf (by first | assumption | decide | exact xs_ (by decide) | exact xc_ (by decide) | exact x31_ (by decide) | omega) (fun o3 => ?_)
    have e4 : σ 31 0 (22 * l + 5) = (V 7 l 6) := (hR.1.a7 (s := 6) (f := 5) (by first | assumption | decide | exact xs_ (by decide) | exact xc_ (by decide) | exact x31_ (by decide) | omega) (by first | assumption | decide | exact xs_ (by decide) | exact xc_ (by decide) | exact x31_ (by decide) | omega) (by first | assumption | decide | exact xs_ (by decide) | exact xc_ (by decide) | exact x31_ (by decide) | omega)).trans (rfl)
    rw [e4] at o3 ⊢
    have qo3 : 0 ≤ (V 7 l 6) ∧ (V 7 l 6) ≤ 121 := o3.1 (by first | assumption | decide | exact xs_ (by decide) | exact xc_ (by decide) | exact x31_ (by decide) | omega)
    refine z_ins3 hM dX6_bestOf_16 tl_RX6_76 rfl (Nat.le_of_ble_eq_true rfl) (Nat.le_of_ble_eq_true rfl) ?_
    refine m_isIn (fun h6 => ?_) (fun h6 => ?_)
    · refine r_if_ne (tgt := 24) hC dX6_bestOf_19 rfl (fun h7 => ?_) (fun h7 => by omega)
      refine r_iconst hC dX6_bestOf_24 rfl ?_
      refine r_istore hC dX6_bestOf_25 rfl ?_
      refine r_aload_n hC dX6_bestOf_27 rfl ?_
      refine r_iload_n hC dX6_bestOf_28 rfl ?_
      refine r_iconst hC dX6_bestOf_29 rfl ?_
      refine r_iload_n hC dX6_bestOf_30 rfl ?_
      refine r_iconst hC dX6_bestOf_31 rfl ?_
      refine r_isubE hC ((m - 1)) dX6_bestOf_32 (by first | assumption | decide | exact xs_ (by decide) | exact xc_ (by decide) | exact x31_ (by decide) | omega) (by unfold inR; omega) ?_
      refine r_iload_n hC dX6_bestOf_33 rfl ?_
      refine z_inv4 hM dX6_bestOf_34 vl_RX6_243 rfl rfl rfl (Nat.le_of_ble_eq_true rfl) (Nat.le_of_ble_eq_true rfl) ?_
      refine y_comesFrom (V := V) (by first | assumption | decide | exact xs_ (by decide) | exact xc_ (by decide) | exact x31_ (by decide) | omega) (by first | assumption | decide | exact xs_ (by decide) | exact xc_ (by decide) | exact x31_ (by decide) | omega) (by first | assumption | decide | exact xs_ (by decide) | exact xc_ (by decide) | exact x31_ (by decide) | omega) (by first | assumption | decide | exact xs_ (by decide) | exact xc_ (by decide) | exact x31_ (by decide) | omega) ht ⟨hR.1, hR.2.1, hR.2.2⟩ (by first | assumption | decide | exact xs_ (by decide) | exact xc_ (by decide) | exact x31_ (by decide) | omega) (hG.2.1.lk hG.1 (l := l) (by first | assumption | decide | exact xs_ (by decide) | exact xc_ (by decide) | exact x31_ (by decide) | omega) (by first | assumption | decide | exact xs_ (by decide) | exact xc_ (by decide) | exact x31_ (by decide) | omega)) (by first | assumption | decide | exact xs_ (by decide) | exact xc_ (by decide) | exact x31_ (by decide) | omega) (fun ρ8 Rρ8 => ?_)
      have ePρ8 : cm (V 16 0) (V 15 0) (V 7 l 2) (fun j => V 9 l (0 + j)) ((m - 1) + 1 - 0).toNat w = ptV V l 0 m w := by unfold ptV; rw [show ((m - 1) + 1 - 0 : Int) = m - 0 from by omega]
      rw [ePρ8]
      rw [show (ptV V l 0 m w) = (ptV V l 0 (0 + m) w) from congrArg (fun z => ptV V l 0 z w) (show (m : Int) = 0 + m from by omega)]
      refine r_istore hC dX6_bestOf_37 rfl ?_
      show K _ [_, _, _, _, _, _, _, _] _ _
      refine r_rngz hC (fun g1 => ?_)
      have r8_39 : -2147483648 ≤ (ptV V l 0 (0 + m) w) ∧ (ptV V l 0 (0 + m) w) ≤ 2147483647 := inR_le (g1 (vI (ptV V l 0 (0 + m) w)) (by simp))
      refine r_iconst hC dX6_bestOf_39 rfl ?_
      refine r_istore hC dX6_bestOf_40 rfl ?_
      have L42 : ∀ (n42 : Nat) (w9 w10 w11 : Int) (ρ12 : Mm), 0 ≤ w9 ∧ w9 ≤ 120 → -2147483648 ≤ w10 ∧ w10 ≤ 2147483647 → 1 ≤ w11 ∧ w11 ≤ 121 → (BestP (fun i => ptV V l i (i + m) w) (w11) (w9) (w10)) → ((w11) + m ≤ V 7 l 6 + 1) → 121 - w11 < (n42 : Int) → (RS t σ0 V ρ12) → K 42 [some (vR 30 0), some (vI l), some (vI m), some (vI w), some (vI w9), some (vI w10), some (vI w11), none] [] ρ12 := by
        intro n42
        induction n42 with
        | zero => intro w9 w10 w11 ρ12 f_w9 f_w10 f_w11 i0_42 i1_42 hm  m0_42; omega
        | succ n42 ih42 =>
          intro w9 w10 w11 ρ12 f_w9 f_w10 f_w11 i0_42 i1_42 hm42  m0_42
          refine r_iload hC dX6_bestOf_42 rfl ?_
          refine r_iload_n hC dX6_bestOf_44 rfl ?_
          refine r_iaddE hC ((w11 + m)) dX6_bestOf_45 (by first | assumption | decide | exact xs_ (by decide) | exact xc_ (by decide) | exact x31_ (by decide) | omega) (by unfold inR; omega) ?_
          refine r_aload_n hC dX6_bestOf_46 rfl ?_
          refine r_iload_n hC dX6_bestOf_47 rfl ?_
          refine z_inv1 hM dX6_bestOf_48 vl_RX6_116 rfl rfl rfl (Nat.le_of_ble_eq_true rfl) (Nat.le_of_ble_eq_true rfl) ?_
          refine y_heldOf (by first | assumption | decide | exact xs_ (by decide) | exact xc_ (by decide) | exact x31_ (by decide) | omega) (fun o13 => ?_)
          have e14 : ρ12 31 0 (22 * l + 5) = (V 7 l 6) := (m0_42.1.a7 (s := 6) (f := 5) (by first | assumption | decide | exact xs_ (by decide) | exact xc_ (by decide) | exact x31_ (by decide) | omega) (by first | assumption | decide | exact xs_ (by decide) | exact xc_ (by decide) | exact x31_ (by decide) | omega) (by first | assumption | decide | exact xs_ (by decide) | exact xc_ (by decide) | exact x31_ (by decide) | omega)).trans (rfl)
          rw [e14] at o13 ⊢
          have qo13 : 0 ≤ (V 7 l 6) ∧ (V 7 l 6) ≤ 121 := o13.1 (by first | assumption | decide | exact xs_ (by decide) | exact xc_ (by decide) | exact x31_ (by decide) | omega)
          refine r_icmp_gt (tgt := 94) hC dX6_bestOf_51 rfl (fun h15 => ?_) (fun h15 => ?_)
          · refine r_iload hC dX6_bestOf_94 rfl ?_
            refine y_iret hK rfl dX6_bestOf_96 ?_
            have hA : paA V l m w w9 := by
              exact ⟨fun z => absurd (by unfold pkC lwC opV; omega) z, fun _ => BestP.done (n := w11) i0_42 (by first | assumption | decide | exact xs_ (by decide) | exact xc_ (by decide) | exact x31_ (by decide) | omega)⟩
            exact k _ _ hA ⟨m0_42.1, m0_42.2.1, m0_42.2.2⟩
          · refine r_aload_n hC dX6_bestOf_54 rfl ?_
            refine r_iload_n hC dX6_bestOf_55 rfl ?_
            refine r_iload hC dX6_bestOf_56 rfl ?_
            refine r_iload hC dX6_bestOf_58 rfl ?_
            refine r_iload_n hC dX6_bestOf_60 rfl ?_
            refine r_iaddE hC ((w11 + m)) dX6_bestOf_61 (by first | assumption | decide | exact xs_ (by decide) | exact xc_ (by decide) | exact x31_ (by decide) | omega) (by unfold inR; omega) ?_
            refine r_iconst hC dX6_bestOf_62 rfl ?_
            refine r_isubE hC (((w11 + m) - 1)) dX6_bestOf_63 (by first | assumption | decide | exact xs_ (by decide) | exact xc_ (by decide) | exact x31_ (by decide) | omega) (by unfold inR; omega) ?_
            refine r_iload_n hC dX6_bestOf_64 rfl ?_
            refine z_inv4 hM dX6_bestOf_65 vl_RX6_243 rfl rfl rfl (Nat.le_of_ble_eq_true rfl) (Nat.le_of_ble_eq_true rfl) ?_
            refine y_comesFrom (V := V) (by first | assumption | decide | exact xs_ (by decide) | exact xc_ (by decide) | exact x31_ (by decide) | omega) (by first | assumption | decide | exact xs_ (by decide) | exact xc_ (by decide) | exact x31_ (by decide) | omega) (by first | assumption | decide | exact xs_ (by decide) | exact xc_ (by decide) | exact x31_ (by decide) | omega) (by first | assumption | decide | exact xs_ (by decide) | exact xc_ (by decide) | exact x31_ (by decide) | omega) ht ⟨m0_42.1, m0_42.2.1, m0_42.2.2⟩ (by first | assumption | decide | exact xs_ (by decide) | exact xc_ (by decide) | exact x31_ (by decide) | omega) (hG.2.1.lk hG.1 (l := l) (by first | assumption | decide | exact xs_ (by decide) | exact xc_ (by decide) | exact x31_ (by decide) | omega) (by first | assumption | decide | exact xs_ (by decide) | exact xc_ (by decide) | exact x31_ (by decide) | omega)) (by first | assumption | decide | exact xs_ (by decide) | exact xc_ (by decide) | exact x31_ (by decide) | omega) (fun ρ16 Rρ16 => ?_)
            have ePρ16 : cm (V 16 0) (V 15 0) (V 7 l 2) (fun j => V 9 l (w11 + j)) (((w11 + m) - 1) + 1 - w11).toNat w = ptV V l w11 (w11 + m) w := by unfold ptV; rw [show (((w11 + m) - 1) + 1 - w11 : Int) = (w11 + m) - w11 from by omega]
            rw [ePρ16]
            refine r_istore hC dX6_bestOf_68 rfl ?_
            show K _ [_, _, _, _, _, _, _, _] _ _
            refine r_rngz hC (fun g1 => ?_)
            have r8_70 : -2147483648 ≤ (ptV V l w11 (w11 + m) w) ∧ (ptV V l w11 (w11 + m) w) ≤ 2147483647 := inR_le (g1 (vI (ptV V l w11 (w11 + m) w)) (by simp))
            refine r_iload hC dX6_bestOf_70 rfl ?_
            refine r_iload hC dX6_bestOf_72 rfl ?_
            refine r_icmp_gt (tgt := 80) hC dX6_bestOf_74 rfl (fun h17 => ?_) (fun h17 => ?_)
            · refine r_iload hC dX6_bestOf_80 rfl ?_
              refine r_istore hC dX6_bestOf_82 rfl ?_
              refine r_iload hC dX6_bestOf_84 rfl ?_
              refine r_istore hC dX6_bestOf_86 rfl ?_
              refine r_iincE hC ((w11 + 1)) dX6_bestOf_88 rfl rfl (by first | assumption | decide | exact xs_ (by decide) | exact xc_ (by decide) | exact x31_ (by decide) | omega) (by unfold inR; omega) ?_
              show K _ [_, _, _, _, _, _, _, _] _ _
              refine r_goto (tgt := 42) hC dX6_bestOf_91 rfl ?_
              refine r_forget hC (ls2 := [some (vR 30 0), some (vI l), some (vI m), some (vI w), some (vI w11), some (vI (ptV V l w11 (w11 + m) w)), some (vI (w11 + 1)), none]) (lsub_some (lsub_some (lsub_some (lsub_some (lsub_some (lsub_some (lsub_some (lsub_none lsub_nil)))))))) ?_
              exact ih42 (w11) ((ptV V l w11 (w11 + m) w)) ((w11 + 1)) ρ16 (by first | assumption | decide | exact xs_ (by decide) | exact xc_ (by decide) | exact x31_ (by decide) | omega) (by first | assumption | decide | exact xs_ (by decide) | exact xc_ (by decide) | exact x31_ (by decide) | omega) (by first | assumption | decide | exact xs_ (by decide) | exact xc_ (by decide) | exact x31_ (by decide) | omega) (by first | exact BestP.one rfl | exact BestP.one (by show ptV V l 0 _ w = ptV V l 0 (0 + m) w; congr 1; omega) | exact BestP.no i0_42 (by show ptV V l w11 (w11 + m) w ≤ _; omega) | exact BestP.yes i0_42 (by show _ < ptV V l w11 (w11 + m) w; omega)) (by first | assumption | decide | exact xs_ (by decide) | exact xc_ (by decide) | exact x31_ (by decide) | omega) (by first | assumption | decide | exact xs_ (by decide) | exact xc_ (by decide) | exact x31_ (by decide) | omega)  (⟨Rρ16.1, Rρ16.2.1, Rρ16.2.2⟩)
            · refine r_goto (tgt := 88) hC dX6_bestOf_77 rfl ?_
              refine r_iincE hC ((w11 + 1)) dX6_bestOf_88 rfl rfl (by first | assumption | decide | exact xs_ (by decide) | exact xc_ (by decide) | exact x31_ (by decide) | omega) (by unfold inR; omega) ?_
              refine r_goto (tgt := 42) hC dX6_bestOf_91 rfl ?_
              refine r_forget hC (ls2 := [some (vR 30 0), some (vI l), some (vI m), some (vI w), some (vI w9), some (vI w10), some (vI (w11 + 1)), none]) (lsub_some (lsub_some (lsub_some (lsub_some (lsub_some (lsub_some (lsub_some (lsub_none lsub_nil)))))))) ?_
              exact ih42 (w9) (w10) ((w11 + 1)) ρ16 (by first | assumption | decide | exact xs_ (by decide) | exact xc_ (by decide) | exact x31_ (by decide) | omega) (by first | assumption | decide | exact xs_ (by decide) | exact xc_ (by decide) | exact x31_ (by decide) | omega) (by first | assumption | decide | exact xs_ (by decide) | exact xc_ (by decide) | exact x31_ (by decide) | omega) (by first | exact BestP.one rfl | exact BestP.one (by show ptV V l 0 _ w = ptV V l 0 (0 + m) w; congr 1; omega) | exact BestP.no i0_42 (by show ptV V l w11 (w11 + m) w ≤ _; omega) | exact BestP.yes i0_42 (by show _ < ptV V l w11 (w11 + m) w; omega)) (by first | assumption | decide | exact xs_ (by decide) | exact xc_ (by decide) | exact x31_ (by decide) | omega) (by first | assumption | decide | exact xs_ (by decide) | exact xc_ (by decide) | exact x31_ (by decide) | omega)  (⟨Rρ16.1, Rρ16.2.1, Rρ16.2.2⟩)
      exact L42 123 (0) ((ptV V l 0 (0 + m) w)) (1) ρ8 (by first | assumption | decide | exact xs_ (by decide) | exact xc_ (by decide) | exact x31_ (by decide) | omega) (by first | assumption | decide | exact xs_ (by decide) | exact xc_ (by decide) | exact x31_ (by decide) | omega) (by first | assumption | decide | exact xs_ (by decide) | exact xc_ (by decide) | exact x31_ (by decide) | omega) (by first | exact BestP.one rfl | exact BestP.one (by show ptV V l 0 _ w = ptV V l 0 (0 + m) w; congr 1; omega) | exact BestP.no i0_42 (by show ptV V l w11 (w11 + m) w ≤ _; omega) | exact BestP.yes i0_42 (by show _ < ptV V l w11 (w11 + m) w; omega)) (by first | assumption | decide | exact xs_ (by decide) | exact xc_ (by decide) | exact x31_ (by decide) | omega) (by first | assumption | decide | exact xs_ (by decide) | exact xc_ (by decide) | exact x31_ (by decide) | omega)  (⟨Rρ8.1, Rρ8.2.1, Rρ8.2.2⟩)
    · refine r_if_ne (tgt := 24) hC dX6_bestOf_19 rfl (fun h18 => by omega) (fun h18 => ?_)
      refine r_iconst hC dX6_bestOf_22 rfl ?_
      refine y_iret hK rfl dX6_bestOf_23 ?_
      have hA : paA V l m w (-1) := by
        exact ⟨fun _ => rfl, fun q => by unfold pkC lwC opV at q; omega⟩
      exact k _ _ hA ⟨hR.1, hR.2.1, hR.2.2⟩
  · unfold lwC opV at h1
    refine r_if_eq (tgt := 22) hC dX6_bestOf_6 rfl (fun h19 => ?_) (fun h19 => by omega)
    refine r_iconst hC dX6_bestOf_22 rfl ?_
    refine y_iret hK rfl dX6_bestOf_23 ?_
    have hA : paA V l m w (-1) := by
      exact ⟨fun _ => rfl, fun q => by unfold pkC lwC opV at q; omega⟩
    exact k _ _ hA ⟨hR.1, hR.2.1, hR.2.2⟩
theorem y_peakAt {eb : Bool} {t : Int} {V : Mm} {d : Nat} {P : Option Vl → Mm → Prop} {σ : Mm} {l m w : Int}  {σ0 : Mm} (ht : 6 ≤ t ∧ t ≤ 7) (hR : RS t σ0 V σ) (hG : GI V)  (k : ∀ (r : Int) (ρ : Mm), paA V l m w r → RS t σ0 V ρ → P (some (vI r)) ρ) : WT (true, eb, true) (d + 7) 222 [vR 30 0, vI l, vI m, vI w] σ P := by
  refine WT_in fun K hK => ?_
  have hK : StpY (true, eb, true) cX6_peakAt RX6 (some .int) (WT (true, eb, true) (d + 6)) P K := hK
  have hM := hK.1
  have hC := hK.1.1
  show K 0 [some (vR 30 0), some (vI l), some (vI m), some (vI w)] [] σ
  refine r_rngz hC (fun g0 => ?_)
  have r_l : -2147483648 ≤ l ∧ l ≤ 2147483647 := inR_le (g0 (vI l) (by simp))
  have r_m : -2147483648 ≤ m ∧ m ≤ 2147483647 := inR_le (g0 (vI m) (by simp))
  have r_w : -2147483648 ≤ w ∧ w ≤ 2147483647 := inR_le (g0 (vI w) (by simp))
  refine r_aload_n hC dX6_peakAt_0 rfl ?_
  refine r_iload_n hC dX6_peakAt_1 rfl ?_
  refine r_iload_n hC dX6_peakAt_2 rfl ?_
  refine r_iload_n hC dX6_peakAt_3 rfl ?_
  refine z_inv3 hM dX6_peakAt_4 vl_RX6_268 rfl rfl rfl (Nat.le_of_ble_eq_true rfl) (Nat.le_of_ble_eq_true rfl) ?_
  refine y_bestOf (V := V) ht ⟨hR.1, hR.2.1, hR.2.2⟩ hG (fun v2 ρ1 hA_v2 Rρ1 => ?_)
  refine y_iret hK rfl dX6_peakAt_7 ?_
  have hA : paA V l m w v2 := by
    exact hA_v2
  exact k _ _ hA ⟨Rρ1.1, Rρ1.2.1, Rρ1.2.2⟩
theorem y_peak {eb : Bool} {t : Int} {V : Mm} {d : Nat} {P : Option Vl → Mm → Prop} {σ : Mm} {l m w : Int}  {σ0 : Mm} (ht : 6 ≤ t ∧ t ≤ 7) (hR : RS t σ0 V σ) (hG : GI V)  (k : ∀ (r : Int) (ρ : Mm), pkA V l m w r → RS t σ0 V ρ → P (some (vI r)) ρ) : WT (true, eb, true) (d + 7) 223 [vR 30 0, vI l, vI m, vI w] σ P := by
  refine WT_in fun K hK => ?_
  have hK : StpY (true, eb, true) cX6_peak RX6 (some .int) (WT (true, eb, true) (d + 6)) P K := hK
  have hM := hK.1
  have hC := hK.1.1
  show K 0 [some (vR 30 0), some (vI l), some (vI m), some (vI w), none] [] σ
  refine r_rngz hC (fun g0 => ?_)
  have r_l : -2147483648 ≤ l ∧ l ≤ 2147483647 := inR_le (g0 (vI l) (by simp))
  have r_m : -2147483648 ≤ m ∧ m ≤ 2147483647 := inR_le (g0 (vI m) (by simp))
  have r_w : -2147483648 ≤ w ∧ w ≤ 2147483647 := inR_le (g0 (vI w) (by simp))
  refine r_aload_n hC dX6_peak_0 rfl ?_
  refine r_iload_n hC dX6_peak_1 rfl ?_
  refine r_iload_n hC dX6_peak_2 rfl ?_
  refine r_iload_n hC dX6_peak_3 rfl ?_
  refine z_inv3 hM dX6_peak_4 vl_RX6_268 rfl rfl rfl (Nat.le_of_ble_eq_true rfl) (Nat.le_of_ble_eq_true rfl) ?_
  refine y_bestOf (V := V) ht ⟨hR.1, hR.2.1, hR.2.2⟩ hG (fun v2 ρ1 hA_v2 Rρ1 => ?_)
  have hB : v2 = -1 ∨ ((opV V l ∧ 0 ≤ w ∧ w < numF (V 7 l 2)) ∧ (1 ≤ m ∧ m ≤ V 7 l 6) ∧ 0 ≤ v2 ∧ v2 ≤ V 7 l 6 - m) := by
    by_cases c : pkC V l m w
    · exact Or.inr ⟨c.1, c.2, (hA_v2.2 c).1⟩
    · exact Or.inl (hA_v2.1 c)
  unfold opV at hB
  have n_b := numF_rng (V 7 l 2)
  have h6b : 0 ≤ l → l ≤ 3 → 0 ≤ V 7 l 6 ∧ V 7 l 6 ≤ 120 := fun a b => hG.1.h7 (l := l) a (by first | assumption | decide | exact xs_ (by decide) | exact xc_ (by decide) | exact x31_ (by decide) | omega)
  have hrg : -1 ≤ v2 ∧ v2 ≤ 120 := by omega
  refine r_istore hC dX6_peak_7 rfl ?_
  refine r_iload hC dX6_peak_9 rfl ?_
  refine r_if_ge (tgt := 19) hC dX6_peak_11 rfl (fun h3 => ?_) (fun h3 => ?_)
  · have hl3 : 0 ≤ l ∧ l ≤ 3 := by omega
    have hm120 : 1 ≤ m ∧ m ≤ 120 := by have := h6b (by first | assumption | decide | exact xs_ (by decide) | exact xc_ (by decide) | exact x31_ (by decide) | omega) (by first | assumption | decide | exact xs_ (by decide) | exact xc_ (by decide) | exact x31_ (by decide) | omega); omega
    refine r_aload_n hC dX6_peak_19 rfl ?_
    refine r_iload_n hC dX6_peak_20 rfl ?_
    refine r_iload hC dX6_peak_21 rfl ?_
    refine r_iload hC dX6_peak_23 rfl ?_
    refine r_iload_n hC dX6_peak_25 rfl ?_
    refine r_iaddE hC ((v2 + m)) dX6_peak_26 (by first | assumption | decide | exact xs_ (by decide) | exact xc_ (by decide) | exact x31_ (by decide) | omega) (by unfold inR; omega) ?_
    refine r_iconst hC dX6_peak_27 rfl ?_
    refine r_isubE hC (((v2 + m) - 1)) dX6_peak_28 (by first | assumption | decide | exact xs_ (by decide) | exact xc_ (by decide) | exact x31_ (by decide) | omega) (by unfold inR; omega) ?_
    refine r_iload_n hC dX6_peak_29 rfl ?_
    refine z_inv4 hM dX6_peak_30 vl_RX6_243 rfl rfl rfl (Nat.le_of_ble_eq_true rfl) (Nat.le_of_ble_eq_true rfl) ?_
    refine y_comesFrom (V := V) (by first | assumption | decide | exact xs_ (by decide) | exact xc_ (by decide) | exact x31_ (by decide) | omega) (by first | assumption | decide | exact xs_ (by decide) | exact xc_ (by decide) | exact x31_ (by decide) | omega) (by first | assumption | decide | exact xs_ (by decide) | exact xc_ (by decide) | exact x31_ (by decide) | omega) (by first | assumption | decide | exact xs_ (by decide) | exact xc_ (by decide) | exact x31_ (by decide) | omega) ht ⟨Rρ1.1, Rρ1.2.1, Rρ1.2.2⟩ (by first | assumption | decide | exact xs_ (by decide) | exact xc_ (by decide) | exact x31_ (by decide) | omega) (hG.2.1.lk hG.1 (l := l) (by first | assumption | decide | exact xs_ (by decide) | exact xc_ (by decide) | exact x31_ (by decide) | omega) (by first | assumption | decide | exact xs_ (by decide) | exact xc_ (by decide) | exact x31_ (by decide) | omega)) (by first | assumption | decide | exact xs_ (by decide) | exact xc_ (by decide) | exact x31_ (by decide) | omega) (fun ρ4 Rρ4 => ?_)
    have ePρ4 : cm (V 16 0) (V 15 0) (V 7 l 2) (fun j => V 9 l (v2 + j)) (((v2 + m) - 1) + 1 - v2).toNat w = ptV V l v2 (v2 + m) w := by unfold ptV; rw [show (((v2 + m) - 1) + 1 - v2 : Int) = (v2 + m) - v2 from by omega]
    rw [ePρ4]
    refine y_iret hK rfl dX6_peak_33 ?_
    have hA : pkA V l m w (ptV V l v2 (v2 + m) w) := by
      refine ⟨v2, hA_v2, ?_⟩
      first | (rw [if_neg (by first | assumption | decide | exact xs_ (by decide) | exact xc_ (by decide) | exact x31_ (by decide) | omega)]; done) | (rw [if_pos (by first | assumption | decide | exact xs_ (by decide) | exact xc_ (by decide) | exact x31_ (by decide) | omega)]; done) | (rw [if_neg (by first | assumption | decide | exact xs_ (by decide) | exact xc_ (by decide) | exact x31_ (by decide) | omega)]) | (rw [if_pos (by first | assumption | decide | exact xs_ (by decide) | exact xc_ (by decide) | exact x31_ (by decide) | omega)]; rfl)
    exact k _ _ hA ⟨Rρ4.1, Rρ4.2.1, Rρ4.2.2⟩
  · refine r_ldc hC dX6_peak_14 co_RX6_160 rfl ?_
    refine r_goto (tgt := 33) hC dX6_peak_16 rfl ?_
    refine y_iret hK rfl dX6_peak_33 ?_
    have hA : pkA V l m w (-2147483648) := by
      refine ⟨v2, hA_v2, ?_⟩
      first | (rw [if_neg (by first | assumption | decide | exact xs_ (by decide) | exact xc_ (by decide) | exact x31_ (by decide) | omega)]; done) | (rw [if_pos (by first | assumption | decide | exact xs_ (by decide) | exact xc_ (by decide) | exact x31_ (by decide) | omega)]; done) | (rw [if_neg (by first | assumption | decide | exact xs_ (by decide) | exact xc_ (by decide) | exact x31_ (by decide) | omega)]) | (rw [if_pos (by first | assumption | decide | exact xs_ (by decide) | exact xc_ (by decide) | exact x31_ (by decide) | omega)]; rfl)
    exact k _ _ hA ⟨Rρ1.1, Rρ1.2.1, Rρ1.2.2⟩
theorem y_comesWithout {eb : Bool} {t : Int} {V : Mm} {d : Nat} {P : Option Vl → Mm → Prop} {σ : Mm} {l x w : Int} (b_l : 0 ≤ l ∧ l ≤ 3) (b_x : 0 ≤ x ∧ x ≤ 119) (b_w : 0 ≤ w ∧ w ≤ 6) {σ0 : Mm} (ht : 6 ≤ t ∧ t ≤ 7) (hR : RS t σ0 V σ) (hG : GI V) (hw : w < numF (V 7 l 2)) (hx : x < V 7 l 6)  (k : ∀ ρ : Mm, RS t σ0 V ρ → P (some (vI (woV V l x w))) ρ) : WT (true, eb, true) (d + 5) 224 [vR 30 0, vI l, vI x, vI w] σ P := by
  refine WT_in fun K hK => ?_
  have hK : StpY (true, eb, true) cX6_comesWithout RX6 (some .int) (WT (true, eb, true) (d + 4)) P K := hK
  have hM := hK.1
  have hC := hK.1.1
  show K 0 [some (vR 30 0), some (vI l), some (vI x), some (vI w)] [] σ
  have hcl := hG.2.1.2.2.2.2.2.2.2
  have hrow := hG.2.1.2.2.1
  have h6_0 := hG.1.h7 (l := l) (by first | assumption | decide | exact xs_ (by decide) | exact xc_ (by decide) | exact x31_ (by decide) | omega) (by first | assumption | decide | exact xs_ (by decide) | exact xc_ (by decide) | exact x31_ (by decide) | omega)
  have hO_0 := (hG.2.1.2.2.2.1 l (by first | assumption | decide | exact xs_ (by decide) | exact xc_ (by decide) | exact x31_ (by decide) | omega) (by first | assumption | decide | exact xs_ (by decide) | exact xc_ (by decide) | exact x31_ (by decide) | omega)).2
  refine r_aload_n hC dX6_comesWithout_0 rfl ?_
  refine z_inv0 hM dX6_comesWithout_1 vl_RX6_113 rfl rfl rfl (Nat.le_of_ble_eq_true rfl) (Nat.le_of_ble_eq_true rfl) ?_
  refine y_clearRow ?_
  obtain ⟨ρ1, e_ρ1⟩ : ∃ zz_, zz_ = mu σ 30 0 8 0 := ⟨_, rfl⟩
  rw [← e_ρ1]
  have n_ρ1 : ∀ u : Int → Int, RWP ρ1 u 0 := fun u => RWP.nil (by rw [e_ρ1]; exact mu_self _ _ _ _ _)
  have Rρ1 : RS t σ0 V ρ1 := RS.mk2 hR.1 hR.2.1 hR.2.2 (fun c p q h => by rw [e_ρ1]; exact mu_ne (by first | assumption | decide | exact xs_ (by decide) | exact xc_ (by decide) | exact x31_ (by decide) | omega))
  clear e_ρ1
  refine r_aload_n hC dX6_comesWithout_4 rfl ?_
  refine r_iload_n hC dX6_comesWithout_5 rfl ?_
  refine r_iconst hC dX6_comesWithout_6 rfl ?_
  refine r_iload_n hC dX6_comesWithout_7 rfl ?_
  refine r_iconst hC dX6_comesWithout_8 rfl ?_
  refine r_isubE hC ((x - 1)) dX6_comesWithout_9 (by first | assumption | decide | exact xs_ (by decide) | exact xc_ (by decide) | exact x31_ (by decide) | omega) (by unfold inR; omega) ?_
  refine z_inv3 hM dX6_comesWithout_10 vl_RX6_120 rfl rfl rfl (Nat.le_of_ble_eq_true rfl) (Nat.le_of_ble_eq_true rfl) ?_
  refine y_putFrom (n := 0) (u := (woU V l x)) (by first | assumption | decide | exact xs_ (by decide) | exact xc_ (by decide) | exact x31_ (by decide) | omega) (by first | assumption | decide | exact xs_ (by decide) | exact xc_ (by decide) | exact x31_ (by decide) | omega) (by first | assumption | decide | exact xs_ (by decide) | exact xc_ (by decide) | exact x31_ (by decide) | omega) (by first | assumption | decide | exact xs_ (by decide) | exact xc_ (by decide) | exact x31_ (by decide) | omega) (by first | assumption | decide | exact xs_ (by decide) | exact xc_ (by decide) | exact x31_ (by decide) | omega) (n_ρ1 (woU V l x)) (fun j a b => Eq.trans (by show woU V l x (((0 : Nat) : Int) + (j - 0)) = V 9 l j; unfold woU; first | (rw [if_pos (by first | assumption | decide | exact xs_ (by decide) | exact xc_ (by decide) | exact x31_ (by decide) | omega)]; exact congrArg (V 9 l) (by first | assumption | decide | exact xs_ (by decide) | exact xc_ (by decide) | exact x31_ (by decide) | omega)) | (rw [if_neg (by first | assumption | decide | exact xs_ (by decide) | exact xc_ (by decide) | exact x31_ (by decide) | omega)]; exact congrArg (V 9 l) (by first | assumption | decide | exact xs_ (by decide) | exact xc_ (by decide) | exact x31_ (by decide) | omega))) (Rρ1.1.a9 (y := j) (by first | assumption | decide | exact xs_ (by decide) | exact xc_ (by decide) | exact x31_ (by decide) | omega) (by first | assumption | decide | exact xs_ (by decide) | exact xc_ (by decide) | exact x31_ (by decide) | omega) (by first | assumption | decide | exact xs_ (by decide) | exact xc_ (by decide) | exact x31_ (by decide) | omega) (by first | assumption | decide | exact xs_ (by decide) | exact xc_ (by decide) | exact x31_ (by decide) | omega)).symm) (fun ρ2 g_ρ2 w_ρ2 => ?_)
  have Rρ2 : RS t σ0 V ρ2 := RS.mk2 Rρ1.1 Rρ1.2.1 Rρ1.2.2 (fun c p q h => g_ρ2 c p q (by first | assumption | decide | exact xs_ (by decide) | exact xc_ (by decide) | exact x31_ (by decide) | omega))
  clear Rρ1
  refine r_aload_n hC dX6_comesWithout_13 rfl ?_
  refine r_iload_n hC dX6_comesWithout_14 rfl ?_
  refine r_iload_n hC dX6_comesWithout_15 rfl ?_
  refine r_iconst hC dX6_comesWithout_16 rfl ?_
  refine r_iaddE hC ((x + 1)) dX6_comesWithout_17 (by first | assumption | decide | exact xs_ (by decide) | exact xc_ (by decide) | exact x31_ (by decide) | omega) (by unfold inR; omega) ?_
  refine r_aload_n hC dX6_comesWithout_18 rfl ?_
  refine r_iload_n hC dX6_comesWithout_19 rfl ?_
  refine z_inv1 hM dX6_comesWithout_20 vl_RX6_116 rfl rfl rfl (Nat.le_of_ble_eq_true rfl) (Nat.le_of_ble_eq_true rfl) ?_
  refine y_heldOf (by first | assumption | decide | exact xs_ (by decide) | exact xc_ (by decide) | exact x31_ (by decide) | omega) (fun o3 => ?_)
  have e4 : ρ2 31 0 (22 * l + 5) = (V 7 l 6) := (Rρ2.1.a7 (s := 6) (f := 5) (by first | assumption | decide | exact xs_ (by decide) | exact xc_ (by decide) | exact x31_ (by decide) | omega) (by first | assumption | decide | exact xs_ (by decide) | exact xc_ (by decide) | exact x31_ (by decide) | omega) (by first | assumption | decide | exact xs_ (by decide) | exact xc_ (by decide) | exact x31_ (by decide) | omega)).trans (rfl)
  rw [e4] at o3 ⊢
  have qo3 : 0 ≤ (V 7 l 6) ∧ (V 7 l 6) ≤ 121 := o3.1 (by first | assumption | decide | exact xs_ (by decide) | exact xc_ (by decide) | exact x31_ (by decide) | omega)
  refine r_iconst hC dX6_comesWithout_23 rfl ?_
  refine r_isubE hC (((V 7 l 6) - 1)) dX6_comesWithout_24 (by first | assumption | decide | exact xs_ (by decide) | exact xc_ (by decide) | exact x31_ (by decide) | omega) (by unfold inR; omega) ?_
  refine z_inv3 hM dX6_comesWithout_25 vl_RX6_120 rfl rfl rfl (Nat.le_of_ble_eq_true rfl) (Nat.le_of_ble_eq_true rfl) ?_
  refine y_putFrom (n := (0 + ((x - 1) + 1 - 0).toNat)) (u := (woU V l x)) (by first | assumption | decide | exact xs_ (by decide) | exact xc_ (by decide) | exact x31_ (by decide) | omega) (by first | assumption | decide | exact xs_ (by decide) | exact xc_ (by decide) | exact x31_ (by decide) | omega) (by first | assumption | decide | exact xs_ (by decide) | exact xc_ (by decide) | exact x31_ (by decide) | omega) (by first | assumption | decide | exact xs_ (by decide) | exact xc_ (by decide) | exact x31_ (by decide) | omega) (by first | assumption | decide | exact xs_ (by decide) | exact xc_ (by decide) | exact x31_ (by decide) | omega) w_ρ2 (fun j a b => Eq.trans (by show woU V l x ((((0 + ((x - 1) + 1 - 0).toNat) : Nat) : Int) + (j - (x + 1))) = V 9 l j; unfold woU; first | (rw [if_pos (by first | assumption | decide | exact xs_ (by decide) | exact xc_ (by decide) | exact x31_ (by decide) | omega)]; exact congrArg (V 9 l) (by first | assumption | decide | exact xs_ (by decide) | exact xc_ (by decide) | exact x31_ (by decide) | omega)) | (rw [if_neg (by first | assumption | decide | exact xs_ (by decide) | exact xc_ (by decide) | exact x31_ (by decide) | omega)]; exact congrArg (V 9 l) (by first | assumption | decide | exact xs_ (by decide) | exact xc_ (by decide) | exact x31_ (by decide) | omega))) (Rρ2.1.a9 (y := j) (by first | assumption | decide | exact xs_ (by decide) | exact xc_ (by decide) | exact x31_ (by decide) | omega) (by first | assumption | decide | exact xs_ (by decide) | exact xc_ (by decide) | exact x31_ (by decide) | omega) (by first | assumption | decide | exact xs_ (by decide) | exact xc_ (by decide) | exact x31_ (by decide) | omega) (by first | assumption | decide | exact xs_ (by decide) | exact xc_ (by decide) | exact x31_ (by decide) | omega)).symm) (fun ρ5 g_ρ5 w_ρ5 => ?_)
  have Rρ5 : RS t σ0 V ρ5 := RS.mk2 Rρ2.1 Rρ2.2.1 Rρ2.2.2 (fun c p q h => g_ρ5 c p q (by first | assumption | decide | exact xs_ (by decide) | exact xc_ (by decide) | exact x31_ (by decide) | omega))
  clear Rρ2
  refine r_aload_n hC dX6_comesWithout_28 rfl ?_
  refine r_aload_n hC dX6_comesWithout_29 rfl ?_
  refine r_iload_n hC dX6_comesWithout_30 rfl ?_
  refine r_iconst hC dX6_comesWithout_31 rfl ?_
  refine z_inv2 hM dX6_comesWithout_32 vl_RX6_80 rfl rfl rfl (Nat.le_of_ble_eq_true rfl) (Nat.le_of_ble_eq_true rfl) ?_
  refine y_of (by first | assumption | decide | exact xs_ (by decide) | exact xc_ (by decide) | exact x31_ (by decide) | omega) (by first | assumption | decide | exact xs_ (by decide) | exact xc_ (by decide) | exact x31_ (by decide) | omega) (by first | assumption | decide | exact xs_ (by decide) | exact xc_ (by decide) | exact x31_ (by decide) | omega) (fun o6 => ?_)
  have e7 : ρ5 31 0 (22 * l + 1) = (V 7 l 2) := (Rρ5.1.a7 (s := 2) (f := 1) (by first | assumption | decide | exact xs_ (by decide) | exact xc_ (by decide) | exact x31_ (by decide) | omega) (by first | assumption | decide | exact xs_ (by decide) | exact xc_ (by decide) | exact x31_ (by decide) | omega) (by first | assumption | decide | exact xs_ (by decide) | exact xc_ (by decide) | exact x31_ (by decide) | omega)).trans (rfl)
  rw [e7] at o6 ⊢
  refine r_iload_n hC dX6_comesWithout_35 rfl ?_
  refine z_inv2 hM dX6_comesWithout_36 vl_RX6_197 rfl rfl rfl (Nat.le_of_ble_eq_true rfl) (Nat.le_of_ble_eq_true rfl) ?_
  refine y_comes (n := ((0 + ((x - 1) + 1 - 0).toNat) + (((V 7 l 6) - 1) + 1 - (x + 1)).toNat)) (u := (woU V l x)) (by first | assumption | decide | exact xs_ (by decide) | exact xc_ (by decide) | exact x31_ (by decide) | omega) (by first | assumption | decide | exact xs_ (by decide) | exact xc_ (by decide) | exact x31_ (by decide) | omega) (by first | assumption | decide | exact xs_ (by decide) | exact xc_ (by decide) | exact x31_ (by decide) | omega) (by first | assumption | decide | exact xs_ (by decide) | exact xc_ (by decide) | exact x31_ (by decide) | omega) w_ρ5 (fun j h0 h1 => by unfold woU; split; exact (hrow l j (by first | assumption | decide | exact xs_ (by decide) | exact xc_ (by decide) | exact x31_ (by decide) | omega) (by first | assumption | decide | exact xs_ (by decide) | exact xc_ (by decide) | exact x31_ (by decide) | omega) (by first | assumption | decide | exact xs_ (by decide) | exact xc_ (by decide) | exact x31_ (by decide) | omega) (by first | assumption | decide | exact xs_ (by decide) | exact xc_ (by decide) | exact x31_ (by decide) | omega)).2; exact (hrow l (j + 1) (by first | assumption | decide | exact xs_ (by decide) | exact xc_ (by decide) | exact x31_ (by decide) | omega) (by first | assumption | decide | exact xs_ (by decide) | exact xc_ (by decide) | exact x31_ (by decide) | omega) (by first | assumption | decide | exact xs_ (by decide) | exact xc_ (by decide) | exact x31_ (by decide) | omega) (by first | assumption | decide | exact xs_ (by decide) | exact xc_ (by decide) | exact x31_ (by decide) | omega)).2) (fun ρ8 g_ρ8 => ?_)
  rw [cm_t (fun j a b => Rρ5.1.t16 a b) (fun j a b => Rρ5.1.t15 a b) (fun j a b => by rw [Rρ5.1.t15 a (by first | assumption | decide | exact xs_ (by decide) | exact xc_ (by decide) | exact x31_ (by decide) | omega)]; exact hcl j a b)]
  have Rρ8 : RS t σ0 V ρ8 := RS.mk2 Rρ5.1 Rρ5.2.1 Rρ5.2.2 (fun c p q h => g_ρ8 c p q (by first | assumption | decide | exact xs_ (by decide) | exact xc_ (by decide) | exact x31_ (by decide) | omega))
  clear Rρ5
  refine y_iret hK rfl dX6_comesWithout_39 ?_
  have hRr : woV V l x w = (cm (V 16 0) (V 15 0) (V 7 l 2) (woU V l x) ((0 + ((x - 1) + 1 - 0).toNat) + (((V 7 l 6) - 1) + 1 - (x + 1)).toNat) w) := by
    unfold woV
    rw [show (V 7 l 6 - 1).toNat = ((0 + ((x - 1) + 1 - 0).toNat) + (((V 7 l 6) - 1) + 1 - (x + 1)).toNat) from by omega]
  rw [hRr] at k
  exact k _ ⟨Rρ8.1, Rρ8.2.1, Rρ8.2.2⟩
theorem y_without {eb : Bool} {t : Int} {V : Mm} {d : Nat} {P : Option Vl → Mm → Prop} {σ : Mm} {l x w : Int}  {σ0 : Mm} (ht : 6 ≤ t ∧ t ≤ 7) (hR : RS t σ0 V σ) (hG : GI V)  (k : ∀ ρ : Mm, RS t σ0 V ρ → P (some (vI (woR V l x w))) ρ) : WT (true, eb, true) (d + 6) 225 [vR 30 0, vI l, vI x, vI w] σ P := by
  refine WT_in fun K hK => ?_
  have hK : StpY (true, eb, true) cX6_without RX6 (some .int) (WT (true, eb, true) (d + 5)) P K := hK
  have hM := hK.1
  have hC := hK.1.1
  show K 0 [some (vR 30 0), some (vI l), some (vI x), some (vI w)] [] σ
  refine r_rngz hC (fun g0 => ?_)
  have r_l : -2147483648 ≤ l ∧ l ≤ 2147483647 := inR_le (g0 (vI l) (by simp))
  have r_x : -2147483648 ≤ x ∧ x ≤ 2147483647 := inR_le (g0 (vI x) (by simp))
  have r_w : -2147483648 ≤ w ∧ w ≤ 2147483647 := inR_le (g0 (vI w) (by simp))
  have hcl := hG.2.1.2.2.2.2.2.2.2
  have hrow := hG.2.1.2.2.1
  refine r_aload_n hC dX6_without_0 rfl ?_
  refine r_iload_n hC dX6_without_1 rfl ?_
  refine r_iload_n hC dX6_without_2 rfl ?_
  refine z_inv2 hM dX6_without_3 vl_RX6_207 rfl rfl rfl (Nat.le_of_ble_eq_true rfl) (Nat.le_of_ble_eq_true rfl) ?_
  refine y_isNumber (V := V) ht ⟨hR.1, hR.2.1, hR.2.2⟩ (fun l a b => (hG.2.1.2.2.2.1 l a b).2) (fun h1 => ?_) (fun h1 => ?_)
  · unfold lwC opV at h1
    have n_h1 := numF_rng (V 7 l 2)
    have h6 := hG.1.h7 (l := l) (by first | assumption | decide | exact xs_ (by decide) | exact xc_ (by decide) | exact x31_ (by decide) | omega) (by first | assumption | decide | exact xs_ (by decide) | exact xc_ (by decide) | exact x31_ (by decide) | omega)
    have hO_h1 := (hG.2.1.2.2.2.1 l (by first | assumption | decide | exact xs_ (by decide) | exact xc_ (by decide) | exact x31_ (by decide) | omega) (by first | assumption | decide | exact xs_ (by decide) | exact xc_ (by decide) | exact x31_ (by decide) | omega)).2
    refine r_if_eq (tgt := 28) hC dX6_without_6 rfl (fun h2 => by omega) (fun h2 => ?_)
    refine r_aload_n hC dX6_without_9 rfl ?_
    refine r_iload_n hC dX6_without_10 rfl ?_
    refine r_iload_n hC dX6_without_11 rfl ?_
    refine z_inv2 hM dX6_without_12 vl_RX6_262 rfl rfl rfl (Nat.le_of_ble_eq_true rfl) (Nat.le_of_ble_eq_true rfl) ?_
    refine y_isEvent (V := V) ht ⟨hR.1, hR.2.1, hR.2.2⟩ (fun h3 => ?_) (fun h3 => ?_)
    · refine r_if_eq (tgt := 28) hC dX6_without_15 rfl (fun h4 => by omega) (fun h4 => ?_)
      refine r_aload_n hC dX6_without_18 rfl ?_
      refine r_iload_n hC dX6_without_19 rfl ?_
      refine r_iload_n hC dX6_without_20 rfl ?_
      refine r_iload_n hC dX6_without_21 rfl ?_
      refine z_inv3 hM dX6_without_22 vl_RX6_271 rfl rfl rfl (Nat.le_of_ble_eq_true rfl) (Nat.le_of_ble_eq_true rfl) ?_
      refine y_comesWithout (V := V) (by first | assumption | decide | exact xs_ (by decide) | exact xc_ (by decide) | exact x31_ (by decide) | omega) (by first | assumption | decide | exact xs_ (by decide) | exact xc_ (by decide) | exact x31_ (by decide) | omega) (by first | assumption | decide | exact xs_ (by decide) | exact xc_ (by decide) | exact x31_ (by decide) | omega) ht ⟨hR.1, hR.2.1, hR.2.2⟩ hG (by first | assumption | decide | exact xs_ (by decide) | exact xc_ (by decide) | exact x31_ (by decide) | omega) (by first | assumption | decide | exact xs_ (by decide) | exact xc_ (by decide) | exact x31_ (by decide) | omega) (fun ρ5 Rρ5 => ?_)
      refine r_goto (tgt := 30) hC dX6_without_25 rfl ?_
      refine y_iret hK rfl dX6_without_30 ?_
      have hRr : woR V l x w = (woV V l x w) := by
        first | exact if_pos (by unfold lwC opV; omega) | exact if_neg (by unfold lwC opV; omega)
      rw [hRr] at k
      exact k _ ⟨Rρ5.1, Rρ5.2.1, Rρ5.2.2⟩
    · refine r_if_eq (tgt := 28) hC dX6_without_15 rfl (fun h6 => ?_) (fun h6 => by omega)
      refine r_ldc hC dX6_without_28 co_RX6_160 rfl ?_
      refine y_iret hK rfl dX6_without_30 ?_
      have hRr : woR V l x w = (-2147483648) := by
        first | exact if_pos (by unfold lwC opV; omega) | exact if_neg (by unfold lwC opV; omega)
      rw [hRr] at k
      exact k _ ⟨hR.1, hR.2.1, hR.2.2⟩
  · unfold lwC opV at h1
    refine r_if_eq (tgt := 28) hC dX6_without_6 rfl (fun h7 => ?_) (fun h7 => by omega)
    refine r_ldc hC dX6_without_28 co_RX6_160 rfl ?_
    refine y_iret hK rfl dX6_without_30 ?_
    have hRr : woR V l x w = (-2147483648) := by
      first | exact if_pos (by unfold lwC opV; omega) | exact if_neg (by unfold lwC opV; omega)
    rw [hRr] at k
    exact k _ ⟨hR.1, hR.2.1, hR.2.2⟩
theorem y_spare {eb : Bool} {t : Int} {V : Mm} {d : Nat} {P : Option Vl → Mm → Prop} {σ : Mm} {l w : Int}  {σ0 : Mm} (ht : 6 ≤ t ∧ t ≤ 7) (hR : RS t σ0 V σ) (hG : GI V)  (k : ∀ (r : Int) (ρ : Mm), spA V l w r → RS t σ0 V ρ → P (some (vI r)) ρ) : WT (true, eb, true) (d + 6) 226 [vR 30 0, vI l, vI w] σ P := by
  refine WT_in fun K hK => ?_
  have hK : StpY (true, eb, true) cX6_spare RX6 (some .int) (WT (true, eb, true) (d + 5)) P K := hK
  have hM := hK.1
  have hC := hK.1.1
  show K 0 [some (vR 30 0), some (vI l), some (vI w), none, none, none, none] [] σ
  refine r_rngz hC (fun g0 => ?_)
  have r_l : -2147483648 ≤ l ∧ l ≤ 2147483647 := inR_le (g0 (vI l) (by simp))
  have r_w : -2147483648 ≤ w ∧ w ≤ 2147483647 := inR_le (g0 (vI w) (by simp))
  refine r_aload_n hC dX6_spare_0 rfl ?_
  refine r_iload_n hC dX6_spare_1 rfl ?_
  refine r_iload_n hC dX6_spare_2 rfl ?_
  refine z_inv2 hM dX6_spare_3 vl_RX6_207 rfl rfl rfl (Nat.le_of_ble_eq_true rfl) (Nat.le_of_ble_eq_true rfl) ?_
  refine y_isNumber (V := V) ht ⟨hR.1, hR.2.1, hR.2.2⟩ (fun l a b => (hG.2.1.2.2.2.1 l a b).2) (fun h1 => ?_) (fun h1 => ?_)
  · unfold lwC opV at h1
    have n_h1 := numF_rng (V 7 l 2)
    have h6 := hG.1.h7 (l := l) (by first | assumption | decide | exact xs_ (by decide) | exact xc_ (by decide) | exact x31_ (by decide) | omega) (by first | assumption | decide | exact xs_ (by decide) | exact xc_ (by decide) | exact x31_ (by decide) | omega)
    have hO_h1 := (hG.2.1.2.2.2.1 l (by first | assumption | decide | exact xs_ (by decide) | exact xc_ (by decide) | exact x31_ (by decide) | omega) (by first | assumption | decide | exact xs_ (by decide) | exact xc_ (by decide) | exact x31_ (by decide) | omega)).2
    refine r_if_eq (tgt := 18) hC dX6_spare_6 rfl (fun h2 => by omega) (fun h2 => ?_)
    refine r_aload_n hC dX6_spare_9 rfl ?_
    refine r_iload_n hC dX6_spare_10 rfl ?_
    refine z_inv1 hM dX6_spare_11 vl_RX6_116 rfl rfl rfl (Nat.le_of_ble_eq_true rfl) (Nat.le_of_ble_eq_true rfl) ?_
    refine y_heldOf (by first | assumption | decide | exact xs_ (by decide) | exact xc_ (by decide) | exact x31_ (by decide) | omega) (fun o3 => ?_)
    have e4 : σ 31 0 (22 * l + 5) = (V 7 l 6) := (hR.1.a7 (s := 6) (f := 5) (by first | assumption | decide | exact xs_ (by decide) | exact xc_ (by decide) | exact x31_ (by decide) | omega) (by first | assumption | decide | exact xs_ (by decide) | exact xc_ (by decide) | exact x31_ (by decide) | omega) (by first | assumption | decide | exact xs_ (by decide) | exact xc_ (by decide) | exact x31_ (by decide) | omega)).trans (rfl)
    rw [e4] at o3 ⊢
    have qo3 : 0 ≤ (V 7 l 6) ∧ (V 7 l 6) ≤ 121 := o3.1 (by first | assumption | decide | exact xs_ (by decide) | exact xc_ (by decide) | exact x31_ (by decide) | omega)
    refine r_iconst hC dX6_spare_14 rfl ?_
    refine r_icmp_ge (tgt := 20) hC dX6_spare_15 rfl (fun h5 => ?_) (fun h5 => ?_)
    · refine r_iconst hC dX6_spare_20 rfl ?_
      refine r_istore_n hC dX6_spare_21 rfl ?_
      refine r_aload_n hC dX6_spare_22 rfl ?_
      refine r_iload_n hC dX6_spare_23 rfl ?_
      refine r_iconst hC dX6_spare_24 rfl ?_
      refine r_iload_n hC dX6_spare_25 rfl ?_
      refine z_inv3 hM dX6_spare_26 vl_RX6_271 rfl rfl rfl (Nat.le_of_ble_eq_true rfl) (Nat.le_of_ble_eq_true rfl) ?_
      refine y_comesWithout (V := V) (by first | assumption | decide | exact xs_ (by decide) | exact xc_ (by decide) | exact x31_ (by decide) | omega) (by first | assumption | decide | exact xs_ (by decide) | exact xc_ (by decide) | exact x31_ (by decide) | omega) (by first | assumption | decide | exact xs_ (by decide) | exact xc_ (by decide) | exact x31_ (by decide) | omega) ht ⟨hR.1, hR.2.1, hR.2.2⟩ hG (by first | assumption | decide | exact xs_ (by decide) | exact xc_ (by decide) | exact x31_ (by decide) | omega) (by first | assumption | decide | exact xs_ (by decide) | exact xc_ (by decide) | exact x31_ (by decide) | omega) (fun ρ6 Rρ6 => ?_)
      refine r_istore hC dX6_spare_29 rfl ?_
      show K _ [_, _, _, _, _, _, _] _ _
      refine r_rngz hC (fun g1 => ?_)
      have r8_31 : -2147483648 ≤ (woV V l 0 w) ∧ (woV V l 0 w) ≤ 2147483647 := inR_le (g1 (vI (woV V l 0 w)) (by simp))
      refine r_iconst hC dX6_spare_31 rfl ?_
      refine r_istore hC dX6_spare_32 rfl ?_
      have L34 : ∀ (n34 : Nat) (w7 w8 w9 : Int) (ρ10 : Mm), 0 ≤ w7 ∧ w7 ≤ 120 → -2147483648 ≤ w8 ∧ w8 ≤ 2147483647 → 1 ≤ w9 ∧ w9 ≤ 121 → (BestP (fun i => woV V l i w) (w9) (w7) (w8)) → ((w9) ≤ V 7 l 6) → 121 - w9 < (n34 : Int) → (RS t σ0 V ρ10) → K 34 [some (vR 30 0), some (vI l), some (vI w), some (vI w7), some (vI w8), some (vI w9), none] [] ρ10 := by
        intro n34
        induction n34 with
        | zero => intro w7 w8 w9 ρ10 f_w7 f_w8 f_w9 i0_34 i1_34 hm  m0_34; omega
        | succ n34 ih34 =>
          intro w7 w8 w9 ρ10 f_w7 f_w8 f_w9 i0_34 i1_34 hm34  m0_34
          refine r_iload hC dX6_spare_34 rfl ?_
          refine r_aload_n hC dX6_spare_36 rfl ?_
          refine r_iload_n hC dX6_spare_37 rfl ?_
          refine z_inv1 hM dX6_spare_38 vl_RX6_116 rfl rfl rfl (Nat.le_of_ble_eq_true rfl) (Nat.le_of_ble_eq_true rfl) ?_
          refine y_heldOf (by first | assumption | decide | exact xs_ (by decide) | exact xc_ (by decide) | exact x31_ (by decide) | omega) (fun o11 => ?_)
          have e12 : ρ10 31 0 (22 * l + 5) = (V 7 l 6) := (m0_34.1.a7 (s := 6) (f := 5) (by first | assumption | decide | exact xs_ (by decide) | exact xc_ (by decide) | exact x31_ (by decide) | omega) (by first | assumption | decide | exact xs_ (by decide) | exact xc_ (by decide) | exact x31_ (by decide) | omega) (by first | assumption | decide | exact xs_ (by decide) | exact xc_ (by decide) | exact x31_ (by decide) | omega)).trans (rfl)
          rw [e12] at o11 ⊢
          have qo11 : 0 ≤ (V 7 l 6) ∧ (V 7 l 6) ≤ 121 := o11.1 (by first | assumption | decide | exact xs_ (by decide) | exact xc_ (by decide) | exact x31_ (by decide) | omega)
          refine r_icmp_ge (tgt := 77) hC dX6_spare_41 rfl (fun h13 => ?_) (fun h13 => ?_)
          · refine r_iload_n hC dX6_spare_77 rfl ?_
            refine y_iret hK rfl dX6_spare_78 ?_
            have hA : spA V l w w7 := by
              exact ⟨fun z => absurd (by unfold spC lwC opV; omega) z, fun _ => BestP.done (n := w9) i0_34 (by first | assumption | decide | exact xs_ (by decide) | exact xc_ (by decide) | exact x31_ (by decide) | omega)⟩
            exact k _ _ hA ⟨m0_34.1, m0_34.2.1, m0_34.2.2⟩
          · refine r_aload_n hC dX6_spare_44 rfl ?_
            refine r_iload_n hC dX6_spare_45 rfl ?_
            refine r_iload hC dX6_spare_46 rfl ?_
            refine r_iload_n hC dX6_spare_48 rfl ?_
            refine z_inv3 hM dX6_spare_49 vl_RX6_271 rfl rfl rfl (Nat.le_of_ble_eq_true rfl) (Nat.le_of_ble_eq_true rfl) ?_
            refine y_comesWithout (V := V) (by first | assumption | decide | exact xs_ (by decide) | exact xc_ (by decide) | exact x31_ (by decide) | omega) (by first | assumption | decide | exact xs_ (by decide) | exact xc_ (by decide) | exact x31_ (by decide) | omega) (by first | assumption | decide | exact xs_ (by decide) | exact xc_ (by decide) | exact x31_ (by decide) | omega) ht ⟨m0_34.1, m0_34.2.1, m0_34.2.2⟩ hG (by first | assumption | decide | exact xs_ (by decide) | exact xc_ (by decide) | exact x31_ (by decide) | omega) (by first | assumption | decide | exact xs_ (by decide) | exact xc_ (by decide) | exact x31_ (by decide) | omega) (fun ρ14 Rρ14 => ?_)
            refine r_istore hC dX6_spare_52 rfl ?_
            show K _ [_, _, _, _, _, _, _] _ _
            refine r_rngz hC (fun g1 => ?_)
            have r8_54 : -2147483648 ≤ (woV V l w9 w) ∧ (woV V l w9 w) ≤ 2147483647 := inR_le (g1 (vI (woV V l w9 w)) (by simp))
            refine r_iload hC dX6_spare_54 rfl ?_
            refine r_iload hC dX6_spare_56 rfl ?_
            refine r_icmp_gt (tgt := 64) hC dX6_spare_58 rfl (fun h15 => ?_) (fun h15 => ?_)
            · refine r_iload hC dX6_spare_64 rfl ?_
              refine r_istore_n hC dX6_spare_66 rfl ?_
              refine r_iload hC dX6_spare_67 rfl ?_
              refine r_istore hC dX6_spare_69 rfl ?_
              refine r_iincE hC ((w9 + 1)) dX6_spare_71 rfl rfl (by first | assumption | decide | exact xs_ (by decide) | exact xc_ (by decide) | exact x31_ (by decide) | omega) (by unfold inR; omega) ?_
              show K _ [_, _, _, _, _, _, _] _ _
              refine r_goto (tgt := 34) hC dX6_spare_74 rfl ?_
              refine r_forget hC (ls2 := [some (vR 30 0), some (vI l), some (vI w), some (vI w9), some (vI (woV V l w9 w)), some (vI (w9 + 1)), none]) (lsub_some (lsub_some (lsub_some (lsub_some (lsub_some (lsub_some (lsub_none lsub_nil))))))) ?_
              exact ih34 (w9) ((woV V l w9 w)) ((w9 + 1)) ρ14 (by first | assumption | decide | exact xs_ (by decide) | exact xc_ (by decide) | exact x31_ (by decide) | omega) (by first | assumption | decide | exact xs_ (by decide) | exact xc_ (by decide) | exact x31_ (by decide) | omega) (by first | assumption | decide | exact xs_ (by decide) | exact xc_ (by decide) | exact x31_ (by decide) | omega) (by first | exact BestP.one rfl | exact BestP.no i0_34 (by show woV V l w9 w ≤ _; omega) | exact BestP.yes i0_34 (by show _ < woV V l w9 w; omega)) (by first | assumption | decide | exact xs_ (by decide) | exact xc_ (by decide) | exact x31_ (by decide) | omega) (by first | assumption | decide | exact xs_ (by decide) | exact xc_ (by decide) | exact x31_ (by decide) | omega)  (⟨Rρ14.1, Rρ14.2.1, Rρ14.2.2⟩)
            · refine r_goto (tgt := 71) hC dX6_spare_61 rfl ?_
              refine r_iincE hC ((w9 + 1)) dX6_spare_71 rfl rfl (by first | assumption | decide | exact xs_ (by decide) | exact xc_ (by decide) | exact x31_ (by decide) | omega) (by unfold inR; omega) ?_
              refine r_goto (tgt := 34) hC dX6_spare_74 rfl ?_
              refine r_forget hC (ls2 := [some (vR 30 0), some (vI l), some (vI w), some (vI w7), some (vI w8), some (vI (w9 + 1)), none]) (lsub_some (lsub_some (lsub_some (lsub_some (lsub_some (lsub_some (lsub_none lsub_nil))))))) ?_
              exact ih34 (w7) (w8) ((w9 + 1)) ρ14 (by first | assumption | decide | exact xs_ (by decide) | exact xc_ (by decide) | exact x31_ (by decide) | omega) (by first | assumption | decide | exact xs_ (by decide) | exact xc_ (by decide) | exact x31_ (by decide) | omega) (by first | assumption | decide | exact xs_ (by decide) | exact xc_ (by decide) | exact x31_ (by decide) | omega) (by first | exact BestP.one rfl | exact BestP.no i0_34 (by show woV V l w9 w ≤ _; omega) | exact BestP.yes i0_34 (by show _ < woV V l w9 w; omega)) (by first | assumption | decide | exact xs_ (by decide) | exact xc_ (by decide) | exact x31_ (by decide) | omega) (by first | assumption | decide | exact xs_ (by decide) | exact xc_ (by decide) | exact x31_ (by decide) | omega)  (⟨Rρ14.1, Rρ14.2.1, Rρ14.2.2⟩)
      exact L34 123 (0) ((woV V l 0 w)) (1) ρ6 (by first | assumption | decide | exact xs_ (by decide) | exact xc_ (by decide) | exact x31_ (by decide) | omega) (by first | assumption | decide | exact xs_ (by decide) | exact xc_ (by decide) | exact x31_ (by decide) | omega) (by first | assumption | decide | exact xs_ (by decide) | exact xc_ (by decide) | exact x31_ (by decide) | omega) (by first | exact BestP.one rfl | exact BestP.no i0_34 (by show woV V l w9 w ≤ _; omega) | exact BestP.yes i0_34 (by show _ < woV V l w9 w; omega)) (by first | assumption | decide | exact xs_ (by decide) | exact xc_ (by decide) | exact x31_ (by decide) | omega) (by first | assumption | decide | exact xs_ (by decide) | exact xc_ (by decide) | exact x31_ (by decide) | omega)  (⟨Rρ6.1, Rρ6.2.1, Rρ6.2.2⟩)
    · refine r_iconst hC dX6_spare_18 rfl ?_
      refine y_iret hK rfl dX6_spare_19 ?_
      have hA : spA V l w (-1) := by
        exact ⟨fun _ => rfl, fun q => by unfold spC lwC opV at q; omega⟩
      exact k _ _ hA ⟨hR.1, hR.2.1, hR.2.2⟩
  · unfold lwC opV at h1
    refine r_if_eq (tgt := 18) hC dX6_spare_6 rfl (fun h16 => ?_) (fun h16 => by omega)
    refine r_iconst hC dX6_spare_18 rfl ?_
    refine y_iret hK rfl dX6_spare_19 ?_
    have hA : spA V l w (-1) := by
      exact ⟨fun _ => rfl, fun q => by unfold spC lwC opV at q; omega⟩
    exact k _ _ hA ⟨hR.1, hR.2.1, hR.2.2⟩
theorem y_turned {eb : Bool} {t : Int} {V : Mm} {d : Nat} {P : Option Vl → Mm → Prop} {σ : Mm} {l w : Int}  {σ0 : Mm} (ht : 6 ≤ t ∧ t ≤ 7) (hR : RS t σ0 V σ) (hG : GI V)  (k : ∀ ρ : Mm, RS t σ0 V ρ → P (some (vI (tuR V l w))) ρ) : WT (true, eb, true) (d + 5) 227 [vR 30 0, vI l, vI w] σ P := by
  refine WT_in fun K hK => ?_
  have hK : StpY (true, eb, true) cX6_turned RX6 (some .int) (WT (true, eb, true) (d + 4)) P K := hK
  have hM := hK.1
  have hC := hK.1.1
  show K 0 [some (vR 30 0), some (vI l), some (vI w), none] [] σ
  refine r_rngz hC (fun g0 => ?_)
  have r_l : -2147483648 ≤ l ∧ l ≤ 2147483647 := inR_le (g0 (vI l) (by simp))
  have r_w : -2147483648 ≤ w ∧ w ≤ 2147483647 := inR_le (g0 (vI w) (by simp))
  have hcl := hG.2.1.2.2.2.2.2.2.2
  have hrow := hG.2.1.2.2.1
  refine r_aload_n hC dX6_turned_0 rfl ?_
  refine r_iload_n hC dX6_turned_1 rfl ?_
  refine r_iload_n hC dX6_turned_2 rfl ?_
  refine z_inv2 hM dX6_turned_3 vl_RX6_207 rfl rfl rfl (Nat.le_of_ble_eq_true rfl) (Nat.le_of_ble_eq_true rfl) ?_
  refine y_isNumber (V := V) ht ⟨hR.1, hR.2.1, hR.2.2⟩ (fun l a b => (hG.2.1.2.2.2.1 l a b).2) (fun h1 => ?_) (fun h1 => ?_)
  · unfold lwC opV at h1
    have n_h1 := numF_rng (V 7 l 2)
    have h6 := hG.1.h7 (l := l) (by first | assumption | decide | exact xs_ (by decide) | exact xc_ (by decide) | exact x31_ (by decide) | omega) (by first | assumption | decide | exact xs_ (by decide) | exact xc_ (by decide) | exact x31_ (by decide) | omega)
    have hO_h1 := (hG.2.1.2.2.2.1 l (by first | assumption | decide | exact xs_ (by decide) | exact xc_ (by decide) | exact x31_ (by decide) | omega) (by first | assumption | decide | exact xs_ (by decide) | exact xc_ (by decide) | exact x31_ (by decide) | omega)).2
    refine r_if_ne (tgt := 12) hC dX6_turned_6 rfl (fun h2 => ?_) (fun h2 => by omega)
    refine r_aload_n hC dX6_turned_12 rfl ?_
    refine z_inv0 hM dX6_turned_13 vl_RX6_113 rfl rfl rfl (Nat.le_of_ble_eq_true rfl) (Nat.le_of_ble_eq_true rfl) ?_
    refine y_clearRow ?_
    obtain ⟨ρ3, e_ρ3⟩ : ∃ zz_, zz_ = mu σ 30 0 8 0 := ⟨_, rfl⟩
    rw [← e_ρ3]
    have n_ρ3 : ∀ u : Int → Int, RWP ρ3 u 0 := fun u => RWP.nil (by rw [e_ρ3]; exact mu_self _ _ _ _ _)
    have Rρ3 : RS t σ0 V ρ3 := RS.mk2 hR.1 hR.2.1 hR.2.2 (fun c p q h => by rw [e_ρ3]; exact mu_ne (by first | assumption | decide | exact xs_ (by decide) | exact xc_ (by decide) | exact x31_ (by decide) | omega))
    clear e_ρ3
    refine r_aload_n hC dX6_turned_16 rfl ?_
    refine r_iload_n hC dX6_turned_17 rfl ?_
    refine z_inv1 hM dX6_turned_18 vl_RX6_116 rfl rfl rfl (Nat.le_of_ble_eq_true rfl) (Nat.le_of_ble_eq_true rfl) ?_
    refine y_heldOf (by first | assumption | decide | exact xs_ (by decide) | exact xc_ (by decide) | exact x31_ (by decide) | omega) (fun o4 => ?_)
    have e5 : ρ3 31 0 (22 * l + 5) = (V 7 l 6) := (Rρ3.1.a7 (s := 6) (f := 5) (by first | assumption | decide | exact xs_ (by decide) | exact xc_ (by decide) | exact x31_ (by decide) | omega) (by first | assumption | decide | exact xs_ (by decide) | exact xc_ (by decide) | exact x31_ (by decide) | omega) (by first | assumption | decide | exact xs_ (by decide) | exact xc_ (by decide) | exact x31_ (by decide) | omega)).trans (rfl)
    rw [e5] at o4 ⊢
    have qo4 : 0 ≤ (V 7 l 6) ∧ (V 7 l 6) ≤ 121 := o4.1 (by first | assumption | decide | exact xs_ (by decide) | exact xc_ (by decide) | exact x31_ (by decide) | omega)
    refine r_iconst hC dX6_turned_21 rfl ?_
    refine r_isubE hC (((V 7 l 6) - 1)) dX6_turned_22 (by first | assumption | decide | exact xs_ (by decide) | exact xc_ (by decide) | exact x31_ (by decide) | omega) (by unfold inR; omega) ?_
    refine r_istore_n hC dX6_turned_23 rfl ?_
    have L24 : ∀ (n24 : Nat) (w6 : Int) (ρ7 : Mm), -1 ≤ w6 ∧ w6 ≤ 120 → ((w6) ≤ V 7 l 6 - 1) → w6 + 1 < (n24 : Int) → (RS t σ0 V ρ7) → (RWP ρ7 (tuU V l) (V 7 l 6 - 1 - (w6)).toNat) → K 24 [some (vR 30 0), some (vI l), some (vI w), some (vI w6)] [] ρ7 := by
      intro n24
      induction n24 with
      | zero => intro w6 ρ7 f_w6 i0_24 hm  m0_24 m1_24; omega
      | succ n24 ih24 =>
        intro w6 ρ7 f_w6 i0_24 hm24  m0_24 m1_24
        refine r_iload_n hC dX6_turned_24 rfl ?_
        refine r_if_lt (tgt := 49) hC dX6_turned_25 rfl (fun h8 => ?_) (fun h8 => ?_)
        · refine r_aload_n hC dX6_turned_49 rfl ?_
          refine r_aload_n hC dX6_turned_50 rfl ?_
          refine r_iload_n hC dX6_turned_51 rfl ?_
          refine r_iconst hC dX6_turned_52 rfl ?_
          refine z_inv2 hM dX6_turned_53 vl_RX6_80 rfl rfl rfl (Nat.le_of_ble_eq_true rfl) (Nat.le_of_ble_eq_true rfl) ?_
          refine y_of (by first | assumption | decide | exact xs_ (by decide) | exact xc_ (by decide) | exact x31_ (by decide) | omega) (by first | assumption | decide | exact xs_ (by decide) | exact xc_ (by decide) | exact x31_ (by decide) | omega) (by first | assumption | decide | exact xs_ (by decide) | exact xc_ (by decide) | exact x31_ (by decide) | omega) (fun o9 => ?_)
          have e10 : ρ7 31 0 (22 * l + 1) = (V 7 l 2) := (m0_24.1.a7 (s := 2) (f := 1) (by first | assumption | decide | exact xs_ (by decide) | exact xc_ (by decide) | exact x31_ (by decide) | omega) (by first | assumption | decide | exact xs_ (by decide) | exact xc_ (by decide) | exact x31_ (by decide) | omega) (by first | assumption | decide | exact xs_ (by decide) | exact xc_ (by decide) | exact x31_ (by decide) | omega)).trans (rfl)
          rw [e10] at o9 ⊢
          refine r_iload_n hC dX6_turned_56 rfl ?_
          refine z_inv2 hM dX6_turned_57 vl_RX6_197 rfl rfl rfl (Nat.le_of_ble_eq_true rfl) (Nat.le_of_ble_eq_true rfl) ?_
          refine y_comes (n := (V 7 l 6 - 1 - w6).toNat) (u := (tuU V l)) (by first | assumption | decide | exact xs_ (by decide) | exact xc_ (by decide) | exact x31_ (by decide) | omega) (by first | assumption | decide | exact xs_ (by decide) | exact xc_ (by decide) | exact x31_ (by decide) | omega) (by first | assumption | decide | exact xs_ (by decide) | exact xc_ (by decide) | exact x31_ (by decide) | omega) (by first | assumption | decide | exact xs_ (by decide) | exact xc_ (by decide) | exact x31_ (by decide) | omega) m1_24 (fun j h0 h1 => (hrow l (V 7 l 6 - 1 - j) (by first | assumption | decide | exact xs_ (by decide) | exact xc_ (by decide) | exact x31_ (by decide) | omega) (by first | assumption | decide | exact xs_ (by decide) | exact xc_ (by decide) | exact x31_ (by decide) | omega) (by first | assumption | decide | exact xs_ (by decide) | exact xc_ (by decide) | exact x31_ (by decide) | omega) (by first | assumption | decide | exact xs_ (by decide) | exact xc_ (by decide) | exact x31_ (by decide) | omega)).2) (fun ρ11 g_ρ11 => ?_)
          rw [cm_t (fun j a b => m0_24.1.t16 a b) (fun j a b => m0_24.1.t15 a b) (fun j a b => by rw [m0_24.1.t15 a (by first | assumption | decide | exact xs_ (by decide) | exact xc_ (by decide) | exact x31_ (by decide) | omega)]; exact hcl j a b)]
          have Rρ11 : RS t σ0 V ρ11 := RS.mk2 m0_24.1 m0_24.2.1 m0_24.2.2 (fun c p q h => g_ρ11 c p q (by first | assumption | decide | exact xs_ (by decide) | exact xc_ (by decide) | exact x31_ (by decide) | omega))
          refine y_iret hK rfl dX6_turned_60 ?_
          have hRr : tuR V l w = (cm (V 16 0) (V 15 0) (V 7 l 2) (tuU V l) (V 7 l 6 - 1 - w6).toNat w) := by
            unfold tuR
            rw [if_pos (by unfold lwC opV; omega), show (V 7 l 6).toNat = (V 7 l 6 - 1 - w6).toNat from by omega]
          rw [hRr] at k
          exact k _ ⟨Rρ11.1, Rρ11.2.1, Rρ11.2.2⟩
        · refine r_aload_n hC dX6_turned_28 rfl ?_
          refine r_aload_n hC dX6_turned_29 rfl ?_
          refine z_getR hM dX6_turned_30 fl_RX6_16 rfl rfl (vld_of (n := 1) rfl (by first | assumption | decide | exact xs_ (by decide) | exact xc_ (by decide) | exact x31_ (by decide) | omega) (by first | assumption | decide | exact xs_ (by decide) | exact xc_ (by decide) | exact x31_ (by decide) | omega)) ?_
          refine r_bipush hC dX6_turned_33 rfl ?_
          refine r_iload_n hC dX6_turned_35 rfl ?_
          refine r_imulE hC ((121 * l)) dX6_turned_36 (by first | assumption | decide | exact xs_ (by decide) | exact xc_ (by decide) | exact x31_ (by decide) | omega) (by unfold inR; omega) ?_
          refine r_iload_n hC dX6_turned_37 rfl ?_
          refine r_iaddE hC (((121 * l) + w6)) dX6_turned_38 (by first | assumption | decide | exact xs_ (by decide) | exact xc_ (by decide) | exact x31_ (by decide) | omega) (by unfold inR; omega) ?_
          refine z_iald hM dX6_turned_39 rfl (by first | assumption | decide | exact xs_ (by decide) | exact xc_ (by decide) | exact x31_ (by decide) | omega) (by first | assumption | decide | exact xs_ (by decide) | exact xc_ (by decide) | exact x31_ (by decide) | omega) (fun v12 h_v12 o_v12 t_v12 => ?_)
          have w_v12 := ((t_v12 (Or.inl trivial)).trans ((show ρ7 33 0 ((121 * l) + w6) = V 9 l w6 from by rw [show ((121 * l) + w6) = 121 * l + w6 from by omega]; exact m0_24.1.a9 (y := w6) (by first | assumption | decide | exact xs_ (by decide) | exact xc_ (by decide) | exact x31_ (by decide) | omega) (by first | assumption | decide | exact xs_ (by decide) | exact xc_ (by decide) | exact x31_ (by decide) | omega) (by first | assumption | decide | exact xs_ (by decide) | exact xc_ (by decide) | exact x31_ (by decide) | omega) (by first | assumption | decide | exact xs_ (by decide) | exact xc_ (by decide) | exact x31_ (by decide) | omega)).trans (rfl))).symm
          clear t_v12
          subst w_v12
          have q_v12 : -1000 ≤ (V 9 l w6) ∧ (V 9 l w6) ≤ 1000 := o_v12
          refine z_inv1 hM dX6_turned_40 vl_RX6_109 rfl rfl rfl (Nat.le_of_ble_eq_true rfl) (Nat.le_of_ble_eq_true rfl) ?_
          refine y_put (n := (V 7 l 6 - 1 - w6).toNat) (u := (tuU V l)) (by first | assumption | decide | exact xs_ (by decide) | exact xc_ (by decide) | exact x31_ (by decide) | omega) m1_24 (show (V 9 l w6) = V 9 l (V 7 l 6 - 1 - (((V 7 l 6 - 1 - w6).toNat : Nat) : Int)) from congrArg (V 9 l) (by first | assumption | decide | exact xs_ (by decide) | exact xc_ (by decide) | exact x31_ (by decide) | omega)) (fun ρ13 g_ρ13 w_ρ13 => ?_)
          have Rρ13 : RS t σ0 V ρ13 := RS.mk2 m0_24.1 m0_24.2.1 m0_24.2.2 (fun c p q h => g_ρ13 c p q (by first | assumption | decide | exact xs_ (by decide) | exact xc_ (by decide) | exact x31_ (by decide) | omega))
          refine r_iincE hC ((w6 - 1)) dX6_turned_43 rfl rfl (by first | assumption | decide | exact xs_ (by decide) | exact xc_ (by decide) | exact x31_ (by decide) | omega) (by unfold inR; omega) ?_
          refine r_goto (tgt := 24) hC dX6_turned_46 rfl ?_
          exact ih24 ((w6 - 1)) ρ13 (by first | assumption | decide | exact xs_ (by decide) | exact xc_ (by decide) | exact x31_ (by decide) | omega) (by first | assumption | decide | exact xs_ (by decide) | exact xc_ (by decide) | exact x31_ (by decide) | omega) (by first | assumption | decide | exact xs_ (by decide) | exact xc_ (by decide) | exact x31_ (by decide) | omega)  (⟨Rρ13.1, Rρ13.2.1, Rρ13.2.2⟩) (by rw [show (((V 7 l 6 - 1 - (w6 - 1) : Int)).toNat : Nat) = ((V 7 l 6 - 1 - w6).toNat + 1) from by omega]; exact w_ρ13)
    exact L24 123 (((V 7 l 6) - 1)) ρ3 (by first | assumption | decide | exact xs_ (by decide) | exact xc_ (by decide) | exact x31_ (by decide) | omega) (by first | assumption | decide | exact xs_ (by decide) | exact xc_ (by decide) | exact x31_ (by decide) | omega) (by first | assumption | decide | exact xs_ (by decide) | exact xc_ (by decide) | exact x31_ (by decide) | omega)  (⟨Rρ3.1, Rρ3.2.1, Rρ3.2.2⟩) (by rw [show (((V 7 l 6 - 1 - ((V 7 l 6) - 1) : Int)).toNat : Nat) = 0 from by omega]; exact n_ρ3 (tuU V l))
  · unfold lwC opV at h1
    refine r_if_ne (tgt := 12) hC dX6_turned_6 rfl (fun h14 => by omega) (fun h14 => ?_)
    refine r_ldc hC dX6_turned_9 co_RX6_160 rfl ?_
    refine y_iret hK rfl dX6_turned_11 ?_
    have hRr : tuR V l w = (-2147483648) := by
      exact if_neg (by unfold lwC opV; omega)
    rw [hRr] at k
    exact k _ ⟨hR.1, hR.2.1, hR.2.2⟩
theorem y_areAlike {eb : Bool} {t : Int} {V : Mm} {d : Nat} {P : Option Vl → Mm → Prop} {σ : Mm} {l o : Int}  {σ0 : Mm} (ht : 6 ≤ t ∧ t ≤ 7) (hR : RS t σ0 V σ) (hG : GI V)  (k1 : saC V l o → P (some (vI 1)) σ) (k0 : ¬ saC V l o → P (some (vI 0)) σ) : WT (true, eb, true) (d + 3) 231 [vR 30 0, vI l, vI o] σ P := by
  refine WT_in fun K hK => ?_
  have hK : StpY (true, eb, true) cX6_areAlike RX6 (some .boolean) (WT (true, eb, true) (d + 2)) P K := hK
  have hM := hK.1
  have hC := hK.1.1
  show K 0 [some (vR 30 0), some (vI l), some (vI o)] [] σ
  refine r_rngz hC (fun g0 => ?_)
  have r_l : -2147483648 ≤ l ∧ l ≤ 2147483647 := inR_le (g0 (vI l) (by simp))
  have r_o : -2147483648 ≤ o ∧ o ≤ 2147483647 := inR_le (g0 (vI o) (by simp))
  refine r_aload_n hC dX6_areAlike_0 rfl ?_
  refine r_iload_n hC dX6_areAlike_1 rfl ?_
  refine z_inv1 hM dX6_areAlike_2 vl_RX6_124 rfl rfl rfl (Nat.le_of_ble_eq_true rfl) (Nat.le_of_ble_eq_true rfl) ?_
  refine y_isLane (V := V) ht ⟨hR.1, hR.2.1, hR.2.2⟩ (fun h1 => ?_) (fun h1 => ?_)
  · unfold opV at h1
    refine r_if_eq (tgt := 35) hC dX6_areAlike_5 rfl (fun h2 => by omega) (fun h2 => ?_)
    refine r_aload_n hC dX6_areAlike_8 rfl ?_
    refine r_iload_n hC dX6_areAlike_9 rfl ?_
    refine z_inv1 hM dX6_areAlike_10 vl_RX6_124 rfl rfl rfl (Nat.le_of_ble_eq_true rfl) (Nat.le_of_ble_eq_true rfl) ?_
    refine y_isLane (V := V) ht ⟨hR.1, hR.2.1, hR.2.2⟩ (fun h3 => ?_) (fun h3 => ?_)
    · unfold opV at h3
      refine r_if_eq (tgt := 35) hC dX6_areAlike_13 rfl (fun h4 => by omega) (fun h4 => ?_)
      refine r_aload_n hC dX6_areAlike_16 rfl ?_
      refine r_iload_n hC dX6_areAlike_17 rfl ?_
      refine r_iconst hC dX6_areAlike_18 rfl ?_
      refine z_inv2 hM dX6_areAlike_19 vl_RX6_80 rfl rfl rfl (Nat.le_of_ble_eq_true rfl) (Nat.le_of_ble_eq_true rfl) ?_
      refine y_of (by first | assumption | decide | exact xs_ (by decide) | exact xc_ (by decide) | exact x31_ (by decide) | omega) (by first | assumption | decide | exact xs_ (by decide) | exact xc_ (by decide) | exact x31_ (by decide) | omega) (by first | assumption | decide | exact xs_ (by decide) | exact xc_ (by decide) | exact x31_ (by decide) | omega) (fun o5 => ?_)
      have e6 : σ 31 0 (22 * l + 1) = (V 7 l 2) := (hR.1.a7 (s := 2) (f := 1) (by first | assumption | decide | exact xs_ (by decide) | exact xc_ (by decide) | exact x31_ (by decide) | omega) (by first | assumption | decide | exact xs_ (by decide) | exact xc_ (by decide) | exact x31_ (by decide) | omega) (by first | assumption | decide | exact xs_ (by decide) | exact xc_ (by decide) | exact x31_ (by decide) | omega)).trans (rfl)
      rw [e6] at o5 ⊢
      refine r_aload_n hC dX6_areAlike_22 rfl ?_
      refine r_iload_n hC dX6_areAlike_23 rfl ?_
      refine r_iconst hC dX6_areAlike_24 rfl ?_
      refine z_inv2 hM dX6_areAlike_25 vl_RX6_80 rfl rfl rfl (Nat.le_of_ble_eq_true rfl) (Nat.le_of_ble_eq_true rfl) ?_
      refine y_of (by first | assumption | decide | exact xs_ (by decide) | exact xc_ (by decide) | exact x31_ (by decide) | omega) (by first | assumption | decide | exact xs_ (by decide) | exact xc_ (by decide) | exact x31_ (by decide) | omega) (by first | assumption | decide | exact xs_ (by decide) | exact xc_ (by decide) | exact x31_ (by decide) | omega) (fun o7 => ?_)
      have e8 : σ 31 0 (22 * o + 1) = (V 7 o 2) := (hR.1.a7 (s := 2) (f := 1) (by first | assumption | decide | exact xs_ (by decide) | exact xc_ (by decide) | exact x31_ (by decide) | omega) (by first | assumption | decide | exact xs_ (by decide) | exact xc_ (by decide) | exact x31_ (by decide) | omega) (by first | assumption | decide | exact xs_ (by decide) | exact xc_ (by decide) | exact x31_ (by decide) | omega)).trans (rfl)
      rw [e8] at o7 ⊢
      refine r_icmp_ne (tgt := 35) hC dX6_areAlike_28 rfl (fun h9 => ?_) (fun h9 => ?_)
      · refine r_iconst hC dX6_areAlike_35 rfl ?_
        refine y_zret hK rfl dX6_areAlike_36 (by first | assumption | decide | exact xs_ (by decide) | exact xc_ (by decide) | exact x31_ (by decide) | omega) ?_
        exact k0 (by unfold saC opV; omega)
      · refine r_iconst hC dX6_areAlike_31 rfl ?_
        refine r_goto (tgt := 36) hC dX6_areAlike_32 rfl ?_
        refine y_zret hK rfl dX6_areAlike_36 (by first | assumption | decide | exact xs_ (by decide) | exact xc_ (by decide) | exact x31_ (by decide) | omega) ?_
        exact k1 (by unfold saC opV; omega)
    · unfold opV at h3
      refine r_if_eq (tgt := 35) hC dX6_areAlike_13 rfl (fun h10 => ?_) (fun h10 => by omega)
      refine r_iconst hC dX6_areAlike_35 rfl ?_
      refine y_zret hK rfl dX6_areAlike_36 (by first | assumption | decide | exact xs_ (by decide) | exact xc_ (by decide) | exact x31_ (by decide) | omega) ?_
      exact k0 (by unfold saC opV; omega)
  · unfold opV at h1
    refine r_if_eq (tgt := 35) hC dX6_areAlike_5 rfl (fun h11 => ?_) (fun h11 => by omega)
    refine r_iconst hC dX6_areAlike_35 rfl ?_
    refine y_zret hK rfl dX6_areAlike_36 (by first | assumption | decide | exact xs_ (by decide) | exact xc_ (by decide) | exact x31_ (by decide) | omega) ?_
    exact k0 (by unfold saC opV; omega)
theorem y_joined {eb : Bool} {t : Int} {V : Mm} {d : Nat} {P : Option Vl → Mm → Prop} {σ : Mm} {l o w : Int}  {σ0 : Mm} (ht : 6 ≤ t ∧ t ≤ 7) (hR : RS t σ0 V σ) (hG : GI V)  (k : ∀ ρ : Mm, RS t σ0 V ρ → P (some (vI (jnR V l o w))) ρ) : WT (true, eb, true) (d + 5) 232 [vR 30 0, vI l, vI o, vI w] σ P := by
  refine WT_in fun K hK => ?_
  have hK : StpY (true, eb, true) cX6_joined RX6 (some .int) (WT (true, eb, true) (d + 4)) P K := hK
  have hM := hK.1
  have hC := hK.1.1
  show K 0 [some (vR 30 0), some (vI l), some (vI o), some (vI w)] [] σ
  refine r_rngz hC (fun g0 => ?_)
  have r_l : -2147483648 ≤ l ∧ l ≤ 2147483647 := inR_le (g0 (vI l) (by simp))
  have r_o : -2147483648 ≤ o ∧ o ≤ 2147483647 := inR_le (g0 (vI o) (by simp))
  have r_w : -2147483648 ≤ w ∧ w ≤ 2147483647 := inR_le (g0 (vI w) (by simp))
  have hcl := hG.2.1.2.2.2.2.2.2.2
  have hrow := hG.2.1.2.2.1
  refine r_aload_n hC dX6_joined_0 rfl ?_
  refine r_iload_n hC dX6_joined_1 rfl ?_
  refine r_iload_n hC dX6_joined_2 rfl ?_
  refine z_inv2 hM dX6_joined_3 vl_RX6_280 rfl rfl rfl (Nat.le_of_ble_eq_true rfl) (Nat.le_of_ble_eq_true rfl) ?_
  refine y_areAlike (V := V) ht ⟨hR.1, hR.2.1, hR.2.2⟩ hG (fun h1 => ?_) (fun h1 => ?_)
  · unfold saC opV at h1
    have h6_l := hG.1.h7 (l := l) (by first | assumption | decide | exact xs_ (by decide) | exact xc_ (by decide) | exact x31_ (by decide) | omega) (by first | assumption | decide | exact xs_ (by decide) | exact xc_ (by decide) | exact x31_ (by decide) | omega)
    have h6_o := hG.1.h7 (l := o) (by first | assumption | decide | exact xs_ (by decide) | exact xc_ (by decide) | exact x31_ (by decide) | omega) (by first | assumption | decide | exact xs_ (by decide) | exact xc_ (by decide) | exact x31_ (by decide) | omega)
    have hO_l := (hG.2.1.2.2.2.1 l (by first | assumption | decide | exact xs_ (by decide) | exact xc_ (by decide) | exact x31_ (by decide) | omega) (by first | assumption | decide | exact xs_ (by decide) | exact xc_ (by decide) | exact x31_ (by decide) | omega)).2
    refine r_if_eq (tgt := 18) hC dX6_joined_6 rfl (fun h2 => by omega) (fun h2 => ?_)
    refine r_aload_n hC dX6_joined_9 rfl ?_
    refine r_iload_n hC dX6_joined_10 rfl ?_
    refine r_iload_n hC dX6_joined_11 rfl ?_
    refine z_inv2 hM dX6_joined_12 vl_RX6_207 rfl rfl rfl (Nat.le_of_ble_eq_true rfl) (Nat.le_of_ble_eq_true rfl) ?_
    refine y_isNumber (V := V) ht ⟨hR.1, hR.2.1, hR.2.2⟩ (fun l a b => (hG.2.1.2.2.2.1 l a b).2) (fun h3 => ?_) (fun h3 => ?_)
    · unfold lwC opV at h3
      have n_h3 := numF_rng (V 7 l 2)
      have h6 := hG.1.h7 (l := l) (by first | assumption | decide | exact xs_ (by decide) | exact xc_ (by decide) | exact x31_ (by decide) | omega) (by first | assumption | decide | exact xs_ (by decide) | exact xc_ (by decide) | exact x31_ (by decide) | omega)
      have hO_h3 := (hG.2.1.2.2.2.1 l (by first | assumption | decide | exact xs_ (by decide) | exact xc_ (by decide) | exact x31_ (by decide) | omega) (by first | assumption | decide | exact xs_ (by decide) | exact xc_ (by decide) | exact x31_ (by decide) | omega)).2
      refine r_if_ne (tgt := 21) hC dX6_joined_15 rfl (fun h4 => ?_) (fun h4 => by omega)
      refine r_aload_n hC dX6_joined_21 rfl ?_
      refine r_iload_n hC dX6_joined_22 rfl ?_
      refine z_inv1 hM dX6_joined_23 vl_RX6_194 rfl rfl rfl (Nat.le_of_ble_eq_true rfl) (Nat.le_of_ble_eq_true rfl) ?_
      refine y_layAll (V := V) (l := l) (by first | assumption | decide | exact xs_ (by decide) | exact xc_ (by decide) | exact x31_ (by decide) | omega) ht ⟨hR.1, hR.2.1, hR.2.2⟩ (by first | assumption | decide | exact xs_ (by decide) | exact xc_ (by decide) | exact x31_ (by decide) | omega) (hG.2.1.lk hG.1 (by first | assumption | decide | exact xs_ (by decide) | exact xc_ (by decide) | exact x31_ (by decide) | omega) (by first | assumption | decide | exact xs_ (by decide) | exact xc_ (by decide) | exact x31_ (by decide) | omega)) (fun ρ5 Rρ5 w_ρ5 => ?_)
      have v_ρ5 := RWP.cg (v := (jnU V l o)) w_ρ5 (fun j a b => by show V 9 l j = jnU V l o j; unfold jnU; rw [if_pos (by first | assumption | decide | exact xs_ (by decide) | exact xc_ (by decide) | exact x31_ (by decide) | omega)])
      refine r_aload_n hC dX6_joined_26 rfl ?_
      refine r_iload_n hC dX6_joined_27 rfl ?_
      refine r_iconst hC dX6_joined_28 rfl ?_
      refine r_aload_n hC dX6_joined_29 rfl ?_
      refine r_iload_n hC dX6_joined_30 rfl ?_
      refine z_inv1 hM dX6_joined_31 vl_RX6_116 rfl rfl rfl (Nat.le_of_ble_eq_true rfl) (Nat.le_of_ble_eq_true rfl) ?_
      refine y_heldOf (by first | assumption | decide | exact xs_ (by decide) | exact xc_ (by decide) | exact x31_ (by decide) | omega) (fun o6 => ?_)
      have e7 : ρ5 31 0 (22 * o + 5) = (V 7 o 6) := (Rρ5.1.a7 (s := 6) (f := 5) (by first | assumption | decide | exact xs_ (by decide) | exact xc_ (by decide) | exact x31_ (by decide) | omega) (by first | assumption | decide | exact xs_ (by decide) | exact xc_ (by decide) | exact x31_ (by decide) | omega) (by first | assumption | decide | exact xs_ (by decide) | exact xc_ (by decide) | exact x31_ (by decide) | omega)).trans (rfl)
      rw [e7] at o6 ⊢
      have qo6 : 0 ≤ (V 7 o 6) ∧ (V 7 o 6) ≤ 121 := o6.1 (by first | assumption | decide | exact xs_ (by decide) | exact xc_ (by decide) | exact x31_ (by decide) | omega)
      refine r_iconst hC dX6_joined_34 rfl ?_
      refine r_isubE hC (((V 7 o 6) - 1)) dX6_joined_35 (by first | assumption | decide | exact xs_ (by decide) | exact xc_ (by decide) | exact x31_ (by decide) | omega) (by unfold inR; omega) ?_
      refine z_inv3 hM dX6_joined_36 vl_RX6_120 rfl rfl rfl (Nat.le_of_ble_eq_true rfl) (Nat.le_of_ble_eq_true rfl) ?_
      refine y_putFrom (n := (V 7 l 6).toNat) (u := (jnU V l o)) (by first | assumption | decide | exact xs_ (by decide) | exact xc_ (by decide) | exact x31_ (by decide) | omega) (by first | assumption | decide | exact xs_ (by decide) | exact xc_ (by decide) | exact x31_ (by decide) | omega) (by first | assumption | decide | exact xs_ (by decide) | exact xc_ (by decide) | exact x31_ (by decide) | omega) (by first | assumption | decide | exact xs_ (by decide) | exact xc_ (by decide) | exact x31_ (by decide) | omega) (by first | assumption | decide | exact xs_ (by decide) | exact xc_ (by decide) | exact x31_ (by decide) | omega) v_ρ5 (fun j a b => Eq.trans (by show jnU V l o ((((V 7 l 6).toNat : Nat) : Int) + (j - 0)) = V 9 o j; unfold jnU; rw [if_neg (by first | assumption | decide | exact xs_ (by decide) | exact xc_ (by decide) | exact x31_ (by decide) | omega)]; exact congrArg (V 9 o) (by first | assumption | decide | exact xs_ (by decide) | exact xc_ (by decide) | exact x31_ (by decide) | omega)) (Rρ5.1.a9 (y := j) (by first | assumption | decide | exact xs_ (by decide) | exact xc_ (by decide) | exact x31_ (by decide) | omega) (by first | assumption | decide | exact xs_ (by decide) | exact xc_ (by decide) | exact x31_ (by decide) | omega) (by first | assumption | decide | exact xs_ (by decide) | exact xc_ (by decide) | exact x31_ (by decide) | omega) (by first | assumption | decide | exact xs_ (by decide) | exact xc_ (by decide) | exact x31_ (by decide) | omega)).symm) (fun ρ8 g_ρ8 w_ρ8 => ?_)
      have Rρ8 : RS t σ0 V ρ8 := RS.mk2 Rρ5.1 Rρ5.2.1 Rρ5.2.2 (fun c p q h => g_ρ8 c p q (by first | assumption | decide | exact xs_ (by decide) | exact xc_ (by decide) | exact x31_ (by decide) | omega))
      clear Rρ5
      refine r_aload_n hC dX6_joined_39 rfl ?_
      refine r_aload_n hC dX6_joined_40 rfl ?_
      refine r_iload_n hC dX6_joined_41 rfl ?_
      refine r_iconst hC dX6_joined_42 rfl ?_
      refine z_inv2 hM dX6_joined_43 vl_RX6_80 rfl rfl rfl (Nat.le_of_ble_eq_true rfl) (Nat.le_of_ble_eq_true rfl) ?_
      refine y_of (by first | assumption | decide | exact xs_ (by decide) | exact xc_ (by decide) | exact x31_ (by decide) | omega) (by first | assumption | decide | exact xs_ (by decide) | exact xc_ (by decide) | exact x31_ (by decide) | omega) (by first | assumption | decide | exact xs_ (by decide) | exact xc_ (by decide) | exact x31_ (by decide) | omega) (fun o9 => ?_)
      have e10 : ρ8 31 0 (22 * l + 1) = (V 7 l 2) := (Rρ8.1.a7 (s := 2) (f := 1) (by first | assumption | decide | exact xs_ (by decide) | exact xc_ (by decide) | exact x31_ (by decide) | omega) (by first | assumption | decide | exact xs_ (by decide) | exact xc_ (by decide) | exact x31_ (by decide) | omega) (by first | assumption | decide | exact xs_ (by decide) | exact xc_ (by decide) | exact x31_ (by decide) | omega)).trans (rfl)
      rw [e10] at o9 ⊢
      refine r_iload_n hC dX6_joined_46 rfl ?_
      refine z_inv2 hM dX6_joined_47 vl_RX6_197 rfl rfl rfl (Nat.le_of_ble_eq_true rfl) (Nat.le_of_ble_eq_true rfl) ?_
      refine y_comes (n := ((V 7 l 6).toNat + (((V 7 o 6) - 1) + 1 - 0).toNat)) (u := (jnU V l o)) (by first | assumption | decide | exact xs_ (by decide) | exact xc_ (by decide) | exact x31_ (by decide) | omega) (by first | assumption | decide | exact xs_ (by decide) | exact xc_ (by decide) | exact x31_ (by decide) | omega) (by first | assumption | decide | exact xs_ (by decide) | exact xc_ (by decide) | exact x31_ (by decide) | omega) (by first | assumption | decide | exact xs_ (by decide) | exact xc_ (by decide) | exact x31_ (by decide) | omega) w_ρ8 (fun j h0 h1 => by unfold jnU; split; exact (hrow l j (by first | assumption | decide | exact xs_ (by decide) | exact xc_ (by decide) | exact x31_ (by decide) | omega) (by first | assumption | decide | exact xs_ (by decide) | exact xc_ (by decide) | exact x31_ (by decide) | omega) (by first | assumption | decide | exact xs_ (by decide) | exact xc_ (by decide) | exact x31_ (by decide) | omega) (by first | assumption | decide | exact xs_ (by decide) | exact xc_ (by decide) | exact x31_ (by decide) | omega)).2; exact (hrow o (j - V 7 l 6) (by first | assumption | decide | exact xs_ (by decide) | exact xc_ (by decide) | exact x31_ (by decide) | omega) (by first | assumption | decide | exact xs_ (by decide) | exact xc_ (by decide) | exact x31_ (by decide) | omega) (by first | assumption | decide | exact xs_ (by decide) | exact xc_ (by decide) | exact x31_ (by decide) | omega) (by first | assumption | decide | exact xs_ (by decide) | exact xc_ (by decide) | exact x31_ (by decide) | omega)).2) (fun ρ11 g_ρ11 => ?_)
      rw [cm_t (fun j a b => Rρ8.1.t16 a b) (fun j a b => Rρ8.1.t15 a b) (fun j a b => by rw [Rρ8.1.t15 a (by first | assumption | decide | exact xs_ (by decide) | exact xc_ (by decide) | exact x31_ (by decide) | omega)]; exact hcl j a b)]
      have Rρ11 : RS t σ0 V ρ11 := RS.mk2 Rρ8.1 Rρ8.2.1 Rρ8.2.2 (fun c p q h => g_ρ11 c p q (by first | assumption | decide | exact xs_ (by decide) | exact xc_ (by decide) | exact x31_ (by decide) | omega))
      clear Rρ8
      refine y_iret hK rfl dX6_joined_50 ?_
      have hRr : jnR V l o w = (cm (V 16 0) (V 15 0) (V 7 l 2) (jnU V l o) ((V 7 l 6).toNat + (((V 7 o 6) - 1) + 1 - 0).toNat) w) := by
        unfold jnR
        rw [if_pos (by unfold lkC2 lwC opV; omega), show (V 7 l 6 + V 7 o 6).toNat = ((V 7 l 6).toNat + (((V 7 o 6) - 1) + 1 - 0).toNat) from by omega]
      rw [hRr] at k
      exact k _ ⟨Rρ11.1, Rρ11.2.1, Rρ11.2.2⟩
    · unfold lwC opV at h3
      refine r_if_ne (tgt := 21) hC dX6_joined_15 rfl (fun h12 => by omega) (fun h12 => ?_)
      refine r_ldc hC dX6_joined_18 co_RX6_160 rfl ?_
      refine y_iret hK rfl dX6_joined_20 ?_
      have hRr : jnR V l o w = (-2147483648) := by
        exact if_neg (by unfold lkC2 lwC opV; omega)
      rw [hRr] at k
      exact k _ ⟨hR.1, hR.2.1, hR.2.2⟩
  · unfold saC opV at h1
    refine r_if_eq (tgt := 18) hC dX6_joined_6 rfl (fun h13 => ?_) (fun h13 => by omega)
    refine r_ldc hC dX6_joined_18 co_RX6_160 rfl ?_
    refine y_iret hK rfl dX6_joined_20 ?_
    have hRr : jnR V l o w = (-2147483648) := by
      exact if_neg (by unfold lkC2 lwC opV; omega)
    rw [hRr] at k
    exact k _ ⟨hR.1, hR.2.1, hR.2.2⟩
theorem wv_rest {V : Mm} {l o k : Int} (h : 0 ≤ V 7 l 6 ∧ 0 ≤ k) (e : wvI V l o (V 7 l 6 + k).toNat = V 7 l 6) {j : Int} (a : k ≤ j) (b : j < V 7 o 6) : wvU V l o (V 7 l 6 + j) = V 9 o j := by
  have key : ∀ c : Nat, k + c ≤ V 7 o 6 → wvI V l o (V 7 l 6 + (k + c)).toNat = V 7 l 6 := fun c => by
    induction c with
    | zero =>
      intro _
      rw [show k + ((0 : Nat) : Int) = k from by omega]
      exact e
    | succ c ih =>
      intro q
      have i1 := ih (by first | assumption | decide | exact xs_ (by decide) | exact xc_ (by decide) | exact x31_ (by decide) | omega)
      have i2 := wvI_n (V := V) (l := l) (o := o) (i := V 7 l 6) (k := k + c) (by first | assumption | decide | exact xs_ (by decide) | exact xc_ (by decide) | exact x31_ (by decide) | omega) i1.symm (by unfold wvC; omega)
      rw [show k + ((c + 1 : Nat) : Int) = k + c + 1 from by omega]
      exact i2.symm
  have q := key (j - k).toNat (by first | assumption | decide | exact xs_ (by decide) | exact xc_ (by decide) | exact x31_ (by decide) | omega)
  rw [show k + ((j - k).toNat : Int) = j from by omega] at q
  have z := wvU_n (V := V) (l := l) (o := o) (i := V 7 l 6) (k := j) (n := (V 7 l 6 + j).toNat) (by first | assumption | decide | exact xs_ (by decide) | exact xc_ (by decide) | exact x31_ (by decide) | omega) q.symm (by unfold wvC; omega)
  rw [show (((V 7 l 6 + j).toNat : Nat) : Int) = V 7 l 6 + j from by omega] at z
  exact z.symm
theorem y_woven {eb : Bool} {t : Int} {V : Mm} {d : Nat} {P : Option Vl → Mm → Prop} {σ : Mm} {l o w : Int}  {σ0 : Mm} (ht : 6 ≤ t ∧ t ≤ 7) (hR : RS t σ0 V σ) (hG : GI V)  (k : ∀ ρ : Mm, RS t σ0 V ρ → P (some (vI (wvR V l o w))) ρ) : WT (true, eb, true) (d + 5) 233 [vR 30 0, vI l, vI o, vI w] σ P := by
  refine WT_in fun K hK => ?_
  have hK : StpY (true, eb, true) cX6_woven RX6 (some .int) (WT (true, eb, true) (d + 4)) P K := hK
  have hM := hK.1
  have hC := hK.1.1
  show K 0 [some (vR 30 0), some (vI l), some (vI o), some (vI w), none, none] [] σ
  refine r_rngz hC (fun g0 => ?_)
  have r_l : -2147483648 ≤ l ∧ l ≤ 2147483647 := inR_le (g0 (vI l) (by simp))
  have r_o : -2147483648 ≤ o ∧ o ≤ 2147483647 := inR_le (g0 (vI o) (by simp))
  have r_w : -2147483648 ≤ w ∧ w ≤ 2147483647 := inR_le (g0 (vI w) (by simp))
  have hcl := hG.2.1.2.2.2.2.2.2.2
  have hrow := hG.2.1.2.2.1
  refine r_aload_n hC dX6_woven_0 rfl ?_
  refine r_iload_n hC dX6_woven_1 rfl ?_
  refine r_iload_n hC dX6_woven_2 rfl ?_
  refine z_inv2 hM dX6_woven_3 vl_RX6_280 rfl rfl rfl (Nat.le_of_ble_eq_true rfl) (Nat.le_of_ble_eq_true rfl) ?_
  refine y_areAlike (V := V) ht ⟨hR.1, hR.2.1, hR.2.2⟩ hG (fun h1 => ?_) (fun h1 => ?_)
  · unfold saC opV at h1
    have h6_l := hG.1.h7 (l := l) (by first | assumption | decide | exact xs_ (by decide) | exact xc_ (by decide) | exact x31_ (by decide) | omega) (by first | assumption | decide | exact xs_ (by decide) | exact xc_ (by decide) | exact x31_ (by decide) | omega)
    have h6_o := hG.1.h7 (l := o) (by first | assumption | decide | exact xs_ (by decide) | exact xc_ (by decide) | exact x31_ (by decide) | omega) (by first | assumption | decide | exact xs_ (by decide) | exact xc_ (by decide) | exact x31_ (by decide) | omega)
    have hO_l := (hG.2.1.2.2.2.1 l (by first | assumption | decide | exact xs_ (by decide) | exact xc_ (by decide) | exact x31_ (by decide) | omega) (by first | assumption | decide | exact xs_ (by decide) | exact xc_ (by decide) | exact x31_ (by decide) | omega)).2
    refine r_if_eq (tgt := 18) hC dX6_woven_6 rfl (fun h2 => by omega) (fun h2 => ?_)
    refine r_aload_n hC dX6_woven_9 rfl ?_
    refine r_iload_n hC dX6_woven_10 rfl ?_
    refine r_iload_n hC dX6_woven_11 rfl ?_
    refine z_inv2 hM dX6_woven_12 vl_RX6_207 rfl rfl rfl (Nat.le_of_ble_eq_true rfl) (Nat.le_of_ble_eq_true rfl) ?_
    refine y_isNumber (V := V) ht ⟨hR.1, hR.2.1, hR.2.2⟩ (fun l a b => (hG.2.1.2.2.2.1 l a b).2) (fun h3 => ?_) (fun h3 => ?_)
    · unfold lwC opV at h3
      have n_h3 := numF_rng (V 7 l 2)
      have h6 := hG.1.h7 (l := l) (by first | assumption | decide | exact xs_ (by decide) | exact xc_ (by decide) | exact x31_ (by decide) | omega) (by first | assumption | decide | exact xs_ (by decide) | exact xc_ (by decide) | exact x31_ (by decide) | omega)
      have hO_h3 := (hG.2.1.2.2.2.1 l (by first | assumption | decide | exact xs_ (by decide) | exact xc_ (by decide) | exact x31_ (by decide) | omega) (by first | assumption | decide | exact xs_ (by decide) | exact xc_ (by decide) | exact x31_ (by decide) | omega)).2
      refine r_if_ne (tgt := 21) hC dX6_woven_15 rfl (fun h4 => ?_) (fun h4 => by omega)
      refine r_aload_n hC dX6_woven_21 rfl ?_
      refine z_inv0 hM dX6_woven_22 vl_RX6_113 rfl rfl rfl (Nat.le_of_ble_eq_true rfl) (Nat.le_of_ble_eq_true rfl) ?_
      refine y_clearRow ?_
      obtain ⟨ρ5, e_ρ5⟩ : ∃ zz_, zz_ = mu σ 30 0 8 0 := ⟨_, rfl⟩
      rw [← e_ρ5]
      have n_ρ5 : ∀ u : Int → Int, RWP ρ5 u 0 := fun u => RWP.nil (by rw [e_ρ5]; exact mu_self _ _ _ _ _)
      have Rρ5 : RS t σ0 V ρ5 := RS.mk2 hR.1 hR.2.1 hR.2.2 (fun c p q h => by rw [e_ρ5]; exact mu_ne (by first | assumption | decide | exact xs_ (by decide) | exact xc_ (by decide) | exact x31_ (by decide) | omega))
      clear e_ρ5
      refine r_iconst hC dX6_woven_25 rfl ?_
      refine r_istore hC dX6_woven_26 rfl ?_
      refine r_iconst hC dX6_woven_28 rfl ?_
      refine r_istore hC dX6_woven_29 rfl ?_
      have L31 : ∀ (n31 : Nat) (w6 w7 : Int) (ρ8 : Mm), 0 ≤ w6 ∧ w6 ≤ 121 → 0 ≤ w7 ∧ w7 ≤ 121 → ((w7) = wvI V l o ((w7) + (w6)).toNat) → ((w7) ≤ V 7 l 6) → ((w6) ≤ V 7 o 6) → 121 - w7 < (n31 : Int) → (RS t σ0 V ρ8) → (RWP ρ8 (wvU V l o) ((w7) + (w6)).toNat) → K 31 [some (vR 30 0), some (vI l), some (vI o), some (vI w), some (vI w6), some (vI w7)] [] ρ8 := by
        intro n31
        induction n31 with
        | zero => intro w6 w7 ρ8 f_w6 f_w7 i0_31 i1_31 i2_31 hm  m0_31 m1_31; omega
        | succ n31 ih31 =>
          intro w6 w7 ρ8 f_w6 f_w7 i0_31 i1_31 i2_31 hm31  m0_31 m1_31
          refine r_iload hC dX6_woven_31 rfl ?_
          refine r_aload_n hC dX6_woven_33 rfl ?_
          refine r_iload_n hC dX6_woven_34 rfl ?_
          refine z_inv1 hM dX6_woven_35 vl_RX6_116 rfl rfl rfl (Nat.le_of_ble_eq_true rfl) (Nat.le_of_ble_eq_true rfl) ?_
          refine y_heldOf (by first | assumption | decide | exact xs_ (by decide) | exact xc_ (by decide) | exact x31_ (by decide) | omega) (fun o9 => ?_)
          have e10 : ρ8 31 0 (22 * l + 5) = (V 7 l 6) := (m0_31.1.a7 (s := 6) (f := 5) (by first | assumption | decide | exact xs_ (by decide) | exact xc_ (by decide) | exact x31_ (by decide) | omega) (by first | assumption | decide | exact xs_ (by decide) | exact xc_ (by decide) | exact x31_ (by decide) | omega) (by first | assumption | decide | exact xs_ (by decide) | exact xc_ (by decide) | exact x31_ (by decide) | omega)).trans (rfl)
          rw [e10] at o9 ⊢
          have qo9 : 0 ≤ (V 7 l 6) ∧ (V 7 l 6) ≤ 121 := o9.1 (by first | assumption | decide | exact xs_ (by decide) | exact xc_ (by decide) | exact x31_ (by decide) | omega)
          refine r_icmp_ge (tgt := 122) hC dX6_woven_38 rfl (fun h11 => ?_) (fun h11 => ?_)
          · refine r_aload_n hC dX6_woven_122 rfl ?_
            refine r_iload_n hC dX6_woven_123 rfl ?_
            refine r_iload hC dX6_woven_124 rfl ?_
            refine r_aload_n hC dX6_woven_126 rfl ?_
            refine r_iload_n hC dX6_woven_127 rfl ?_
            refine z_inv1 hM dX6_woven_128 vl_RX6_116 rfl rfl rfl (Nat.le_of_ble_eq_true rfl) (Nat.le_of_ble_eq_true rfl) ?_
            refine y_heldOf (by first | assumption | decide | exact xs_ (by decide) | exact xc_ (by decide) | exact x31_ (by decide) | omega) (fun o12 => ?_)
            have e13 : ρ8 31 0 (22 * o + 5) = (V 7 o 6) := (m0_31.1.a7 (s := 6) (f := 5) (by first | assumption | decide | exact xs_ (by decide) | exact xc_ (by decide) | exact x31_ (by decide) | omega) (by first | assumption | decide | exact xs_ (by decide) | exact xc_ (by decide) | exact x31_ (by decide) | omega) (by first | assumption | decide | exact xs_ (by decide) | exact xc_ (by decide) | exact x31_ (by decide) | omega)).trans (rfl)
            rw [e13] at o12 ⊢
            have qo12 : 0 ≤ (V 7 o 6) ∧ (V 7 o 6) ≤ 121 := o12.1 (by first | assumption | decide | exact xs_ (by decide) | exact xc_ (by decide) | exact x31_ (by decide) | omega)
            refine r_iconst hC dX6_woven_131 rfl ?_
            refine r_isubE hC (((V 7 o 6) - 1)) dX6_woven_132 (by first | assumption | decide | exact xs_ (by decide) | exact xc_ (by decide) | exact x31_ (by decide) | omega) (by unfold inR; omega) ?_
            refine z_inv3 hM dX6_woven_133 vl_RX6_120 rfl rfl rfl (Nat.le_of_ble_eq_true rfl) (Nat.le_of_ble_eq_true rfl) ?_
            refine y_putFrom (n := (w7 + w6).toNat) (u := (wvU V l o)) (by first | assumption | decide | exact xs_ (by decide) | exact xc_ (by decide) | exact x31_ (by decide) | omega) (by first | assumption | decide | exact xs_ (by decide) | exact xc_ (by decide) | exact x31_ (by decide) | omega) (by first | assumption | decide | exact xs_ (by decide) | exact xc_ (by decide) | exact x31_ (by decide) | omega) (by first | assumption | decide | exact xs_ (by decide) | exact xc_ (by decide) | exact x31_ (by decide) | omega) (by first | assumption | decide | exact xs_ (by decide) | exact xc_ (by decide) | exact x31_ (by decide) | omega) m1_31 (fun j a b => Eq.trans (by have q := wv_rest (V := V) (l := l) (o := o) (k := w6) (by first | assumption | decide | exact xs_ (by decide) | exact xc_ (by decide) | exact x31_ (by decide) | omega) (by rw [show (V 7 l 6 + w6).toNat = (w7 + w6).toNat from by omega, ← i0_31]; omega) a (by first | assumption | decide | exact xs_ (by decide) | exact xc_ (by decide) | exact x31_ (by decide) | omega); rw [show ((((w7 + w6).toNat : Nat) : Int) + (j - w6)) = V 7 l 6 + j from by omega]; exact q) (m0_31.1.a9 (y := j) (by first | assumption | decide | exact xs_ (by decide) | exact xc_ (by decide) | exact x31_ (by decide) | omega) (by first | assumption | decide | exact xs_ (by decide) | exact xc_ (by decide) | exact x31_ (by decide) | omega) (by first | assumption | decide | exact xs_ (by decide) | exact xc_ (by decide) | exact x31_ (by decide) | omega) (by first | assumption | decide | exact xs_ (by decide) | exact xc_ (by decide) | exact x31_ (by decide) | omega)).symm) (fun ρ14 g_ρ14 w_ρ14 => ?_)
            have Rρ14 : RS t σ0 V ρ14 := RS.mk2 m0_31.1 m0_31.2.1 m0_31.2.2 (fun c p q h => g_ρ14 c p q (by first | assumption | decide | exact xs_ (by decide) | exact xc_ (by decide) | exact x31_ (by decide) | omega))
            refine r_aload_n hC dX6_woven_136 rfl ?_
            refine r_aload_n hC dX6_woven_137 rfl ?_
            refine r_iload_n hC dX6_woven_138 rfl ?_
            refine r_iconst hC dX6_woven_139 rfl ?_
            refine z_inv2 hM dX6_woven_140 vl_RX6_80 rfl rfl rfl (Nat.le_of_ble_eq_true rfl) (Nat.le_of_ble_eq_true rfl) ?_
            refine y_of (by first | assumption | decide | exact xs_ (by decide) | exact xc_ (by decide) | exact x31_ (by decide) | omega) (by first | assumption | decide | exact xs_ (by decide) | exact xc_ (by decide) | exact x31_ (by decide) | omega) (by first | assumption | decide | exact xs_ (by decide) | exact xc_ (by decide) | exact x31_ (by decide) | omega) (fun o15 => ?_)
            have e16 : ρ14 31 0 (22 * l + 1) = (V 7 l 2) := (Rρ14.1.a7 (s := 2) (f := 1) (by first | assumption | decide | exact xs_ (by decide) | exact xc_ (by decide) | exact x31_ (by decide) | omega) (by first | assumption | decide | exact xs_ (by decide) | exact xc_ (by decide) | exact x31_ (by decide) | omega) (by first | assumption | decide | exact xs_ (by decide) | exact xc_ (by decide) | exact x31_ (by decide) | omega)).trans (rfl)
            rw [e16] at o15 ⊢
            refine r_iload_n hC dX6_woven_143 rfl ?_
            refine z_inv2 hM dX6_woven_144 vl_RX6_197 rfl rfl rfl (Nat.le_of_ble_eq_true rfl) (Nat.le_of_ble_eq_true rfl) ?_
            refine y_comes (n := ((w7 + w6).toNat + (((V 7 o 6) - 1) + 1 - w6).toNat)) (u := (wvU V l o)) (by first | assumption | decide | exact xs_ (by decide) | exact xc_ (by decide) | exact x31_ (by decide) | omega) (by first | assumption | decide | exact xs_ (by decide) | exact xc_ (by decide) | exact x31_ (by decide) | omega) (by first | assumption | decide | exact xs_ (by decide) | exact xc_ (by decide) | exact x31_ (by decide) | omega) (by first | assumption | decide | exact xs_ (by decide) | exact xc_ (by decide) | exact x31_ (by decide) | omega) w_ρ14 (fun j h0 h1 => wvU_b h6_l h6_o (fun y a b => (hrow l y (by first | assumption | decide | exact xs_ (by decide) | exact xc_ (by decide) | exact x31_ (by decide) | omega) (by first | assumption | decide | exact xs_ (by decide) | exact xc_ (by decide) | exact x31_ (by decide) | omega) a b).2) (fun y a b => (hrow o y (by first | assumption | decide | exact xs_ (by decide) | exact xc_ (by decide) | exact x31_ (by decide) | omega) (by first | assumption | decide | exact xs_ (by decide) | exact xc_ (by decide) | exact x31_ (by decide) | omega) a b).2) h0 (by first | assumption | decide | exact xs_ (by decide) | exact xc_ (by decide) | exact x31_ (by decide) | omega)) (fun ρ17 g_ρ17 => ?_)
            rw [cm_t (fun j a b => Rρ14.1.t16 a b) (fun j a b => Rρ14.1.t15 a b) (fun j a b => by rw [Rρ14.1.t15 a (by first | assumption | decide | exact xs_ (by decide) | exact xc_ (by decide) | exact x31_ (by decide) | omega)]; exact hcl j a b)]
            have Rρ17 : RS t σ0 V ρ17 := RS.mk2 Rρ14.1 Rρ14.2.1 Rρ14.2.2 (fun c p q h => g_ρ17 c p q (by first | assumption | decide | exact xs_ (by decide) | exact xc_ (by decide) | exact x31_ (by decide) | omega))
            clear Rρ14
            refine y_iret hK rfl dX6_woven_147 ?_
            have hRr : wvR V l o w = (cm (V 16 0) (V 15 0) (V 7 l 2) (wvU V l o) ((w7 + w6).toNat + (((V 7 o 6) - 1) + 1 - w6).toNat) w) := by
              unfold wvR
              rw [if_pos (by unfold lkC2 lwC opV; omega), show (V 7 l 6 + V 7 o 6).toNat = ((w7 + w6).toNat + (((V 7 o 6) - 1) + 1 - w6).toNat) from by omega]
            rw [hRr] at k
            exact k _ ⟨Rρ17.1, Rρ17.2.1, Rρ17.2.2⟩
          · have L41 : ∀ (n41 : Nat) (w18 : Int) (ρ19 : Mm), 0 ≤ w18 ∧ w18 ≤ 121 → ((w7) = wvI V l o ((w7) + (w18)).toNat) → ((w18) ≤ V 7 o 6) → 121 - w18 < (n41 : Int) → (RS t σ0 V ρ19) → (RWP ρ19 (wvU V l o) ((w7) + (w18)).toNat) → K 41 [some (vR 30 0), some (vI l), some (vI o), some (vI w), some (vI w18), some (vI w7)] [] ρ19 := by
              intro n41
              induction n41 with
              | zero => intro w18 ρ19 f_w18 i0_41 i1_41 hm  m0_41 m1_41; omega
              | succ n41 ih41 =>
                intro w18 ρ19 f_w18 i0_41 i1_41 hm41  m0_41 m1_41
                refine r_iload hC dX6_woven_41 rfl ?_
                refine r_aload_n hC dX6_woven_43 rfl ?_
                refine r_iload_n hC dX6_woven_44 rfl ?_
                refine z_inv1 hM dX6_woven_45 vl_RX6_116 rfl rfl rfl (Nat.le_of_ble_eq_true rfl) (Nat.le_of_ble_eq_true rfl) ?_
                refine y_heldOf (by first | assumption | decide | exact xs_ (by decide) | exact xc_ (by decide) | exact x31_ (by decide) | omega) (fun o20 => ?_)
                have e21 : ρ19 31 0 (22 * o + 5) = (V 7 o 6) := (m0_41.1.a7 (s := 6) (f := 5) (by first | assumption | decide | exact xs_ (by decide) | exact xc_ (by decide) | exact x31_ (by decide) | omega) (by first | assumption | decide | exact xs_ (by decide) | exact xc_ (by decide) | exact x31_ (by decide) | omega) (by first | assumption | decide | exact xs_ (by decide) | exact xc_ (by decide) | exact x31_ (by decide) | omega)).trans (rfl)
                rw [e21] at o20 ⊢
                have qo20 : 0 ≤ (V 7 o 6) ∧ (V 7 o 6) ≤ 121 := o20.1 (by first | assumption | decide | exact xs_ (by decide) | exact xc_ (by decide) | exact x31_ (by decide) | omega)
                refine r_icmp_ge (tgt := 100) hC dX6_woven_48 rfl (fun h22 => ?_) (fun h22 => ?_)
                · refine r_aload_n hC dX6_woven_100 rfl ?_
                  refine r_aload_n hC dX6_woven_101 rfl ?_
                  refine z_getR hM dX6_woven_102 fl_RX6_16 rfl rfl (vld_of (n := 1) rfl (by first | assumption | decide | exact xs_ (by decide) | exact xc_ (by decide) | exact x31_ (by decide) | omega) (by first | assumption | decide | exact xs_ (by decide) | exact xc_ (by decide) | exact x31_ (by decide) | omega)) ?_
                  refine r_bipush hC dX6_woven_105 rfl ?_
                  refine r_iload_n hC dX6_woven_107 rfl ?_
                  refine r_imulE hC ((121 * l)) dX6_woven_108 (by first | assumption | decide | exact xs_ (by decide) | exact xc_ (by decide) | exact x31_ (by decide) | omega) (by unfold inR; omega) ?_
                  refine r_iload hC dX6_woven_109 rfl ?_
                  refine r_iaddE hC (((121 * l) + w7)) dX6_woven_111 (by first | assumption | decide | exact xs_ (by decide) | exact xc_ (by decide) | exact x31_ (by decide) | omega) (by unfold inR; omega) ?_
                  refine z_iald hM dX6_woven_112 rfl (by first | assumption | decide | exact xs_ (by decide) | exact xc_ (by decide) | exact x31_ (by decide) | omega) (by first | assumption | decide | exact xs_ (by decide) | exact xc_ (by decide) | exact x31_ (by decide) | omega) (fun v23 h_v23 o_v23 t_v23 => ?_)
                  have w_v23 := ((t_v23 (Or.inl trivial)).trans ((show ρ19 33 0 ((121 * l) + w7) = V 9 l w7 from by rw [show ((121 * l) + w7) = 121 * l + w7 from by omega]; exact m0_41.1.a9 (y := w7) (by first | assumption | decide | exact xs_ (by decide) | exact xc_ (by decide) | exact x31_ (by decide) | omega) (by first | assumption | decide | exact xs_ (by decide) | exact xc_ (by decide) | exact x31_ (by decide) | omega) (by first | assumption | decide | exact xs_ (by decide) | exact xc_ (by decide) | exact x31_ (by decide) | omega) (by first | assumption | decide | exact xs_ (by decide) | exact xc_ (by decide) | exact x31_ (by decide) | omega)).trans (rfl))).symm
                  clear t_v23
                  subst w_v23
                  have q_v23 : -1000 ≤ (V 9 l w7) ∧ (V 9 l w7) ≤ 1000 := o_v23
                  refine z_inv1 hM dX6_woven_113 vl_RX6_109 rfl rfl rfl (Nat.le_of_ble_eq_true rfl) (Nat.le_of_ble_eq_true rfl) ?_
                  refine y_put (n := (w7 + w18).toNat) (u := (wvU V l o)) (by first | assumption | decide | exact xs_ (by decide) | exact xc_ (by decide) | exact x31_ (by decide) | omega) m1_41 (wvU_y (i := w7) (k := w18) (by first | assumption | decide | exact xs_ (by decide) | exact xc_ (by decide) | exact x31_ (by decide) | omega) (i0_41.trans (congrArg (wvI V l o) (by first | assumption | decide | exact xs_ (by decide) | exact xc_ (by decide) | exact x31_ (by decide) | omega))) (by unfold wvC; omega)) (fun ρ24 g_ρ24 w_ρ24 => ?_)
                  have Rρ24 : RS t σ0 V ρ24 := RS.mk2 m0_41.1 m0_41.2.1 m0_41.2.2 (fun c p q h => g_ρ24 c p q (by first | assumption | decide | exact xs_ (by decide) | exact xc_ (by decide) | exact x31_ (by decide) | omega))
                  refine r_iincE hC ((w7 + 1)) dX6_woven_116 rfl rfl (by first | assumption | decide | exact xs_ (by decide) | exact xc_ (by decide) | exact x31_ (by decide) | omega) (by unfold inR; omega) ?_
                  refine r_goto (tgt := 31) hC dX6_woven_119 rfl ?_
                  exact ih31 (w18) ((w7 + 1)) ρ24 (by first | assumption | decide | exact xs_ (by decide) | exact xc_ (by decide) | exact x31_ (by decide) | omega) (by first | assumption | decide | exact xs_ (by decide) | exact xc_ (by decide) | exact x31_ (by decide) | omega) (by first | rfl | exact wvI_y (by first | assumption | decide | exact xs_ (by decide) | exact xc_ (by decide) | exact x31_ (by decide) | omega) i0_41 (by unfold wvC; omega)) (by first | assumption | decide | exact xs_ (by decide) | exact xc_ (by decide) | exact x31_ (by decide) | omega) (by first | assumption | decide | exact xs_ (by decide) | exact xc_ (by decide) | exact x31_ (by decide) | omega) (by first | assumption | decide | exact xs_ (by decide) | exact xc_ (by decide) | exact x31_ (by decide) | omega)  (⟨Rρ24.1, Rρ24.2.1, Rρ24.2.2⟩) (by rw [show ((((w7 + 1) + w18 : Int)).toNat : Nat) = ((w7 + w18).toNat + 1) from by omega]; exact w_ρ24)
                · refine r_aload_n hC dX6_woven_51 rfl ?_
                  refine z_getR hM dX6_woven_52 fl_RX6_13 rfl rfl (vld_of (n := 1) rfl (by first | assumption | decide | exact xs_ (by decide) | exact xc_ (by decide) | exact x31_ (by decide) | omega) (by first | assumption | decide | exact xs_ (by decide) | exact xc_ (by decide) | exact x31_ (by decide) | omega)) ?_
                  refine r_bipush hC dX6_woven_55 rfl ?_
                  refine r_iload_n hC dX6_woven_57 rfl ?_
                  refine r_imulE hC ((121 * o)) dX6_woven_58 (by first | assumption | decide | exact xs_ (by decide) | exact xc_ (by decide) | exact x31_ (by decide) | omega) (by unfold inR; omega) ?_
                  refine r_iload hC dX6_woven_59 rfl ?_
                  refine r_iaddE hC (((121 * o) + w18)) dX6_woven_61 (by first | assumption | decide | exact xs_ (by decide) | exact xc_ (by decide) | exact x31_ (by decide) | omega) (by unfold inR; omega) ?_
                  refine z_iald hM dX6_woven_62 rfl (by first | assumption | decide | exact xs_ (by decide) | exact xc_ (by decide) | exact x31_ (by decide) | omega) (by first | assumption | decide | exact xs_ (by decide) | exact xc_ (by decide) | exact x31_ (by decide) | omega) (fun v25 h_v25 o_v25 t_v25 => ?_)
                  have w_v25 := ((t_v25 (Or.inl trivial)).trans ((show ρ19 32 0 ((121 * o) + w18) = V 8 o w18 from by rw [show ((121 * o) + w18) = 121 * o + w18 from by omega]; exact m0_41.1.a8 (y := w18) (by first | assumption | decide | exact xs_ (by decide) | exact xc_ (by decide) | exact x31_ (by decide) | omega) (by first | assumption | decide | exact xs_ (by decide) | exact xc_ (by decide) | exact x31_ (by decide) | omega) (by first | assumption | decide | exact xs_ (by decide) | exact xc_ (by decide) | exact x31_ (by decide) | omega) (by first | assumption | decide | exact xs_ (by decide) | exact xc_ (by decide) | exact x31_ (by decide) | omega)).trans (rfl))).symm
                  clear t_v25
                  subst w_v25
                  refine r_aload_n hC dX6_woven_63 rfl ?_
                  refine z_getR hM dX6_woven_64 fl_RX6_13 rfl rfl (vld_of (n := 1) rfl (by first | assumption | decide | exact xs_ (by decide) | exact xc_ (by decide) | exact x31_ (by decide) | omega) (by first | assumption | decide | exact xs_ (by decide) | exact xc_ (by decide) | exact x31_ (by decide) | omega)) ?_
                  refine r_bipush hC dX6_woven_67 rfl ?_
                  refine r_iload_n hC dX6_woven_69 rfl ?_
                  refine r_imulE hC ((121 * l)) dX6_woven_70 (by first | assumption | decide | exact xs_ (by decide) | exact xc_ (by decide) | exact x31_ (by decide) | omega) (by unfold inR; omega) ?_
                  refine r_iload hC dX6_woven_71 rfl ?_
                  refine r_iaddE hC (((121 * l) + w7)) dX6_woven_73 (by first | assumption | decide | exact xs_ (by decide) | exact xc_ (by decide) | exact x31_ (by decide) | omega) (by unfold inR; omega) ?_
                  refine z_iald hM dX6_woven_74 rfl (by first | assumption | decide | exact xs_ (by decide) | exact xc_ (by decide) | exact x31_ (by decide) | omega) (by first | assumption | decide | exact xs_ (by decide) | exact xc_ (by decide) | exact x31_ (by decide) | omega) (fun v26 h_v26 o_v26 t_v26 => ?_)
                  have w_v26 := ((t_v26 (Or.inl trivial)).trans ((show ρ19 32 0 ((121 * l) + w7) = V 8 l w7 from by rw [show ((121 * l) + w7) = 121 * l + w7 from by omega]; exact m0_41.1.a8 (y := w7) (by first | assumption | decide | exact xs_ (by decide) | exact xc_ (by decide) | exact x31_ (by decide) | omega) (by first | assumption | decide | exact xs_ (by decide) | exact xc_ (by decide) | exact x31_ (by decide) | omega) (by first | assumption | decide | exact xs_ (by decide) | exact xc_ (by decide) | exact x31_ (by decide) | omega) (by first | assumption | decide | exact xs_ (by decide) | exact xc_ (by decide) | exact x31_ (by decide) | omega)).trans (rfl))).symm
                  clear t_v26
                  subst w_v26
                  refine r_icmp_ge (tgt := 100) hC dX6_woven_75 rfl (fun h27 => ?_) (fun h27 => ?_)
                  · refine r_aload_n hC dX6_woven_100 rfl ?_
                    refine r_aload_n hC dX6_woven_101 rfl ?_
                    refine z_getR hM dX6_woven_102 fl_RX6_16 rfl rfl (vld_of (n := 1) rfl (by first | assumption | decide | exact xs_ (by decide) | exact xc_ (by decide) | exact x31_ (by decide) | omega) (by first | assumption | decide | exact xs_ (by decide) | exact xc_ (by decide) | exact x31_ (by decide) | omega)) ?_
                    refine r_bipush hC dX6_woven_105 rfl ?_
                    refine r_iload_n hC dX6_woven_107 rfl ?_
                    refine r_imulE hC ((121 * l)) dX6_woven_108 (by first | assumption | decide | exact xs_ (by decide) | exact xc_ (by decide) | exact x31_ (by decide) | omega) (by unfold inR; omega) ?_
                    refine r_iload hC dX6_woven_109 rfl ?_
                    refine r_iaddE hC (((121 * l) + w7)) dX6_woven_111 (by first | assumption | decide | exact xs_ (by decide) | exact xc_ (by decide) | exact x31_ (by decide) | omega) (by unfold inR; omega) ?_
                    refine z_iald hM dX6_woven_112 rfl (by first | assumption | decide | exact xs_ (by decide) | exact xc_ (by decide) | exact x31_ (by decide) | omega) (by first | assumption | decide | exact xs_ (by decide) | exact xc_ (by decide) | exact x31_ (by decide) | omega) (fun v28 h_v28 o_v28 t_v28 => ?_)
                    have w_v28 := ((t_v28 (Or.inl trivial)).trans ((show ρ19 33 0 ((121 * l) + w7) = V 9 l w7 from by rw [show ((121 * l) + w7) = 121 * l + w7 from by omega]; exact m0_41.1.a9 (y := w7) (by first | assumption | decide | exact xs_ (by decide) | exact xc_ (by decide) | exact x31_ (by decide) | omega) (by first | assumption | decide | exact xs_ (by decide) | exact xc_ (by decide) | exact x31_ (by decide) | omega) (by first | assumption | decide | exact xs_ (by decide) | exact xc_ (by decide) | exact x31_ (by decide) | omega) (by first | assumption | decide | exact xs_ (by decide) | exact xc_ (by decide) | exact x31_ (by decide) | omega)).trans (rfl))).symm
                    clear t_v28
                    subst w_v28
                    have q_v28 : -1000 ≤ (V 9 l w7) ∧ (V 9 l w7) ≤ 1000 := o_v28
                    refine z_inv1 hM dX6_woven_113 vl_RX6_109 rfl rfl rfl (Nat.le_of_ble_eq_true rfl) (Nat.le_of_ble_eq_true rfl) ?_
                    refine y_put (n := (w7 + w18).toNat) (u := (wvU V l o)) (by first | assumption | decide | exact xs_ (by decide) | exact xc_ (by decide) | exact x31_ (by decide) | omega) m1_41 (wvU_y (i := w7) (k := w18) (by first | assumption | decide | exact xs_ (by decide) | exact xc_ (by decide) | exact x31_ (by decide) | omega) (i0_41.trans (congrArg (wvI V l o) (by first | assumption | decide | exact xs_ (by decide) | exact xc_ (by decide) | exact x31_ (by decide) | omega))) (by unfold wvC; omega)) (fun ρ29 g_ρ29 w_ρ29 => ?_)
                    have Rρ29 : RS t σ0 V ρ29 := RS.mk2 m0_41.1 m0_41.2.1 m0_41.2.2 (fun c p q h => g_ρ29 c p q (by first | assumption | decide | exact xs_ (by decide) | exact xc_ (by decide) | exact x31_ (by decide) | omega))
                    refine r_iincE hC ((w7 + 1)) dX6_woven_116 rfl rfl (by first | assumption | decide | exact xs_ (by decide) | exact xc_ (by decide) | exact x31_ (by decide) | omega) (by unfold inR; omega) ?_
                    refine r_goto (tgt := 31) hC dX6_woven_119 rfl ?_
                    exact ih31 (w18) ((w7 + 1)) ρ29 (by first | assumption | decide | exact xs_ (by decide) | exact xc_ (by decide) | exact x31_ (by decide) | omega) (by first | assumption | decide | exact xs_ (by decide) | exact xc_ (by decide) | exact x31_ (by decide) | omega) (by first | rfl | exact wvI_y (by first | assumption | decide | exact xs_ (by decide) | exact xc_ (by decide) | exact x31_ (by decide) | omega) i0_41 (by unfold wvC; omega)) (by first | assumption | decide | exact xs_ (by decide) | exact xc_ (by decide) | exact x31_ (by decide) | omega) (by first | assumption | decide | exact xs_ (by decide) | exact xc_ (by decide) | exact x31_ (by decide) | omega) (by first | assumption | decide | exact xs_ (by decide) | exact xc_ (by decide) | exact x31_ (by decide) | omega)  (⟨Rρ29.1, Rρ29.2.1, Rρ29.2.2⟩) (by rw [show ((((w7 + 1) + w18 : Int)).toNat : Nat) = ((w7 + w18).toNat + 1) from by omega]; exact w_ρ29)
                  · refine r_aload_n hC dX6_woven_78 rfl ?_
                    refine r_aload_n hC dX6_woven_79 rfl ?_
                    refine z_getR hM dX6_woven_80 fl_RX6_16 rfl rfl (vld_of (n := 1) rfl (by first | assumption | decide | exact xs_ (by decide) | exact xc_ (by decide) | exact x31_ (by decide) | omega) (by first | assumption | decide | exact xs_ (by decide) | exact xc_ (by decide) | exact x31_ (by decide) | omega)) ?_
                    refine r_bipush hC dX6_woven_83 rfl ?_
                    refine r_iload_n hC dX6_woven_85 rfl ?_
                    refine r_imulE hC ((121 * o)) dX6_woven_86 (by first | assumption | decide | exact xs_ (by decide) | exact xc_ (by decide) | exact x31_ (by decide) | omega) (by unfold inR; omega) ?_
                    refine r_iload hC dX6_woven_87 rfl ?_
                    refine r_iaddE hC (((121 * o) + w18)) dX6_woven_89 (by first | assumption | decide | exact xs_ (by decide) | exact xc_ (by decide) | exact x31_ (by decide) | omega) (by unfold inR; omega) ?_
                    refine z_iald hM dX6_woven_90 rfl (by first | assumption | decide | exact xs_ (by decide) | exact xc_ (by decide) | exact x31_ (by decide) | omega) (by first | assumption | decide | exact xs_ (by decide) | exact xc_ (by decide) | exact x31_ (by decide) | omega) (fun v30 h_v30 o_v30 t_v30 => ?_)
                    have w_v30 := ((t_v30 (Or.inl trivial)).trans ((show ρ19 33 0 ((121 * o) + w18) = V 9 o w18 from by rw [show ((121 * o) + w18) = 121 * o + w18 from by omega]; exact m0_41.1.a9 (y := w18) (by first | assumption | decide | exact xs_ (by decide) | exact xc_ (by decide) | exact x31_ (by decide) | omega) (by first | assumption | decide | exact xs_ (by decide) | exact xc_ (by decide) | exact x31_ (by decide) | omega) (by first | assumption | decide | exact xs_ (by decide) | exact xc_ (by decide) | exact x31_ (by decide) | omega) (by first | assumption | decide | exact xs_ (by decide) | exact xc_ (by decide) | exact x31_ (by decide) | omega)).trans (rfl))).symm
                    clear t_v30
                    subst w_v30
                    have q_v30 : -1000 ≤ (V 9 o w18) ∧ (V 9 o w18) ≤ 1000 := o_v30
                    refine z_inv1 hM dX6_woven_91 vl_RX6_109 rfl rfl rfl (Nat.le_of_ble_eq_true rfl) (Nat.le_of_ble_eq_true rfl) ?_
                    refine y_put (n := (w7 + w18).toNat) (u := (wvU V l o)) (by first | assumption | decide | exact xs_ (by decide) | exact xc_ (by decide) | exact x31_ (by decide) | omega) m1_41 (wvU_n (i := w7) (k := w18) (by first | assumption | decide | exact xs_ (by decide) | exact xc_ (by decide) | exact x31_ (by decide) | omega) (i0_41.trans (congrArg (wvI V l o) (by first | assumption | decide | exact xs_ (by decide) | exact xc_ (by decide) | exact x31_ (by decide) | omega))) (by unfold wvC; omega)) (fun ρ31 g_ρ31 w_ρ31 => ?_)
                    have Rρ31 : RS t σ0 V ρ31 := RS.mk2 m0_41.1 m0_41.2.1 m0_41.2.2 (fun c p q h => g_ρ31 c p q (by first | assumption | decide | exact xs_ (by decide) | exact xc_ (by decide) | exact x31_ (by decide) | omega))
                    refine r_iincE hC ((w18 + 1)) dX6_woven_94 rfl rfl (by first | assumption | decide | exact xs_ (by decide) | exact xc_ (by decide) | exact x31_ (by decide) | omega) (by unfold inR; omega) ?_
                    refine r_goto (tgt := 41) hC dX6_woven_97 rfl ?_
                    exact ih41 ((w18 + 1)) ρ31 (by first | assumption | decide | exact xs_ (by decide) | exact xc_ (by decide) | exact x31_ (by decide) | omega) (by first | exact i0_31 | exact wvI_n (by first | assumption | decide | exact xs_ (by decide) | exact xc_ (by decide) | exact x31_ (by decide) | omega) i0_41 (by unfold wvC; omega)) (by first | assumption | decide | exact xs_ (by decide) | exact xc_ (by decide) | exact x31_ (by decide) | omega) (by first | assumption | decide | exact xs_ (by decide) | exact xc_ (by decide) | exact x31_ (by decide) | omega)  (⟨Rρ31.1, Rρ31.2.1, Rρ31.2.2⟩) (by rw [show (((w7 + (w18 + 1) : Int)).toNat : Nat) = ((w7 + w18).toNat + 1) from by omega]; exact w_ρ31)
            exact L41 123 (w6) ρ8 (by first | assumption | decide | exact xs_ (by decide) | exact xc_ (by decide) | exact x31_ (by decide) | omega) (by first | exact i0_31 | exact wvI_n (by first | assumption | decide | exact xs_ (by decide) | exact xc_ (by decide) | exact x31_ (by decide) | omega) i0_41 (by unfold wvC; omega)) (by first | assumption | decide | exact xs_ (by decide) | exact xc_ (by decide) | exact x31_ (by decide) | omega) (by first | assumption | decide | exact xs_ (by decide) | exact xc_ (by decide) | exact x31_ (by decide) | omega)  (⟨m0_31.1, m0_31.2.1, m0_31.2.2⟩) (by rw [show (((w7 + w6 : Int)).toNat : Nat) = (w7 + w6).toNat from by omega]; exact m1_31)
      exact L31 123 (0) (0) ρ5 (by first | assumption | decide | exact xs_ (by decide) | exact xc_ (by decide) | exact x31_ (by decide) | omega) (by first | assumption | decide | exact xs_ (by decide) | exact xc_ (by decide) | exact x31_ (by decide) | omega) (by first | rfl | exact wvI_y (by first | assumption | decide | exact xs_ (by decide) | exact xc_ (by decide) | exact x31_ (by decide) | omega) i0_41 (by unfold wvC; omega)) (by first | assumption | decide | exact xs_ (by decide) | exact xc_ (by decide) | exact x31_ (by decide) | omega) (by first | assumption | decide | exact xs_ (by decide) | exact xc_ (by decide) | exact x31_ (by decide) | omega) (by first | assumption | decide | exact xs_ (by decide) | exact xc_ (by decide) | exact x31_ (by decide) | omega)  (⟨Rρ5.1, Rρ5.2.1, Rρ5.2.2⟩) (by rw [show (((0 + 0 : Int)).toNat : Nat) = 0 from by omega]; exact n_ρ5 (wvU V l o))
    · unfold lwC opV at h3
      refine r_if_ne (tgt := 21) hC dX6_woven_15 rfl (fun h32 => by omega) (fun h32 => ?_)
      refine r_ldc hC dX6_woven_18 co_RX6_160 rfl ?_
      refine y_iret hK rfl dX6_woven_20 ?_
      have hRr : wvR V l o w = (-2147483648) := by
        exact if_neg (by unfold lkC2 lwC opV; omega)
      rw [hRr] at k
      exact k _ ⟨hR.1, hR.2.1, hR.2.2⟩
  · unfold saC opV at h1
    refine r_if_eq (tgt := 18) hC dX6_woven_6 rfl (fun h33 => ?_) (fun h33 => by omega)
    refine r_ldc hC dX6_woven_18 co_RX6_160 rfl ?_
    refine y_iret hK rfl dX6_woven_20 ?_
    have hRr : wvR V l o w = (-2147483648) := by
      exact if_neg (by unfold lkC2 lwC opV; omega)
    rw [hRr] at k
    exact k _ ⟨hR.1, hR.2.1, hR.2.2⟩
-- B: the reference: PANES, SESSIONS, all together
theorem paneR.u {T : Int → Int} {w h i r s : Int} (a : paneR T w h i r) (b : paneR T w h i s) : r = s := by
  obtain ⟨a1, a2, a3⟩ := a
  obtain ⟨b1, b2, b3⟩ := b
  by_cases z : r < s
  · exact absurd (b2 (i + r) (by first | assumption | decide | exact xs_ (by decide) | exact xc_ (by decide) | exact x31_ (by decide) | omega) (by first | assumption | decide | exact xs_ (by decide) | exact xc_ (by decide) | exact x31_ (by decide) | omega)) (a3 (by first | assumption | decide | exact xs_ (by decide) | exact xc_ (by decide) | exact x31_ (by decide) | omega))
  · by_cases z2 : s < r
    · exact absurd (a2 (i + s) (by first | assumption | decide | exact xs_ (by decide) | exact xc_ (by decide) | exact x31_ (by decide) | omega) (by first | assumption | decide | exact xs_ (by decide) | exact xc_ (by decide) | exact x31_ (by decide) | omega)) (b3 (by first | assumption | decide | exact xs_ (by decide) | exact xc_ (by decide) | exact x31_ (by decide) | omega))
    · omega
theorem sesR.u {T : Int → Int} {g h i r s : Int} (a : sesR T g h i r) (b : sesR T g h i s) : r = s := by
  obtain ⟨a1, a2, a3⟩ := a
  obtain ⟨b1, b2, b3⟩ := b
  by_cases z : r < s
  · exact absurd (a3 (by first | assumption | decide | exact xs_ (by decide) | exact xc_ (by decide) | exact x31_ (by decide) | omega)) (b2 (i + r) (by first | assumption | decide | exact xs_ (by decide) | exact xc_ (by decide) | exact x31_ (by decide) | omega) (by first | assumption | decide | exact xs_ (by decide) | exact xc_ (by decide) | exact x31_ (by decide) | omega))
  · by_cases z2 : s < r
    · exact absurd (b3 (by first | assumption | decide | exact xs_ (by decide) | exact xc_ (by decide) | exact x31_ (by decide) | omega)) (a2 (i + s) (by first | assumption | decide | exact xs_ (by decide) | exact xc_ (by decide) | exact x31_ (by decide) | omega) (by first | assumption | decide | exact xs_ (by decide) | exact xc_ (by decide) | exact x31_ (by decide) | omega))
    · omega
theorem y_inPane {eb : Bool} {t : Int} {V : Mm} {d : Nat} {P : Option Vl → Mm → Prop} {σ : Mm} {l i x : Int} (b_l : 0 ≤ l ∧ l ≤ 3) (b_i : 0 ≤ i ∧ i ≤ 119) (b_x : 1 ≤ x ∧ x ≤ 100000) {σ0 : Mm} (ht : 6 ≤ t ∧ t ≤ 7) (hR : RS t σ0 V σ) (hG : GI V) (hi : i < V 7 l 6)  (k : ∀ r : Int, paneR (V 8 l) x (V 7 l 6) i r → P (some (vI r)) σ) : WT (true, eb, true) (d + 3) 244 [vR 30 0, vI l, vI i, vI x] σ P := by
  refine WT_in fun K hK => ?_
  have hK : StpY (true, eb, true) cX6_inPane RX6 (some .int) (WT (true, eb, true) (d + 2)) P K := hK
  have hM := hK.1
  have hC := hK.1.1
  show K 0 [some (vR 30 0), some (vI l), some (vI i), some (vI x), none] [] σ
  have hrow := hG.2.1.2.2.1
  have h6 := hG.1.h7 (l := l) (by first | assumption | decide | exact xs_ (by decide) | exact xc_ (by decide) | exact x31_ (by decide) | omega) (by first | assumption | decide | exact xs_ (by decide) | exact xc_ (by decide) | exact x31_ (by decide) | omega)
  refine r_iconst hC dX6_inPane_0 rfl ?_
  refine r_istore hC dX6_inPane_1 rfl ?_
  have L3 : ∀ (n3 : Nat) (w1 : Int), 1 ≤ w1 ∧ w1 ≤ 120 → (∀ j : Int, i ≤ j → j < i + (w1) → V 8 l j / x = V 8 l i / x) → (i + (w1) ≤ V 7 l 6) → 121 - w1 < (n3 : Int) → K 3 [some (vR 30 0), some (vI l), some (vI i), some (vI x), some (vI w1)] [] σ := by
    intro n3
    induction n3 with
    | zero => intro w1  f_w1 i0_3 i1_3 hm  ; omega
    | succ n3 ih3 =>
      intro w1  f_w1 i0_3 i1_3 hm3  
      refine r_iload_n hC dX6_inPane_3 rfl ?_
      refine r_iload hC dX6_inPane_4 rfl ?_
      refine r_iaddE hC ((i + w1)) dX6_inPane_6 (by first | assumption | decide | exact xs_ (by decide) | exact xc_ (by decide) | exact x31_ (by decide) | omega) (by unfold inR; omega) ?_
      refine r_aload_n hC dX6_inPane_7 rfl ?_
      refine r_iload_n hC dX6_inPane_8 rfl ?_
      refine z_inv1 hM dX6_inPane_9 vl_RX6_116 rfl rfl rfl (Nat.le_of_ble_eq_true rfl) (Nat.le_of_ble_eq_true rfl) ?_
      refine y_heldOf (by first | assumption | decide | exact xs_ (by decide) | exact xc_ (by decide) | exact x31_ (by decide) | omega) (fun o2 => ?_)
      have e3 : σ 31 0 (22 * l + 5) = (V 7 l 6) := (hR.1.a7 (s := 6) (f := 5) (by first | assumption | decide | exact xs_ (by decide) | exact xc_ (by decide) | exact x31_ (by decide) | omega) (by first | assumption | decide | exact xs_ (by decide) | exact xc_ (by decide) | exact x31_ (by decide) | omega) (by first | assumption | decide | exact xs_ (by decide) | exact xc_ (by decide) | exact x31_ (by decide) | omega)).trans (rfl)
      rw [e3] at o2 ⊢
      have qo2 : 0 ≤ (V 7 l 6) ∧ (V 7 l 6) ≤ 121 := o2.1 (by first | assumption | decide | exact xs_ (by decide) | exact xc_ (by decide) | exact x31_ (by decide) | omega)
      refine r_icmp_ge (tgt := 53) hC dX6_inPane_12 rfl (fun h4 => ?_) (fun h4 => ?_)
      · refine r_iload hC dX6_inPane_53 rfl ?_
        refine y_iret hK rfl dX6_inPane_55 ?_
        exact k _ ⟨by omega, i0_3, fun q => by omega⟩
      · refine r_aload_n hC dX6_inPane_15 rfl ?_
        refine z_getR hM dX6_inPane_16 fl_RX6_13 rfl rfl (vld_of (n := 1) rfl (by first | assumption | decide | exact xs_ (by decide) | exact xc_ (by decide) | exact x31_ (by decide) | omega) (by first | assumption | decide | exact xs_ (by decide) | exact xc_ (by decide) | exact x31_ (by decide) | omega)) ?_
        refine r_bipush hC dX6_inPane_19 rfl ?_
        refine r_iload_n hC dX6_inPane_21 rfl ?_
        refine r_imulE hC ((121 * l)) dX6_inPane_22 (by first | assumption | decide | exact xs_ (by decide) | exact xc_ (by decide) | exact x31_ (by decide) | omega) (by unfold inR; omega) ?_
        refine r_iload_n hC dX6_inPane_23 rfl ?_
        refine r_iaddE hC (((121 * l) + i)) dX6_inPane_24 (by first | assumption | decide | exact xs_ (by decide) | exact xc_ (by decide) | exact x31_ (by decide) | omega) (by unfold inR; omega) ?_
        refine r_iload hC dX6_inPane_25 rfl ?_
        refine r_iaddE hC ((((121 * l) + i) + w1)) dX6_inPane_27 (by first | assumption | decide | exact xs_ (by decide) | exact xc_ (by decide) | exact x31_ (by decide) | omega) (by unfold inR; omega) ?_
        refine z_iald hM dX6_inPane_28 rfl (by first | assumption | decide | exact xs_ (by decide) | exact xc_ (by decide) | exact x31_ (by decide) | omega) (by first | assumption | decide | exact xs_ (by decide) | exact xc_ (by decide) | exact x31_ (by decide) | omega) (fun v5 h_v5 o_v5 t_v5 => ?_)
        have w_v5 := ((t_v5 (Or.inl trivial)).trans ((show σ 32 0 (((121 * l) + i) + w1) = V 8 l (i + w1) from by rw [show (((121 * l) + i) + w1) = 121 * l + (i + w1) from by omega]; exact hR.1.a8 (y := (i + w1)) (by first | assumption | decide | exact xs_ (by decide) | exact xc_ (by decide) | exact x31_ (by decide) | omega) (by first | assumption | decide | exact xs_ (by decide) | exact xc_ (by decide) | exact x31_ (by decide) | omega) (by first | assumption | decide | exact xs_ (by decide) | exact xc_ (by decide) | exact x31_ (by decide) | omega) (by first | assumption | decide | exact xs_ (by decide) | exact xc_ (by decide) | exact x31_ (by decide) | omega)).trans (rfl))).symm
        clear t_v5
        subst w_v5
        have ht_29 := (hrow l (i + w1) (by first | assumption | decide | exact xs_ (by decide) | exact xc_ (by decide) | exact x31_ (by decide) | omega) (by first | assumption | decide | exact xs_ (by decide) | exact xc_ (by decide) | exact x31_ (by decide) | omega) (by first | assumption | decide | exact xs_ (by decide) | exact xc_ (by decide) | exact x31_ (by decide) | omega) (by first | assumption | decide | exact xs_ (by decide) | exact xc_ (by decide) | exact x31_ (by decide) | omega)).1
        refine r_iload_n hC dX6_inPane_29 rfl ?_
        refine r_idivN hC dX6_inPane_30 (by first | assumption | decide | exact xs_ (by decide) | exact xc_ (by decide) | exact x31_ (by decide) | omega) (by first | assumption | decide | exact xs_ (by decide) | exact xc_ (by decide) | exact x31_ (by decide) | omega) ?_
        have f_v6 := idiv_fr (a := (V 8 l (i + w1))) (b := x) (by first | assumption | decide | exact xs_ (by decide) | exact xc_ (by decide) | exact x31_ (by decide) | omega) (by first | assumption | decide | exact xs_ (by decide) | exact xc_ (by decide) | exact x31_ (by decide) | omega)
        refine r_aload_n hC dX6_inPane_31 rfl ?_
        refine z_getR hM dX6_inPane_32 fl_RX6_13 rfl rfl (vld_of (n := 1) rfl (by first | assumption | decide | exact xs_ (by decide) | exact xc_ (by decide) | exact x31_ (by decide) | omega) (by first | assumption | decide | exact xs_ (by decide) | exact xc_ (by decide) | exact x31_ (by decide) | omega)) ?_
        refine r_bipush hC dX6_inPane_35 rfl ?_
        refine r_iload_n hC dX6_inPane_37 rfl ?_
        refine r_imulE hC ((121 * l)) dX6_inPane_38 (by first | assumption | decide | exact xs_ (by decide) | exact xc_ (by decide) | exact x31_ (by decide) | omega) (by unfold inR; omega) ?_
        refine r_iload_n hC dX6_inPane_39 rfl ?_
        refine r_iaddE hC (((121 * l) + i)) dX6_inPane_40 (by first | assumption | decide | exact xs_ (by decide) | exact xc_ (by decide) | exact x31_ (by decide) | omega) (by unfold inR; omega) ?_
        refine z_iald hM dX6_inPane_41 rfl (by first | assumption | decide | exact xs_ (by decide) | exact xc_ (by decide) | exact x31_ (by decide) | omega) (by first | assumption | decide | exact xs_ (by decide) | exact xc_ (by decide) | exact x31_ (by decide) | omega) (fun v7 h_v7 o_v7 t_v7 => ?_)
        have w_v7 := ((t_v7 (Or.inl trivial)).trans ((show σ 32 0 ((121 * l) + i) = V 8 l i from by rw [show ((121 * l) + i) = 121 * l + i from by omega]; exact hR.1.a8 (y := i) (by first | assumption | decide | exact xs_ (by decide) | exact xc_ (by decide) | exact x31_ (by decide) | omega) (by first | assumption | decide | exact xs_ (by decide) | exact xc_ (by decide) | exact x31_ (by decide) | omega) (by first | assumption | decide | exact xs_ (by decide) | exact xc_ (by decide) | exact x31_ (by decide) | omega) (by first | assumption | decide | exact xs_ (by decide) | exact xc_ (by decide) | exact x31_ (by decide) | omega)).trans (rfl))).symm
        clear t_v7
        subst w_v7
        have ht_42 := (hrow l i (by first | assumption | decide | exact xs_ (by decide) | exact xc_ (by decide) | exact x31_ (by decide) | omega) (by first | assumption | decide | exact xs_ (by decide) | exact xc_ (by decide) | exact x31_ (by decide) | omega) (by first | assumption | decide | exact xs_ (by decide) | exact xc_ (by decide) | exact x31_ (by decide) | omega) (by first | assumption | decide | exact xs_ (by decide) | exact xc_ (by decide) | exact x31_ (by decide) | omega)).1
        refine r_iload_n hC dX6_inPane_42 rfl ?_
        refine r_idivN hC dX6_inPane_43 (by first | assumption | decide | exact xs_ (by decide) | exact xc_ (by decide) | exact x31_ (by decide) | omega) (by first | assumption | decide | exact xs_ (by decide) | exact xc_ (by decide) | exact x31_ (by decide) | omega) ?_
        have f_v8 := idiv_fr (a := (V 8 l i)) (b := x) (by first | assumption | decide | exact xs_ (by decide) | exact xc_ (by decide) | exact x31_ (by decide) | omega) (by first | assumption | decide | exact xs_ (by decide) | exact xc_ (by decide) | exact x31_ (by decide) | omega)
        refine r_icmp_ne (tgt := 53) hC dX6_inPane_44 rfl (fun h9 => ?_) (fun h9 => ?_)
        · refine r_iload hC dX6_inPane_53 rfl ?_
          refine y_iret hK rfl dX6_inPane_55 ?_
          exact k _ ⟨by omega, i0_3, fun q => by omega⟩
        · refine r_iincE hC ((w1 + 1)) dX6_inPane_47 rfl rfl (by first | assumption | decide | exact xs_ (by decide) | exact xc_ (by decide) | exact x31_ (by decide) | omega) (by unfold inR; omega) ?_
          refine r_goto (tgt := 3) hC dX6_inPane_50 rfl ?_
          exact ih3 ((w1 + 1))  (by first | assumption | decide | exact xs_ (by decide) | exact xc_ (by decide) | exact x31_ (by decide) | omega) (by first | (intro j a b; have e : j = i := (by first | assumption | decide | exact xs_ (by decide) | exact xc_ (by decide) | exact x31_ (by decide) | omega); rw [e]) | (intro j a b; rcases (by omega : j < i + w1 ∨ j = i + w1) with z | z; exact i0_3 j a z; subst z; omega)) (by first | assumption | decide | exact xs_ (by decide) | exact xc_ (by decide) | exact x31_ (by decide) | omega) (by first | assumption | decide | exact xs_ (by decide) | exact xc_ (by decide) | exact x31_ (by decide) | omega)  
  exact L3 123 (1)  (by first | assumption | decide | exact xs_ (by decide) | exact xc_ (by decide) | exact x31_ (by decide) | omega) (by first | (intro j a b; have e : j = i := (by first | assumption | decide | exact xs_ (by decide) | exact xc_ (by decide) | exact x31_ (by decide) | omega); rw [e]) | (intro j a b; rcases (by omega : j < i + w1 ∨ j = i + w1) with z | z; exact i0_3 j a z; subst z; omega)) (by first | assumption | decide | exact xs_ (by decide) | exact xc_ (by decide) | exact x31_ (by decide) | omega) (by first | assumption | decide | exact xs_ (by decide) | exact xc_ (by decide) | exact x31_ (by decide) | omega)  
theorem y_inSession {eb : Bool} {t : Int} {V : Mm} {d : Nat} {P : Option Vl → Mm → Prop} {σ : Mm} {l i x : Int} (b_l : 0 ≤ l ∧ l ≤ 3) (b_i : 0 ≤ i ∧ i ≤ 119) (b_x : 0 ≤ x ∧ x ≤ 100000) {σ0 : Mm} (ht : 6 ≤ t ∧ t ≤ 7) (hR : RS t σ0 V σ) (hG : GI V) (hi : i < V 7 l 6)  (k : ∀ r : Int, sesR (V 8 l) x (V 7 l 6) i r → P (some (vI r)) σ) : WT (true, eb, true) (d + 3) 248 [vR 30 0, vI l, vI i, vI x] σ P := by
  refine WT_in fun K hK => ?_
  have hK : StpY (true, eb, true) cX6_inSession RX6 (some .int) (WT (true, eb, true) (d + 2)) P K := hK
  have hM := hK.1
  have hC := hK.1.1
  show K 0 [some (vR 30 0), some (vI l), some (vI i), some (vI x), none] [] σ
  have hrow := hG.2.1.2.2.1
  have h6 := hG.1.h7 (l := l) (by first | assumption | decide | exact xs_ (by decide) | exact xc_ (by decide) | exact x31_ (by decide) | omega) (by first | assumption | decide | exact xs_ (by decide) | exact xc_ (by decide) | exact x31_ (by decide) | omega)
  refine r_iconst hC dX6_inSession_0 rfl ?_
  refine r_istore hC dX6_inSession_1 rfl ?_
  have L3 : ∀ (n3 : Nat) (w1 : Int), 1 ≤ w1 ∧ w1 ≤ 120 → (∀ j : Int, i < j → j < i + (w1) → ¬ wr (V 8 l j - V 8 l (j - 1)) > x) → (i + (w1) ≤ V 7 l 6) → 121 - w1 < (n3 : Int) → K 3 [some (vR 30 0), some (vI l), some (vI i), some (vI x), some (vI w1)] [] σ := by
    intro n3
    induction n3 with
    | zero => intro w1  f_w1 i0_3 i1_3 hm  ; omega
    | succ n3 ih3 =>
      intro w1  f_w1 i0_3 i1_3 hm3  
      refine r_iload_n hC dX6_inSession_3 rfl ?_
      refine r_iload hC dX6_inSession_4 rfl ?_
      refine r_iaddE hC ((i + w1)) dX6_inSession_6 (by first | assumption | decide | exact xs_ (by decide) | exact xc_ (by decide) | exact x31_ (by decide) | omega) (by unfold inR; omega) ?_
      refine r_aload_n hC dX6_inSession_7 rfl ?_
      refine r_iload_n hC dX6_inSession_8 rfl ?_
      refine z_inv1 hM dX6_inSession_9 vl_RX6_116 rfl rfl rfl (Nat.le_of_ble_eq_true rfl) (Nat.le_of_ble_eq_true rfl) ?_
      refine y_heldOf (by first | assumption | decide | exact xs_ (by decide) | exact xc_ (by decide) | exact x31_ (by decide) | omega) (fun o2 => ?_)
      have e3 : σ 31 0 (22 * l + 5) = (V 7 l 6) := (hR.1.a7 (s := 6) (f := 5) (by first | assumption | decide | exact xs_ (by decide) | exact xc_ (by decide) | exact x31_ (by decide) | omega) (by first | assumption | decide | exact xs_ (by decide) | exact xc_ (by decide) | exact x31_ (by decide) | omega) (by first | assumption | decide | exact xs_ (by decide) | exact xc_ (by decide) | exact x31_ (by decide) | omega)).trans (rfl)
      rw [e3] at o2 ⊢
      have qo2 : 0 ≤ (V 7 l 6) ∧ (V 7 l 6) ≤ 121 := o2.1 (by first | assumption | decide | exact xs_ (by decide) | exact xc_ (by decide) | exact x31_ (by decide) | omega)
      refine r_icmp_ge (tgt := 56) hC dX6_inSession_12 rfl (fun h4 => ?_) (fun h4 => ?_)
      · refine r_iload hC dX6_inSession_56 rfl ?_
        refine y_iret hK rfl dX6_inSession_58 ?_
        exact k _ ⟨by omega, i0_3, fun q => by omega⟩
      · refine r_aload_n hC dX6_inSession_15 rfl ?_
        refine z_getR hM dX6_inSession_16 fl_RX6_13 rfl rfl (vld_of (n := 1) rfl (by first | assumption | decide | exact xs_ (by decide) | exact xc_ (by decide) | exact x31_ (by decide) | omega) (by first | assumption | decide | exact xs_ (by decide) | exact xc_ (by decide) | exact x31_ (by decide) | omega)) ?_
        refine r_bipush hC dX6_inSession_19 rfl ?_
        refine r_iload_n hC dX6_inSession_21 rfl ?_
        refine r_imulE hC ((121 * l)) dX6_inSession_22 (by first | assumption | decide | exact xs_ (by decide) | exact xc_ (by decide) | exact x31_ (by decide) | omega) (by unfold inR; omega) ?_
        refine r_iload_n hC dX6_inSession_23 rfl ?_
        refine r_iaddE hC (((121 * l) + i)) dX6_inSession_24 (by first | assumption | decide | exact xs_ (by decide) | exact xc_ (by decide) | exact x31_ (by decide) | omega) (by unfold inR; omega) ?_
        refine r_iload hC dX6_inSession_25 rfl ?_
        refine r_iaddE hC ((((121 * l) + i) + w1)) dX6_inSession_27 (by first | assumption | decide | exact xs_ (by decide) | exact xc_ (by decide) | exact x31_ (by decide) | omega) (by unfold inR; omega) ?_
        refine z_iald hM dX6_inSession_28 rfl (by first | assumption | decide | exact xs_ (by decide) | exact xc_ (by decide) | exact x31_ (by decide) | omega) (by first | assumption | decide | exact xs_ (by decide) | exact xc_ (by decide) | exact x31_ (by decide) | omega) (fun v5 h_v5 o_v5 t_v5 => ?_)
        have w_v5 := ((t_v5 (Or.inl trivial)).trans ((show σ 32 0 (((121 * l) + i) + w1) = V 8 l (i + w1) from by rw [show (((121 * l) + i) + w1) = 121 * l + (i + w1) from by omega]; exact hR.1.a8 (y := (i + w1)) (by first | assumption | decide | exact xs_ (by decide) | exact xc_ (by decide) | exact x31_ (by decide) | omega) (by first | assumption | decide | exact xs_ (by decide) | exact xc_ (by decide) | exact x31_ (by decide) | omega) (by first | assumption | decide | exact xs_ (by decide) | exact xc_ (by decide) | exact x31_ (by decide) | omega) (by first | assumption | decide | exact xs_ (by decide) | exact xc_ (by decide) | exact x31_ (by decide) | omega)).trans (rfl))).symm
        clear t_v5
        subst w_v5
        refine r_aload_n hC dX6_inSession_29 rfl ?_
        refine z_getR hM dX6_inSession_30 fl_RX6_13 rfl rfl (vld_of (n := 1) rfl (by first | assumption | decide | exact xs_ (by decide) | exact xc_ (by decide) | exact x31_ (by decide) | omega) (by first | assumption | decide | exact xs_ (by decide) | exact xc_ (by decide) | exact x31_ (by decide) | omega)) ?_
        refine r_bipush hC dX6_inSession_33 rfl ?_
        refine r_iload_n hC dX6_inSession_35 rfl ?_
        refine r_imulE hC ((121 * l)) dX6_inSession_36 (by first | assumption | decide | exact xs_ (by decide) | exact xc_ (by decide) | exact x31_ (by decide) | omega) (by unfold inR; omega) ?_
        refine r_iload_n hC dX6_inSession_37 rfl ?_
        refine r_iaddE hC (((121 * l) + i)) dX6_inSession_38 (by first | assumption | decide | exact xs_ (by decide) | exact xc_ (by decide) | exact x31_ (by decide) | omega) (by unfold inR; omega) ?_
        refine r_iload hC dX6_inSession_39 rfl ?_
        refine r_iaddE hC ((((121 * l) + i) + w1)) dX6_inSession_41 (by first | assumption | decide | exact xs_ (by decide) | exact xc_ (by decide) | exact x31_ (by decide) | omega) (by unfold inR; omega) ?_
        refine r_iconst hC dX6_inSession_42 rfl ?_
        refine r_isubE hC (((((121 * l) + i) + w1) - 1)) dX6_inSession_43 (by first | assumption | decide | exact xs_ (by decide) | exact xc_ (by decide) | exact x31_ (by decide) | omega) (by unfold inR; omega) ?_
        refine z_iald hM dX6_inSession_44 rfl (by first | assumption | decide | exact xs_ (by decide) | exact xc_ (by decide) | exact x31_ (by decide) | omega) (by first | assumption | decide | exact xs_ (by decide) | exact xc_ (by decide) | exact x31_ (by decide) | omega) (fun v6 h_v6 o_v6 t_v6 => ?_)
        have w_v6 := ((t_v6 (Or.inl trivial)).trans ((show σ 32 0 ((((121 * l) + i) + w1) - 1) = V 8 l ((i + w1) - 1) from by rw [show ((((121 * l) + i) + w1) - 1) = 121 * l + ((i + w1) - 1) from by omega]; exact hR.1.a8 (y := ((i + w1) - 1)) (by first | assumption | decide | exact xs_ (by decide) | exact xc_ (by decide) | exact x31_ (by decide) | omega) (by first | assumption | decide | exact xs_ (by decide) | exact xc_ (by decide) | exact x31_ (by decide) | omega) (by first | assumption | decide | exact xs_ (by decide) | exact xc_ (by decide) | exact x31_ (by decide) | omega) (by first | assumption | decide | exact xs_ (by decide) | exact xc_ (by decide) | exact x31_ (by decide) | omega)).trans (rfl))).symm
        clear t_v6
        subst w_v6
        refine r_isub hC dX6_inSession_45 ?_
        have f7 := inR_le (inR_wr ((V 8 l (i + w1)) - (V 8 l ((i + w1) - 1))))
        refine r_iload_n hC dX6_inSession_46 rfl ?_
        refine r_icmp_gt (tgt := 56) hC dX6_inSession_47 rfl (fun h8 => ?_) (fun h8 => ?_)
        · refine r_iload hC dX6_inSession_56 rfl ?_
          refine y_iret hK rfl dX6_inSession_58 ?_
          exact k _ ⟨by omega, i0_3, fun q => by omega⟩
        · refine r_iincE hC ((w1 + 1)) dX6_inSession_50 rfl rfl (by first | assumption | decide | exact xs_ (by decide) | exact xc_ (by decide) | exact x31_ (by decide) | omega) (by unfold inR; omega) ?_
          refine r_goto (tgt := 3) hC dX6_inSession_53 rfl ?_
          exact ih3 ((w1 + 1))  (by first | assumption | decide | exact xs_ (by decide) | exact xc_ (by decide) | exact x31_ (by decide) | omega) (by first | (intro j a b; omega) | (intro j a b; rcases (by omega : j < i + w1 ∨ j = i + w1) with z | z; exact i0_3 j a z; subst z; omega)) (by first | assumption | decide | exact xs_ (by decide) | exact xc_ (by decide) | exact x31_ (by decide) | omega) (by first | assumption | decide | exact xs_ (by decide) | exact xc_ (by decide) | exact x31_ (by decide) | omega)  
  exact L3 123 (1)  (by first | assumption | decide | exact xs_ (by decide) | exact xc_ (by decide) | exact x31_ (by decide) | omega) (by first | (intro j a b; omega) | (intro j a b; rcases (by omega : j < i + w1 ∨ j = i + w1) with z | z; exact i0_3 j a z; subst z; omega)) (by first | assumption | decide | exact xs_ (by decide) | exact xc_ (by decide) | exact x31_ (by decide) | omega) (by first | assumption | decide | exact xs_ (by decide) | exact xc_ (by decide) | exact x31_ (by decide) | omega)  
theorem y_isWidth {e : Ev} {d : Nat} {P : Option Vl → Mm → Prop} {σ : Mm} {a : Int}   (k1 : (1 ≤ a ∧ a ≤ 100000) → P (some (vI 1)) σ) (k0 : ¬ (1 ≤ a ∧ a ≤ 100000) → P (some (vI 0)) σ) : WT e (d + 2) 243 [vR 30 0, vI a] σ P := by
  refine WT_in fun K hK => ?_
  have hK : StpY e cX6_isWidth RX6 (some .boolean) (WT e (d + 1)) P K := hK
  have hM := hK.1
  have hC := hK.1.1
  show K 0 [some (vR 30 0), some (vI a)] [] σ
  refine r_rngz hC (fun g0 => ?_)
  have r_a : -2147483648 ≤ a ∧ a ≤ 2147483647 := inR_le (g0 (vI a) (by simp))
  refine r_iload_n hC dX6_isWidth_0 rfl ?_
  refine r_iconst hC dX6_isWidth_1 rfl ?_
  refine r_ldc hC dX6_isWidth_2 co_RX6_239 rfl ?_
  refine z_ins3 hM dX6_isWidth_4 tl_RX6_76 rfl (Nat.le_of_ble_eq_true rfl) (Nat.le_of_ble_eq_true rfl) ?_
  refine m_isIn (fun h2 => ?_) (fun h2 => ?_)
  · refine y_zret hK rfl dX6_isWidth_7 (by first | assumption | decide | exact xs_ (by decide) | exact xc_ (by decide) | exact x31_ (by decide) | omega) ?_
    exact k1 (by first | assumption | decide | exact xs_ (by decide) | exact xc_ (by decide) | exact x31_ (by decide) | omega)
  · refine y_zret hK rfl dX6_isWidth_7 (by first | assumption | decide | exact xs_ (by decide) | exact xc_ (by decide) | exact x31_ (by decide) | omega) ?_
    exact k0 (by first | assumption | decide | exact xs_ (by decide) | exact xc_ (by decide) | exact x31_ (by decide) | omega)
theorem y_isGap {e : Ev} {d : Nat} {P : Option Vl → Mm → Prop} {σ : Mm} {a : Int}   (k1 : (0 ≤ a ∧ a ≤ 100000) → P (some (vI 1)) σ) (k0 : ¬ (0 ≤ a ∧ a ≤ 100000) → P (some (vI 0)) σ) : WT e (d + 2) 247 [vR 30 0, vI a] σ P := by
  refine WT_in fun K hK => ?_
  have hK : StpY e cX6_isGap RX6 (some .boolean) (WT e (d + 1)) P K := hK
  have hM := hK.1
  have hC := hK.1.1
  show K 0 [some (vR 30 0), some (vI a)] [] σ
  refine r_rngz hC (fun g0 => ?_)
  have r_a : -2147483648 ≤ a ∧ a ≤ 2147483647 := inR_le (g0 (vI a) (by simp))
  refine r_iload_n hC dX6_isGap_0 rfl ?_
  refine r_iconst hC dX6_isGap_1 rfl ?_
  refine r_ldc hC dX6_isGap_2 co_RX6_239 rfl ?_
  refine z_ins3 hM dX6_isGap_4 tl_RX6_76 rfl (Nat.le_of_ble_eq_true rfl) (Nat.le_of_ble_eq_true rfl) ?_
  refine m_isIn (fun h2 => ?_) (fun h2 => ?_)
  · refine y_zret hK rfl dX6_isGap_7 (by first | assumption | decide | exact xs_ (by decide) | exact xc_ (by decide) | exact x31_ (by decide) | omega) ?_
    exact k1 (by first | assumption | decide | exact xs_ (by decide) | exact xc_ (by decide) | exact x31_ (by decide) | omega)
  · refine y_zret hK rfl dX6_isGap_7 (by first | assumption | decide | exact xs_ (by decide) | exact xc_ (by decide) | exact x31_ (by decide) | omega) ?_
    exact k0 (by first | assumption | decide | exact xs_ (by decide) | exact xc_ (by decide) | exact x31_ (by decide) | omega)
theorem y_panes {eb : Bool} {t : Int} {V : Mm} {d : Nat} {P : Option Vl → Mm → Prop} {σ : Mm} {l x : Int}  {σ0 : Mm} (ht : 6 ≤ t ∧ t ≤ 7) (hR : RS t σ0 V σ) (hG : GI V)  (k : ∀ ρ : Mm, RS t σ0 V ρ → P (some (vI (pnR V l x))) ρ) : WT (true, eb, true) (d + 4) 245 [vR 30 0, vI l, vI x] σ P := by
  refine WT_in fun K hK => ?_
  have hK : StpY (true, eb, true) cX6_panes RX6 (some .int) (WT (true, eb, true) (d + 3)) P K := hK
  have hM := hK.1
  have hC := hK.1.1
  show K 0 [some (vR 30 0), some (vI l), some (vI x), none, none] [] σ
  refine r_rngz hC (fun g0 => ?_)
  have r_l : -2147483648 ≤ l ∧ l ≤ 2147483647 := inR_le (g0 (vI l) (by simp))
  have r_x : -2147483648 ≤ x ∧ x ≤ 2147483647 := inR_le (g0 (vI x) (by simp))
  have hrow := hG.2.1.2.2.1
  have h6b : 0 ≤ l → l ≤ 3 → 0 ≤ V 7 l 6 ∧ V 7 l 6 ≤ 120 := fun a b => hG.1.h7 (l := l) a (by first | assumption | decide | exact xs_ (by decide) | exact xc_ (by decide) | exact x31_ (by decide) | omega)
  refine r_aload_n hC dX6_panes_0 rfl ?_
  refine r_iload_n hC dX6_panes_1 rfl ?_
  refine z_inv1 hM dX6_panes_2 vl_RX6_124 rfl rfl rfl (Nat.le_of_ble_eq_true rfl) (Nat.le_of_ble_eq_true rfl) ?_
  refine y_isLane (V := V) ht ⟨hR.1, hR.2.1, hR.2.2⟩ (fun h1 => ?_) (fun h1 => ?_)
  · unfold opV at h1
    have h6 := h6b (by first | assumption | decide | exact xs_ (by decide) | exact xc_ (by decide) | exact x31_ (by decide) | omega) (by first | assumption | decide | exact xs_ (by decide) | exact xc_ (by decide) | exact x31_ (by decide) | omega)
    refine r_if_eq (tgt := 16) hC dX6_panes_5 rfl (fun h2 => by omega) (fun h2 => ?_)
    refine r_aload_n hC dX6_panes_8 rfl ?_
    refine r_iload_n hC dX6_panes_9 rfl ?_
    refine z_inv1 hM dX6_panes_10 vl_RX6_295 rfl rfl rfl (Nat.le_of_ble_eq_true rfl) (Nat.le_of_ble_eq_true rfl) ?_
    refine y_isWidth (fun h4 => ?_) (fun h4 => ?_)
    · refine r_if_ne (tgt := 18) hC dX6_panes_13 rfl (fun h5 => ?_) (fun h5 => by omega)
      refine r_iconst hC dX6_panes_18 rfl ?_
      refine r_istore_n hC dX6_panes_19 rfl ?_
      refine r_iconst hC dX6_panes_20 rfl ?_
      refine r_istore hC dX6_panes_21 rfl ?_
      have L23 : ∀ (n23 : Nat) (w6 w7 : Int), 0 ≤ w6 ∧ w6 ≤ 120 → 0 ≤ w7 ∧ w7 ≤ 120 → ((w6) = pnN (V 8 l) x ((w7)).toNat) → ((w7) < V 7 l 6 → pnB (V 8 l) x (w7)) → ((w7) ≤ V 7 l 6) → ((w6) ≤ (w7)) → 120 - w7 < (n23 : Int) → K 23 [some (vR 30 0), some (vI l), some (vI x), some (vI w6), some (vI w7)] [] σ := by
        intro n23
        induction n23 with
        | zero => intro w6 w7  f_w6 f_w7 i0_23 i1_23 i2_23 i3_23 hm  ; omega
        | succ n23 ih23 =>
          intro w6 w7  f_w6 f_w7 i0_23 i1_23 i2_23 i3_23 hm23  
          refine r_iload hC dX6_panes_23 rfl ?_
          refine r_aload_n hC dX6_panes_25 rfl ?_
          refine r_iload_n hC dX6_panes_26 rfl ?_
          refine z_inv1 hM dX6_panes_27 vl_RX6_116 rfl rfl rfl (Nat.le_of_ble_eq_true rfl) (Nat.le_of_ble_eq_true rfl) ?_
          refine y_heldOf (by first | assumption | decide | exact xs_ (by decide) | exact xc_ (by decide) | exact x31_ (by decide) | omega) (fun o8 => ?_)
          have e9 : σ 31 0 (22 * l + 5) = (V 7 l 6) := (hR.1.a7 (s := 6) (f := 5) (by first | assumption | decide | exact xs_ (by decide) | exact xc_ (by decide) | exact x31_ (by decide) | omega) (by first | assumption | decide | exact xs_ (by decide) | exact xc_ (by decide) | exact x31_ (by decide) | omega) (by first | assumption | decide | exact xs_ (by decide) | exact xc_ (by decide) | exact x31_ (by decide) | omega)).trans (rfl)
          rw [e9] at o8 ⊢
          have qo8 : 0 ≤ (V 7 l 6) ∧ (V 7 l 6) ≤ 121 := o8.1 (by first | assumption | decide | exact xs_ (by decide) | exact xc_ (by decide) | exact x31_ (by decide) | omega)
          refine r_icmp_ge (tgt := 52) hC dX6_panes_30 rfl (fun h10 => ?_) (fun h10 => ?_)
          · refine r_iload_n hC dX6_panes_52 rfl ?_
            refine y_iret hK rfl dX6_panes_53 ?_
            have hRr : pnR V l x = w6 := by
              unfold pnR
              rw [if_pos (by unfold pnC opV; omega), show (V 7 l 6).toNat = (w7).toNat from by omega]
              exact i0_23.symm
            rw [hRr] at k
            exact k _ ⟨hR.1, hR.2.1, hR.2.2⟩
          · refine r_iincE hC ((w6 + 1)) dX6_panes_33 rfl rfl (by first | assumption | decide | exact xs_ (by decide) | exact xc_ (by decide) | exact x31_ (by decide) | omega) (by unfold inR; omega) ?_
            refine r_iload hC dX6_panes_36 rfl ?_
            refine r_aload_n hC dX6_panes_38 rfl ?_
            refine r_iload_n hC dX6_panes_39 rfl ?_
            refine r_iload hC dX6_panes_40 rfl ?_
            refine r_iload_n hC dX6_panes_42 rfl ?_
            refine z_inv3 hM dX6_panes_43 vl_RX6_298 rfl rfl rfl (Nat.le_of_ble_eq_true rfl) (Nat.le_of_ble_eq_true rfl) ?_
            refine y_inPane (V := V) (by first | assumption | decide | exact xs_ (by decide) | exact xc_ (by decide) | exact x31_ (by decide) | omega) (by first | assumption | decide | exact xs_ (by decide) | exact xc_ (by decide) | exact x31_ (by decide) | omega) (by first | assumption | decide | exact xs_ (by decide) | exact xc_ (by decide) | exact x31_ (by decide) | omega) ht ⟨hR.1, hR.2.1, hR.2.2⟩ hG (by first | assumption | decide | exact xs_ (by decide) | exact xc_ (by decide) | exact x31_ (by decide) | omega) (fun r11 hP_43 => ?_)
            have p1_43 := hP_43.1
            refine r_iaddE hC ((w7 + r11)) dX6_panes_46 (by first | assumption | decide | exact xs_ (by decide) | exact xc_ (by decide) | exact x31_ (by decide) | omega) (by unfold inR; omega) ?_
            refine r_istore hC dX6_panes_47 rfl ?_
            refine r_goto (tgt := 23) hC dX6_panes_49 rfl ?_
            exact ih23 ((w6 + 1)) ((w7 + r11))  (by first | assumption | decide | exact xs_ (by decide) | exact xc_ (by decide) | exact x31_ (by decide) | omega) (by first | assumption | decide | exact xs_ (by decide) | exact xc_ (by decide) | exact x31_ (by decide) | omega) (by first | rfl | (rw [pn_run (by first | assumption | decide | exact xs_ (by decide) | exact xc_ (by decide) | exact x31_ (by decide) | omega) (i1_23 (by first | assumption | decide | exact xs_ (by decide) | exact xc_ (by decide) | exact x31_ (by decide) | omega)) hP_43]; omega)) (by first | (intro _; exact Or.inl rfl) | (intro q; exact hP_43.next (by first | assumption | decide | exact xs_ (by decide) | exact xc_ (by decide) | exact x31_ (by decide) | omega))) (by first | assumption | decide | exact xs_ (by decide) | exact xc_ (by decide) | exact x31_ (by decide) | omega) (by first | assumption | decide | exact xs_ (by decide) | exact xc_ (by decide) | exact x31_ (by decide) | omega) (by first | assumption | decide | exact xs_ (by decide) | exact xc_ (by decide) | exact x31_ (by decide) | omega)  
      exact L23 123 (0) (0)  (by first | assumption | decide | exact xs_ (by decide) | exact xc_ (by decide) | exact x31_ (by decide) | omega) (by first | assumption | decide | exact xs_ (by decide) | exact xc_ (by decide) | exact x31_ (by decide) | omega) (by first | rfl | (rw [pn_run (by first | assumption | decide | exact xs_ (by decide) | exact xc_ (by decide) | exact x31_ (by decide) | omega) (i1_23 (by first | assumption | decide | exact xs_ (by decide) | exact xc_ (by decide) | exact x31_ (by decide) | omega)) hP_43]; omega)) (by first | (intro _; exact Or.inl rfl) | (intro q; exact hP_43.next (by first | assumption | decide | exact xs_ (by decide) | exact xc_ (by decide) | exact x31_ (by decide) | omega))) (by first | assumption | decide | exact xs_ (by decide) | exact xc_ (by decide) | exact x31_ (by decide) | omega) (by first | assumption | decide | exact xs_ (by decide) | exact xc_ (by decide) | exact x31_ (by decide) | omega) (by first | assumption | decide | exact xs_ (by decide) | exact xc_ (by decide) | exact x31_ (by decide) | omega)  
    · refine r_if_ne (tgt := 18) hC dX6_panes_13 rfl (fun h12 => by omega) (fun h12 => ?_)
      refine r_iconst hC dX6_panes_16 rfl ?_
      refine y_iret hK rfl dX6_panes_17 ?_
      have hRr : pnR V l x = (-1) := by
        exact if_neg (by unfold pnC opV; omega)
      rw [hRr] at k
      exact k _ ⟨hR.1, hR.2.1, hR.2.2⟩
  · unfold opV at h1
    refine r_if_eq (tgt := 16) hC dX6_panes_5 rfl (fun h13 => ?_) (fun h13 => by omega)
    refine r_iconst hC dX6_panes_16 rfl ?_
    refine y_iret hK rfl dX6_panes_17 ?_
    have hRr : pnR V l x = (-1) := by
      exact if_neg (by unfold pnC opV; omega)
    rw [hRr] at k
    exact k _ ⟨hR.1, hR.2.1, hR.2.2⟩
theorem y_fullest {eb : Bool} {t : Int} {V : Mm} {d : Nat} {P : Option Vl → Mm → Prop} {σ : Mm} {l x : Int}  {σ0 : Mm} (ht : 6 ≤ t ∧ t ≤ 7) (hR : RS t σ0 V σ) (hG : GI V)  (k : ∀ ρ : Mm, RS t σ0 V ρ → P (some (vI (flR V l x))) ρ) : WT (true, eb, true) (d + 4) 246 [vR 30 0, vI l, vI x] σ P := by
  refine WT_in fun K hK => ?_
  have hK : StpY (true, eb, true) cX6_fullest RX6 (some .int) (WT (true, eb, true) (d + 3)) P K := hK
  have hM := hK.1
  have hC := hK.1.1
  show K 0 [some (vR 30 0), some (vI l), some (vI x), none, none, none] [] σ
  refine r_rngz hC (fun g0 => ?_)
  have r_l : -2147483648 ≤ l ∧ l ≤ 2147483647 := inR_le (g0 (vI l) (by simp))
  have r_x : -2147483648 ≤ x ∧ x ≤ 2147483647 := inR_le (g0 (vI x) (by simp))
  have hrow := hG.2.1.2.2.1
  have h6b : 0 ≤ l → l ≤ 3 → 0 ≤ V 7 l 6 ∧ V 7 l 6 ≤ 120 := fun a b => hG.1.h7 (l := l) a (by first | assumption | decide | exact xs_ (by decide) | exact xc_ (by decide) | exact x31_ (by decide) | omega)
  refine r_aload_n hC dX6_fullest_0 rfl ?_
  refine r_iload_n hC dX6_fullest_1 rfl ?_
  refine z_inv1 hM dX6_fullest_2 vl_RX6_124 rfl rfl rfl (Nat.le_of_ble_eq_true rfl) (Nat.le_of_ble_eq_true rfl) ?_
  refine y_isLane (V := V) ht ⟨hR.1, hR.2.1, hR.2.2⟩ (fun h1 => ?_) (fun h1 => ?_)
  · unfold opV at h1
    have h6 := h6b (by first | assumption | decide | exact xs_ (by decide) | exact xc_ (by decide) | exact x31_ (by decide) | omega) (by first | assumption | decide | exact xs_ (by decide) | exact xc_ (by decide) | exact x31_ (by decide) | omega)
    refine r_if_eq (tgt := 16) hC dX6_fullest_5 rfl (fun h2 => by omega) (fun h2 => ?_)
    refine r_aload_n hC dX6_fullest_8 rfl ?_
    refine r_iload_n hC dX6_fullest_9 rfl ?_
    refine z_inv1 hM dX6_fullest_10 vl_RX6_295 rfl rfl rfl (Nat.le_of_ble_eq_true rfl) (Nat.le_of_ble_eq_true rfl) ?_
    refine y_isWidth (fun h4 => ?_) (fun h4 => ?_)
    · refine r_if_ne (tgt := 18) hC dX6_fullest_13 rfl (fun h5 => ?_) (fun h5 => by omega)
      refine r_iconst hC dX6_fullest_18 rfl ?_
      refine r_istore_n hC dX6_fullest_19 rfl ?_
      refine r_iconst hC dX6_fullest_20 rfl ?_
      refine r_istore hC dX6_fullest_21 rfl ?_
      refine r_iconst hC dX6_fullest_23 rfl ?_
      refine r_istore hC dX6_fullest_24 rfl ?_
      have L26 : ∀ (n26 : Nat) (w6 w7 w8 : Int), -1 ≤ w6 ∧ w6 ≤ 100000 → 0 ≤ w7 ∧ w7 ≤ 120 → 0 ≤ w8 ∧ w8 ≤ 120 → ((w7) = (flN (V 8 l) x ((w8)).toNat).2.1) → ((w6) = (flN (V 8 l) x ((w8)).toNat).2.2) → ((w8) < V 7 l 6 → pnB (V 8 l) x (w8)) → ((w8) ≤ V 7 l 6) → 120 - w8 < (n26 : Int) → K 26 [some (vR 30 0), some (vI l), some (vI x), some (vI w6), some (vI w7), some (vI w8)] [] σ := by
        intro n26
        induction n26 with
        | zero => intro w6 w7 w8  f_w6 f_w7 f_w8 i0_26 i1_26 i2_26 i3_26 hm  ; omega
        | succ n26 ih26 =>
          intro w6 w7 w8  f_w6 f_w7 f_w8 i0_26 i1_26 i2_26 i3_26 hm26  
          refine r_iload hC dX6_fullest_26 rfl ?_
          refine r_aload_n hC dX6_fullest_28 rfl ?_
          refine r_iload_n hC dX6_fullest_29 rfl ?_
          refine z_inv1 hM dX6_fullest_30 vl_RX6_116 rfl rfl rfl (Nat.le_of_ble_eq_true rfl) (Nat.le_of_ble_eq_true rfl) ?_
          refine y_heldOf (by first | assumption | decide | exact xs_ (by decide) | exact xc_ (by decide) | exact x31_ (by decide) | omega) (fun o9 => ?_)
          have e10 : σ 31 0 (22 * l + 5) = (V 7 l 6) := (hR.1.a7 (s := 6) (f := 5) (by first | assumption | decide | exact xs_ (by decide) | exact xc_ (by decide) | exact x31_ (by decide) | omega) (by first | assumption | decide | exact xs_ (by decide) | exact xc_ (by decide) | exact x31_ (by decide) | omega) (by first | assumption | decide | exact xs_ (by decide) | exact xc_ (by decide) | exact x31_ (by decide) | omega)).trans (rfl)
          rw [e10] at o9 ⊢
          have qo9 : 0 ≤ (V 7 l 6) ∧ (V 7 l 6) ≤ 121 := o9.1 (by first | assumption | decide | exact xs_ (by decide) | exact xc_ (by decide) | exact x31_ (by decide) | omega)
          refine r_icmp_ge (tgt := 93) hC dX6_fullest_33 rfl (fun h11 => ?_) (fun h11 => ?_)
          · refine r_iload_n hC dX6_fullest_93 rfl ?_
            refine y_iret hK rfl dX6_fullest_94 ?_
            have hRr : flR V l x = w6 := by
              unfold flR
              rw [if_pos (by unfold pnC opV; omega), show (V 7 l 6).toNat = (w8).toNat from by omega]
              exact i1_26.symm
            rw [hRr] at k
            exact k _ ⟨hR.1, hR.2.1, hR.2.2⟩
          · refine r_aload_n hC dX6_fullest_36 rfl ?_
            refine r_iload_n hC dX6_fullest_37 rfl ?_
            refine r_iload hC dX6_fullest_38 rfl ?_
            refine r_iload_n hC dX6_fullest_40 rfl ?_
            refine z_inv3 hM dX6_fullest_41 vl_RX6_298 rfl rfl rfl (Nat.le_of_ble_eq_true rfl) (Nat.le_of_ble_eq_true rfl) ?_
            refine y_inPane (V := V) (by first | assumption | decide | exact xs_ (by decide) | exact xc_ (by decide) | exact x31_ (by decide) | omega) (by first | assumption | decide | exact xs_ (by decide) | exact xc_ (by decide) | exact x31_ (by decide) | omega) (by first | assumption | decide | exact xs_ (by decide) | exact xc_ (by decide) | exact x31_ (by decide) | omega) ht ⟨hR.1, hR.2.1, hR.2.2⟩ hG (by first | assumption | decide | exact xs_ (by decide) | exact xc_ (by decide) | exact x31_ (by decide) | omega) (fun r12 hP_41 => ?_)
            have p1_41 := hP_41.1
            refine r_iload hC dX6_fullest_44 rfl ?_
            refine r_icmp_gt (tgt := 52) hC dX6_fullest_46 rfl (fun h13 => ?_) (fun h13 => ?_)
            · refine r_aload_n hC dX6_fullest_52 rfl ?_
              refine r_iload_n hC dX6_fullest_53 rfl ?_
              refine r_iload hC dX6_fullest_54 rfl ?_
              refine r_iload_n hC dX6_fullest_56 rfl ?_
              refine z_inv3 hM dX6_fullest_57 vl_RX6_298 rfl rfl rfl (Nat.le_of_ble_eq_true rfl) (Nat.le_of_ble_eq_true rfl) ?_
              refine y_inPane (V := V) (by first | assumption | decide | exact xs_ (by decide) | exact xc_ (by decide) | exact x31_ (by decide) | omega) (by first | assumption | decide | exact xs_ (by decide) | exact xc_ (by decide) | exact x31_ (by decide) | omega) (by first | assumption | decide | exact xs_ (by decide) | exact xc_ (by decide) | exact x31_ (by decide) | omega) ht ⟨hR.1, hR.2.1, hR.2.2⟩ hG (by first | assumption | decide | exact xs_ (by decide) | exact xc_ (by decide) | exact x31_ (by decide) | omega) (fun r14 hP_57 => ?_)
              have p1_57 := hP_57.1
              refine r_istore hC dX6_fullest_60 rfl ?_
              refine r_aload_n hC dX6_fullest_62 rfl ?_
              refine z_getR hM dX6_fullest_63 fl_RX6_13 rfl rfl (vld_of (n := 1) rfl (by first | assumption | decide | exact xs_ (by decide) | exact xc_ (by decide) | exact x31_ (by decide) | omega) (by first | assumption | decide | exact xs_ (by decide) | exact xc_ (by decide) | exact x31_ (by decide) | omega)) ?_
              refine r_bipush hC dX6_fullest_66 rfl ?_
              refine r_iload_n hC dX6_fullest_68 rfl ?_
              refine r_imulE hC ((121 * l)) dX6_fullest_69 (by first | assumption | decide | exact xs_ (by decide) | exact xc_ (by decide) | exact x31_ (by decide) | omega) (by unfold inR; omega) ?_
              refine r_iload hC dX6_fullest_70 rfl ?_
              refine r_iaddE hC (((121 * l) + w8)) dX6_fullest_72 (by first | assumption | decide | exact xs_ (by decide) | exact xc_ (by decide) | exact x31_ (by decide) | omega) (by unfold inR; omega) ?_
              refine z_iald hM dX6_fullest_73 rfl (by first | assumption | decide | exact xs_ (by decide) | exact xc_ (by decide) | exact x31_ (by decide) | omega) (by first | assumption | decide | exact xs_ (by decide) | exact xc_ (by decide) | exact x31_ (by decide) | omega) (fun v15 h_v15 o_v15 t_v15 => ?_)
              have w_v15 := ((t_v15 (Or.inl trivial)).trans ((show σ 32 0 ((121 * l) + w8) = V 8 l w8 from by rw [show ((121 * l) + w8) = 121 * l + w8 from by omega]; exact hR.1.a8 (y := w8) (by first | assumption | decide | exact xs_ (by decide) | exact xc_ (by decide) | exact x31_ (by decide) | omega) (by first | assumption | decide | exact xs_ (by decide) | exact xc_ (by decide) | exact x31_ (by decide) | omega) (by first | assumption | decide | exact xs_ (by decide) | exact xc_ (by decide) | exact x31_ (by decide) | omega) (by first | assumption | decide | exact xs_ (by decide) | exact xc_ (by decide) | exact x31_ (by decide) | omega)).trans (rfl))).symm
              clear t_v15
              subst w_v15
              have ht_74 := (hrow l w8 (by first | assumption | decide | exact xs_ (by decide) | exact xc_ (by decide) | exact x31_ (by decide) | omega) (by first | assumption | decide | exact xs_ (by decide) | exact xc_ (by decide) | exact x31_ (by decide) | omega) (by first | assumption | decide | exact xs_ (by decide) | exact xc_ (by decide) | exact x31_ (by decide) | omega) (by first | assumption | decide | exact xs_ (by decide) | exact xc_ (by decide) | exact x31_ (by decide) | omega)).1
              refine r_iload_n hC dX6_fullest_74 rfl ?_
              refine r_idivN hC dX6_fullest_75 (by first | assumption | decide | exact xs_ (by decide) | exact xc_ (by decide) | exact x31_ (by decide) | omega) (by first | assumption | decide | exact xs_ (by decide) | exact xc_ (by decide) | exact x31_ (by decide) | omega) ?_
              have f_v16 := idiv_fr (a := (V 8 l w8)) (b := x) (by first | assumption | decide | exact xs_ (by decide) | exact xc_ (by decide) | exact x31_ (by decide) | omega) (by first | assumption | decide | exact xs_ (by decide) | exact xc_ (by decide) | exact x31_ (by decide) | omega)
              refine r_istore_n hC dX6_fullest_76 rfl ?_
              refine r_iload hC dX6_fullest_77 rfl ?_
              refine r_aload_n hC dX6_fullest_79 rfl ?_
              refine r_iload_n hC dX6_fullest_80 rfl ?_
              refine r_iload hC dX6_fullest_81 rfl ?_
              refine r_iload_n hC dX6_fullest_83 rfl ?_
              refine z_inv3 hM dX6_fullest_84 vl_RX6_298 rfl rfl rfl (Nat.le_of_ble_eq_true rfl) (Nat.le_of_ble_eq_true rfl) ?_
              refine y_inPane (V := V) (by first | assumption | decide | exact xs_ (by decide) | exact xc_ (by decide) | exact x31_ (by decide) | omega) (by first | assumption | decide | exact xs_ (by decide) | exact xc_ (by decide) | exact x31_ (by decide) | omega) (by first | assumption | decide | exact xs_ (by decide) | exact xc_ (by decide) | exact x31_ (by decide) | omega) ht ⟨hR.1, hR.2.1, hR.2.2⟩ hG (by first | assumption | decide | exact xs_ (by decide) | exact xc_ (by decide) | exact x31_ (by decide) | omega) (fun r17 hP_84 => ?_)
              have p1_84 := hP_84.1
              refine r_iaddE hC ((w8 + r17)) dX6_fullest_87 (by first | assumption | decide | exact xs_ (by decide) | exact xc_ (by decide) | exact x31_ (by decide) | omega) (by unfold inR; omega) ?_
              refine r_istore hC dX6_fullest_88 rfl ?_
              show K _ [_, _, _, _, _, _] _ _
              refine r_goto (tgt := 26) hC dX6_fullest_90 rfl ?_
              exact ih26 (((V 8 l w8) / x)) (r14) ((w8 + r17))  (by first | assumption | decide | exact xs_ (by decide) | exact xc_ (by decide) | exact x31_ (by decide) | omega) (by first | assumption | decide | exact xs_ (by decide) | exact xc_ (by decide) | exact x31_ (by decide) | omega) (by first | assumption | decide | exact xs_ (by decide) | exact xc_ (by decide) | exact x31_ (by decide) | omega) (by first | rfl | (rw [fl_run (by first | assumption | decide | exact xs_ (by decide) | exact xc_ (by decide) | exact x31_ (by decide) | omega) (i2_26 (by first | assumption | decide | exact xs_ (by decide) | exact xc_ (by decide) | exact x31_ (by decide) | omega)) hP_84 (flN_b (T := V 8 l) (w := x) (w8).toNat).2.1]; dsimp only; simp only [← i0_26, ← i1_26]; have u1 := hP_84.u hP_41; first | ((repeat' split) <;> omega) | (have u2 := hP_57.u hP_41; (repeat' split) <;> omega))) (by first | rfl | (rw [fl_run (by first | assumption | decide | exact xs_ (by decide) | exact xc_ (by decide) | exact x31_ (by decide) | omega) (i2_26 (by first | assumption | decide | exact xs_ (by decide) | exact xc_ (by decide) | exact x31_ (by decide) | omega)) hP_84 (flN_b (T := V 8 l) (w := x) (w8).toNat).2.1]; dsimp only; simp only [← i0_26, ← i1_26]; have u1 := hP_84.u hP_41; first | ((repeat' split) <;> omega) | (have u2 := hP_57.u hP_41; (repeat' split) <;> omega))) (by first | (intro _; exact Or.inl rfl) | (intro q; exact hP_84.next (by first | assumption | decide | exact xs_ (by decide) | exact xc_ (by decide) | exact x31_ (by decide) | omega))) (by first | assumption | decide | exact xs_ (by decide) | exact xc_ (by decide) | exact x31_ (by decide) | omega) (by first | assumption | decide | exact xs_ (by decide) | exact xc_ (by decide) | exact x31_ (by decide) | omega)  
            · refine r_goto (tgt := 77) hC dX6_fullest_49 rfl ?_
              refine r_iload hC dX6_fullest_77 rfl ?_
              refine r_aload_n hC dX6_fullest_79 rfl ?_
              refine r_iload_n hC dX6_fullest_80 rfl ?_
              refine r_iload hC dX6_fullest_81 rfl ?_
              refine r_iload_n hC dX6_fullest_83 rfl ?_
              refine z_inv3 hM dX6_fullest_84 vl_RX6_298 rfl rfl rfl (Nat.le_of_ble_eq_true rfl) (Nat.le_of_ble_eq_true rfl) ?_
              refine y_inPane (V := V) (by first | assumption | decide | exact xs_ (by decide) | exact xc_ (by decide) | exact x31_ (by decide) | omega) (by first | assumption | decide | exact xs_ (by decide) | exact xc_ (by decide) | exact x31_ (by decide) | omega) (by first | assumption | decide | exact xs_ (by decide) | exact xc_ (by decide) | exact x31_ (by decide) | omega) ht ⟨hR.1, hR.2.1, hR.2.2⟩ hG (by first | assumption | decide | exact xs_ (by decide) | exact xc_ (by decide) | exact x31_ (by decide) | omega) (fun r18 hP_84 => ?_)
              have p1_84 := hP_84.1
              refine r_iaddE hC ((w8 + r18)) dX6_fullest_87 (by first | assumption | decide | exact xs_ (by decide) | exact xc_ (by decide) | exact x31_ (by decide) | omega) (by unfold inR; omega) ?_
              refine r_istore hC dX6_fullest_88 rfl ?_
              refine r_goto (tgt := 26) hC dX6_fullest_90 rfl ?_
              exact ih26 (w6) (w7) ((w8 + r18))  (by first | assumption | decide | exact xs_ (by decide) | exact xc_ (by decide) | exact x31_ (by decide) | omega) (by first | assumption | decide | exact xs_ (by decide) | exact xc_ (by decide) | exact x31_ (by decide) | omega) (by first | assumption | decide | exact xs_ (by decide) | exact xc_ (by decide) | exact x31_ (by decide) | omega) (by first | rfl | (rw [fl_run (by first | assumption | decide | exact xs_ (by decide) | exact xc_ (by decide) | exact x31_ (by decide) | omega) (i2_26 (by first | assumption | decide | exact xs_ (by decide) | exact xc_ (by decide) | exact x31_ (by decide) | omega)) hP_84 (flN_b (T := V 8 l) (w := x) (w8).toNat).2.1]; dsimp only; simp only [← i0_26, ← i1_26]; have u1 := hP_84.u hP_41; first | ((repeat' split) <;> omega) | (have u2 := hP_57.u hP_41; (repeat' split) <;> omega))) (by first | rfl | (rw [fl_run (by first | assumption | decide | exact xs_ (by decide) | exact xc_ (by decide) | exact x31_ (by decide) | omega) (i2_26 (by first | assumption | decide | exact xs_ (by decide) | exact xc_ (by decide) | exact x31_ (by decide) | omega)) hP_84 (flN_b (T := V 8 l) (w := x) (w8).toNat).2.1]; dsimp only; simp only [← i0_26, ← i1_26]; have u1 := hP_84.u hP_41; first | ((repeat' split) <;> omega) | (have u2 := hP_57.u hP_41; (repeat' split) <;> omega))) (by first | (intro _; exact Or.inl rfl) | (intro q; exact hP_84.next (by first | assumption | decide | exact xs_ (by decide) | exact xc_ (by decide) | exact x31_ (by decide) | omega))) (by first | assumption | decide | exact xs_ (by decide) | exact xc_ (by decide) | exact x31_ (by decide) | omega) (by first | assumption | decide | exact xs_ (by decide) | exact xc_ (by decide) | exact x31_ (by decide) | omega)  
      exact L26 123 ((-1)) (0) (0)  (by first | assumption | decide | exact xs_ (by decide) | exact xc_ (by decide) | exact x31_ (by decide) | omega) (by first | assumption | decide | exact xs_ (by decide) | exact xc_ (by decide) | exact x31_ (by decide) | omega) (by first | assumption | decide | exact xs_ (by decide) | exact xc_ (by decide) | exact x31_ (by decide) | omega) (by first | rfl | (rw [fl_run (by first | assumption | decide | exact xs_ (by decide) | exact xc_ (by decide) | exact x31_ (by decide) | omega) (i2_26 (by first | assumption | decide | exact xs_ (by decide) | exact xc_ (by decide) | exact x31_ (by decide) | omega)) hP_84 (flN_b (T := V 8 l) (w := x) (w8).toNat).2.1]; dsimp only; simp only [← i0_26, ← i1_26]; have u1 := hP_84.u hP_41; first | ((repeat' split) <;> omega) | (have u2 := hP_57.u hP_41; (repeat' split) <;> omega))) (by first | rfl | (rw [fl_run (by first | assumption | decide | exact xs_ (by decide) | exact xc_ (by decide) | exact x31_ (by decide) | omega) (i2_26 (by first | assumption | decide | exact xs_ (by decide) | exact xc_ (by decide) | exact x31_ (by decide) | omega)) hP_84 (flN_b (T := V 8 l) (w := x) (w8).toNat).2.1]; dsimp only; simp only [← i0_26, ← i1_26]; have u1 := hP_84.u hP_41; first | ((repeat' split) <;> omega) | (have u2 := hP_57.u hP_41; (repeat' split) <;> omega))) (by first | (intro _; exact Or.inl rfl) | (intro q; exact hP_84.next (by first | assumption | decide | exact xs_ (by decide) | exact xc_ (by decide) | exact x31_ (by decide) | omega))) (by first | assumption | decide | exact xs_ (by decide) | exact xc_ (by decide) | exact x31_ (by decide) | omega) (by first | assumption | decide | exact xs_ (by decide) | exact xc_ (by decide) | exact x31_ (by decide) | omega)  
    · refine r_if_ne (tgt := 18) hC dX6_fullest_13 rfl (fun h19 => by omega) (fun h19 => ?_)
      refine r_iconst hC dX6_fullest_16 rfl ?_
      refine y_iret hK rfl dX6_fullest_17 ?_
      have hRr : flR V l x = (-1) := by
        exact if_neg (by unfold pnC opV; omega)
      rw [hRr] at k
      exact k _ ⟨hR.1, hR.2.1, hR.2.2⟩
  · unfold opV at h1
    refine r_if_eq (tgt := 16) hC dX6_fullest_5 rfl (fun h20 => ?_) (fun h20 => by omega)
    refine r_iconst hC dX6_fullest_16 rfl ?_
    refine y_iret hK rfl dX6_fullest_17 ?_
    have hRr : flR V l x = (-1) := by
      exact if_neg (by unfold pnC opV; omega)
    rw [hRr] at k
    exact k _ ⟨hR.1, hR.2.1, hR.2.2⟩
theorem y_sessions {eb : Bool} {t : Int} {V : Mm} {d : Nat} {P : Option Vl → Mm → Prop} {σ : Mm} {l x : Int}  {σ0 : Mm} (ht : 6 ≤ t ∧ t ≤ 7) (hR : RS t σ0 V σ) (hG : GI V)  (k : ∀ ρ : Mm, RS t σ0 V ρ → P (some (vI (ssR V l x))) ρ) : WT (true, eb, true) (d + 4) 249 [vR 30 0, vI l, vI x] σ P := by
  refine WT_in fun K hK => ?_
  have hK : StpY (true, eb, true) cX6_sessions RX6 (some .int) (WT (true, eb, true) (d + 3)) P K := hK
  have hM := hK.1
  have hC := hK.1.1
  show K 0 [some (vR 30 0), some (vI l), some (vI x), none, none] [] σ
  refine r_rngz hC (fun g0 => ?_)
  have r_l : -2147483648 ≤ l ∧ l ≤ 2147483647 := inR_le (g0 (vI l) (by simp))
  have r_x : -2147483648 ≤ x ∧ x ≤ 2147483647 := inR_le (g0 (vI x) (by simp))
  have hrow := hG.2.1.2.2.1
  have h6b : 0 ≤ l → l ≤ 3 → 0 ≤ V 7 l 6 ∧ V 7 l 6 ≤ 120 := fun a b => hG.1.h7 (l := l) a (by first | assumption | decide | exact xs_ (by decide) | exact xc_ (by decide) | exact x31_ (by decide) | omega)
  refine r_aload_n hC dX6_sessions_0 rfl ?_
  refine r_iload_n hC dX6_sessions_1 rfl ?_
  refine z_inv1 hM dX6_sessions_2 vl_RX6_124 rfl rfl rfl (Nat.le_of_ble_eq_true rfl) (Nat.le_of_ble_eq_true rfl) ?_
  refine y_isLane (V := V) ht ⟨hR.1, hR.2.1, hR.2.2⟩ (fun h1 => ?_) (fun h1 => ?_)
  · unfold opV at h1
    have h6 := h6b (by first | assumption | decide | exact xs_ (by decide) | exact xc_ (by decide) | exact x31_ (by decide) | omega) (by first | assumption | decide | exact xs_ (by decide) | exact xc_ (by decide) | exact x31_ (by decide) | omega)
    refine r_if_eq (tgt := 16) hC dX6_sessions_5 rfl (fun h2 => by omega) (fun h2 => ?_)
    refine r_aload_n hC dX6_sessions_8 rfl ?_
    refine r_iload_n hC dX6_sessions_9 rfl ?_
    refine z_inv1 hM dX6_sessions_10 vl_RX6_301 rfl rfl rfl (Nat.le_of_ble_eq_true rfl) (Nat.le_of_ble_eq_true rfl) ?_
    refine y_isGap (fun h4 => ?_) (fun h4 => ?_)
    · refine r_if_ne (tgt := 18) hC dX6_sessions_13 rfl (fun h5 => ?_) (fun h5 => by omega)
      refine r_iconst hC dX6_sessions_18 rfl ?_
      refine r_istore_n hC dX6_sessions_19 rfl ?_
      refine r_iconst hC dX6_sessions_20 rfl ?_
      refine r_istore hC dX6_sessions_21 rfl ?_
      have L23 : ∀ (n23 : Nat) (w6 w7 : Int), 0 ≤ w6 ∧ w6 ≤ 120 → 0 ≤ w7 ∧ w7 ≤ 120 → ((w6) = ssN (V 8 l) x ((w7)).toNat) → ((w7) < V 7 l 6 → ssB (V 8 l) x (w7)) → ((w7) ≤ V 7 l 6) → ((w6) ≤ (w7)) → 120 - w7 < (n23 : Int) → K 23 [some (vR 30 0), some (vI l), some (vI x), some (vI w6), some (vI w7)] [] σ := by
        intro n23
        induction n23 with
        | zero => intro w6 w7  f_w6 f_w7 i0_23 i1_23 i2_23 i3_23 hm  ; omega
        | succ n23 ih23 =>
          intro w6 w7  f_w6 f_w7 i0_23 i1_23 i2_23 i3_23 hm23  
          refine r_iload hC dX6_sessions_23 rfl ?_
          refine r_aload_n hC dX6_sessions_25 rfl ?_
          refine r_iload_n hC dX6_sessions_26 rfl ?_
          refine z_inv1 hM dX6_sessions_27 vl_RX6_116 rfl rfl rfl (Nat.le_of_ble_eq_true rfl) (Nat.le_of_ble_eq_true rfl) ?_
          refine y_heldOf (by first | assumption | decide | exact xs_ (by decide) | exact xc_ (by decide) | exact x31_ (by decide) | omega) (fun o8 => ?_)
          have e9 : σ 31 0 (22 * l + 5) = (V 7 l 6) := (hR.1.a7 (s := 6) (f := 5) (by first | assumption | decide | exact xs_ (by decide) | exact xc_ (by decide) | exact x31_ (by decide) | omega) (by first | assumption | decide | exact xs_ (by decide) | exact xc_ (by decide) | exact x31_ (by decide) | omega) (by first | assumption | decide | exact xs_ (by decide) | exact xc_ (by decide) | exact x31_ (by decide) | omega)).trans (rfl)
          rw [e9] at o8 ⊢
          have qo8 : 0 ≤ (V 7 l 6) ∧ (V 7 l 6) ≤ 121 := o8.1 (by first | assumption | decide | exact xs_ (by decide) | exact xc_ (by decide) | exact x31_ (by decide) | omega)
          refine r_icmp_ge (tgt := 52) hC dX6_sessions_30 rfl (fun h10 => ?_) (fun h10 => ?_)
          · refine r_iload_n hC dX6_sessions_52 rfl ?_
            refine y_iret hK rfl dX6_sessions_53 ?_
            have hRr : ssR V l x = w6 := by
              unfold ssR
              rw [if_pos (by unfold gaC opV; omega), show (V 7 l 6).toNat = (w7).toNat from by omega]
              exact i0_23.symm
            rw [hRr] at k
            exact k _ ⟨hR.1, hR.2.1, hR.2.2⟩
          · refine r_iincE hC ((w6 + 1)) dX6_sessions_33 rfl rfl (by first | assumption | decide | exact xs_ (by decide) | exact xc_ (by decide) | exact x31_ (by decide) | omega) (by unfold inR; omega) ?_
            refine r_iload hC dX6_sessions_36 rfl ?_
            refine r_aload_n hC dX6_sessions_38 rfl ?_
            refine r_iload_n hC dX6_sessions_39 rfl ?_
            refine r_iload hC dX6_sessions_40 rfl ?_
            refine r_iload_n hC dX6_sessions_42 rfl ?_
            refine z_inv3 hM dX6_sessions_43 vl_RX6_304 rfl rfl rfl (Nat.le_of_ble_eq_true rfl) (Nat.le_of_ble_eq_true rfl) ?_
            refine y_inSession (V := V) (by first | assumption | decide | exact xs_ (by decide) | exact xc_ (by decide) | exact x31_ (by decide) | omega) (by first | assumption | decide | exact xs_ (by decide) | exact xc_ (by decide) | exact x31_ (by decide) | omega) (by first | assumption | decide | exact xs_ (by decide) | exact xc_ (by decide) | exact x31_ (by decide) | omega) ht ⟨hR.1, hR.2.1, hR.2.2⟩ hG (by first | assumption | decide | exact xs_ (by decide) | exact xc_ (by decide) | exact x31_ (by decide) | omega) (fun r11 hP_43 => ?_)
            have p1_43 := hP_43.1
            refine r_iaddE hC ((w7 + r11)) dX6_sessions_46 (by first | assumption | decide | exact xs_ (by decide) | exact xc_ (by decide) | exact x31_ (by decide) | omega) (by unfold inR; omega) ?_
            refine r_istore hC dX6_sessions_47 rfl ?_
            refine r_goto (tgt := 23) hC dX6_sessions_49 rfl ?_
            exact ih23 ((w6 + 1)) ((w7 + r11))  (by first | assumption | decide | exact xs_ (by decide) | exact xc_ (by decide) | exact x31_ (by decide) | omega) (by first | assumption | decide | exact xs_ (by decide) | exact xc_ (by decide) | exact x31_ (by decide) | omega) (by first | rfl | (rw [ss_run (by first | assumption | decide | exact xs_ (by decide) | exact xc_ (by decide) | exact x31_ (by decide) | omega) (i1_23 (by first | assumption | decide | exact xs_ (by decide) | exact xc_ (by decide) | exact x31_ (by decide) | omega)) hP_43]; omega)) (by first | (intro _; exact Or.inl rfl) | (intro q; exact hP_43.next (by first | assumption | decide | exact xs_ (by decide) | exact xc_ (by decide) | exact x31_ (by decide) | omega))) (by first | assumption | decide | exact xs_ (by decide) | exact xc_ (by decide) | exact x31_ (by decide) | omega) (by first | assumption | decide | exact xs_ (by decide) | exact xc_ (by decide) | exact x31_ (by decide) | omega) (by first | assumption | decide | exact xs_ (by decide) | exact xc_ (by decide) | exact x31_ (by decide) | omega)  
      exact L23 123 (0) (0)  (by first | assumption | decide | exact xs_ (by decide) | exact xc_ (by decide) | exact x31_ (by decide) | omega) (by first | assumption | decide | exact xs_ (by decide) | exact xc_ (by decide) | exact x31_ (by decide) | omega) (by first | rfl | (rw [ss_run (by first | assumption | decide | exact xs_ (by decide) | exact xc_ (by decide) | exact x31_ (by decide) | omega) (i1_23 (by first | assumption | decide | exact xs_ (by decide) | exact xc_ (by decide) | exact x31_ (by decide) | omega)) hP_43]; omega)) (by first | (intro _; exact Or.inl rfl) | (intro q; exact hP_43.next (by first | assumption | decide | exact xs_ (by decide) | exact xc_ (by decide) | exact x31_ (by decide) | omega))) (by first | assumption | decide | exact xs_ (by decide) | exact xc_ (by decide) | exact x31_ (by decide) | omega) (by first | assumption | decide | exact xs_ (by decide) | exact xc_ (by decide) | exact x31_ (by decide) | omega) (by first | assumption | decide | exact xs_ (by decide) | exact xc_ (by decide) | exact x31_ (by decide) | omega)  
    · refine r_if_ne (tgt := 18) hC dX6_sessions_13 rfl (fun h12 => by omega) (fun h12 => ?_)
      refine r_iconst hC dX6_sessions_16 rfl ?_
      refine y_iret hK rfl dX6_sessions_17 ?_
      have hRr : ssR V l x = (-1) := by
        exact if_neg (by unfold gaC opV; omega)
      rw [hRr] at k
      exact k _ ⟨hR.1, hR.2.1, hR.2.2⟩
  · unfold opV at h1
    refine r_if_eq (tgt := 16) hC dX6_sessions_5 rfl (fun h13 => ?_) (fun h13 => by omega)
    refine r_iconst hC dX6_sessions_16 rfl ?_
    refine y_iret hK rfl dX6_sessions_17 ?_
    have hRr : ssR V l x = (-1) := by
      exact if_neg (by unfold gaC opV; omega)
    rw [hRr] at k
    exact k _ ⟨hR.1, hR.2.1, hR.2.2⟩
theorem y_longest {eb : Bool} {t : Int} {V : Mm} {d : Nat} {P : Option Vl → Mm → Prop} {σ : Mm} {l x : Int}  {σ0 : Mm} (ht : 6 ≤ t ∧ t ≤ 7) (hR : RS t σ0 V σ) (hG : GI V)  (k : ∀ ρ : Mm, RS t σ0 V ρ → P (some (vI (loR V l x))) ρ) : WT (true, eb, true) (d + 4) 251 [vR 30 0, vI l, vI x] σ P := by
  refine WT_in fun K hK => ?_
  have hK : StpY (true, eb, true) cX6_longest RX6 (some .int) (WT (true, eb, true) (d + 3)) P K := hK
  have hM := hK.1
  have hC := hK.1.1
  show K 0 [some (vR 30 0), some (vI l), some (vI x), none, none, none, none] [] σ
  refine r_rngz hC (fun g0 => ?_)
  have r_l : -2147483648 ≤ l ∧ l ≤ 2147483647 := inR_le (g0 (vI l) (by simp))
  have r_x : -2147483648 ≤ x ∧ x ≤ 2147483647 := inR_le (g0 (vI x) (by simp))
  have hrow := hG.2.1.2.2.1
  have h6b : 0 ≤ l → l ≤ 3 → 0 ≤ V 7 l 6 ∧ V 7 l 6 ≤ 120 := fun a b => hG.1.h7 (l := l) a (by first | assumption | decide | exact xs_ (by decide) | exact xc_ (by decide) | exact x31_ (by decide) | omega)
  refine r_aload_n hC dX6_longest_0 rfl ?_
  refine r_iload_n hC dX6_longest_1 rfl ?_
  refine z_inv1 hM dX6_longest_2 vl_RX6_124 rfl rfl rfl (Nat.le_of_ble_eq_true rfl) (Nat.le_of_ble_eq_true rfl) ?_
  refine y_isLane (V := V) ht ⟨hR.1, hR.2.1, hR.2.2⟩ (fun h1 => ?_) (fun h1 => ?_)
  · unfold opV at h1
    have h6 := h6b (by first | assumption | decide | exact xs_ (by decide) | exact xc_ (by decide) | exact x31_ (by decide) | omega) (by first | assumption | decide | exact xs_ (by decide) | exact xc_ (by decide) | exact x31_ (by decide) | omega)
    refine r_if_eq (tgt := 16) hC dX6_longest_5 rfl (fun h2 => by omega) (fun h2 => ?_)
    refine r_aload_n hC dX6_longest_8 rfl ?_
    refine r_iload_n hC dX6_longest_9 rfl ?_
    refine z_inv1 hM dX6_longest_10 vl_RX6_301 rfl rfl rfl (Nat.le_of_ble_eq_true rfl) (Nat.le_of_ble_eq_true rfl) ?_
    refine y_isGap (fun h4 => ?_) (fun h4 => ?_)
    · refine r_if_ne (tgt := 18) hC dX6_longest_13 rfl (fun h5 => ?_) (fun h5 => by omega)
      refine r_iconst hC dX6_longest_18 rfl ?_
      refine r_istore_n hC dX6_longest_19 rfl ?_
      refine r_iconst hC dX6_longest_20 rfl ?_
      refine r_istore hC dX6_longest_21 rfl ?_
      refine r_iconst hC dX6_longest_23 rfl ?_
      refine r_istore hC dX6_longest_24 rfl ?_
      show K _ [_, _, _, _, _, _, _] _ _
      refine r_iconst hC dX6_longest_26 rfl ?_
      refine r_istore hC dX6_longest_27 rfl ?_
      have L29 : ∀ (n29 : Nat) (w6 w7 w8 w9 : Int), -1 ≤ w6 ∧ w6 ≤ 120 → 0 ≤ w7 ∧ w7 ≤ 120 → 0 ≤ w8 ∧ w8 ≤ 120 → 0 ≤ w9 ∧ w9 ≤ 120 → ((w8) = (loN (V 8 l) x ((w9)).toNat).1) → ((w7) = (loN (V 8 l) x ((w9)).toNat).2.2.1) → ((w6) = (loN (V 8 l) x ((w9)).toNat).2.2.2) → ((w9) < V 7 l 6 → ssB (V 8 l) x (w9)) → ((w9) ≤ V 7 l 6) → ((w8) ≤ (w9)) → ((w6) ≤ (w8)) → 120 - w9 < (n29 : Int) → K 29 [some (vR 30 0), some (vI l), some (vI x), some (vI w6), some (vI w7), some (vI w8), some (vI w9)] [] σ := by
        intro n29
        induction n29 with
        | zero => intro w6 w7 w8 w9  f_w6 f_w7 f_w8 f_w9 i0_29 i1_29 i2_29 i3_29 i4_29 i5_29 i6_29 hm  ; omega
        | succ n29 ih29 =>
          intro w6 w7 w8 w9  f_w6 f_w7 f_w8 f_w9 i0_29 i1_29 i2_29 i3_29 i4_29 i5_29 i6_29 hm29  
          refine r_iload hC dX6_longest_29 rfl ?_
          refine r_aload_n hC dX6_longest_31 rfl ?_
          refine r_iload_n hC dX6_longest_32 rfl ?_
          refine z_inv1 hM dX6_longest_33 vl_RX6_116 rfl rfl rfl (Nat.le_of_ble_eq_true rfl) (Nat.le_of_ble_eq_true rfl) ?_
          refine y_heldOf (by first | assumption | decide | exact xs_ (by decide) | exact xc_ (by decide) | exact x31_ (by decide) | omega) (fun o10 => ?_)
          have e11 : σ 31 0 (22 * l + 5) = (V 7 l 6) := (hR.1.a7 (s := 6) (f := 5) (by first | assumption | decide | exact xs_ (by decide) | exact xc_ (by decide) | exact x31_ (by decide) | omega) (by first | assumption | decide | exact xs_ (by decide) | exact xc_ (by decide) | exact x31_ (by decide) | omega) (by first | assumption | decide | exact xs_ (by decide) | exact xc_ (by decide) | exact x31_ (by decide) | omega)).trans (rfl)
          rw [e11] at o10 ⊢
          have qo10 : 0 ≤ (V 7 l 6) ∧ (V 7 l 6) ≤ 121 := o10.1 (by first | assumption | decide | exact xs_ (by decide) | exact xc_ (by decide) | exact x31_ (by decide) | omega)
          refine r_icmp_ge (tgt := 84) hC dX6_longest_36 rfl (fun h12 => ?_) (fun h12 => ?_)
          · refine r_iload_n hC dX6_longest_84 rfl ?_
            refine y_iret hK rfl dX6_longest_85 ?_
            have hRr : loR V l x = w6 := by
              unfold loR
              rw [if_pos (by unfold gaC opV; omega), show (V 7 l 6).toNat = (w9).toNat from by omega]
              exact i2_29.symm
            rw [hRr] at k
            exact k _ ⟨hR.1, hR.2.1, hR.2.2⟩
          · refine r_aload_n hC dX6_longest_39 rfl ?_
            refine r_iload_n hC dX6_longest_40 rfl ?_
            refine r_iload hC dX6_longest_41 rfl ?_
            refine r_iload_n hC dX6_longest_43 rfl ?_
            refine z_inv3 hM dX6_longest_44 vl_RX6_304 rfl rfl rfl (Nat.le_of_ble_eq_true rfl) (Nat.le_of_ble_eq_true rfl) ?_
            refine y_inSession (V := V) (by first | assumption | decide | exact xs_ (by decide) | exact xc_ (by decide) | exact x31_ (by decide) | omega) (by first | assumption | decide | exact xs_ (by decide) | exact xc_ (by decide) | exact x31_ (by decide) | omega) (by first | assumption | decide | exact xs_ (by decide) | exact xc_ (by decide) | exact x31_ (by decide) | omega) ht ⟨hR.1, hR.2.1, hR.2.2⟩ hG (by first | assumption | decide | exact xs_ (by decide) | exact xc_ (by decide) | exact x31_ (by decide) | omega) (fun r13 hP_44 => ?_)
            have p1_44 := hP_44.1
            refine r_iload hC dX6_longest_47 rfl ?_
            refine r_icmp_le (tgt := 65) hC dX6_longest_49 rfl (fun h14 => ?_) (fun h14 => ?_)
            · refine r_iincE hC ((w8 + 1)) dX6_longest_65 rfl rfl (by first | assumption | decide | exact xs_ (by decide) | exact xc_ (by decide) | exact x31_ (by decide) | omega) (by unfold inR; omega) ?_
              refine r_iload hC dX6_longest_68 rfl ?_
              refine r_aload_n hC dX6_longest_70 rfl ?_
              refine r_iload_n hC dX6_longest_71 rfl ?_
              refine r_iload hC dX6_longest_72 rfl ?_
              refine r_iload_n hC dX6_longest_74 rfl ?_
              refine z_inv3 hM dX6_longest_75 vl_RX6_304 rfl rfl rfl (Nat.le_of_ble_eq_true rfl) (Nat.le_of_ble_eq_true rfl) ?_
              refine y_inSession (V := V) (by first | assumption | decide | exact xs_ (by decide) | exact xc_ (by decide) | exact x31_ (by decide) | omega) (by first | assumption | decide | exact xs_ (by decide) | exact xc_ (by decide) | exact x31_ (by decide) | omega) (by first | assumption | decide | exact xs_ (by decide) | exact xc_ (by decide) | exact x31_ (by decide) | omega) ht ⟨hR.1, hR.2.1, hR.2.2⟩ hG (by first | assumption | decide | exact xs_ (by decide) | exact xc_ (by decide) | exact x31_ (by decide) | omega) (fun r15 hP_75 => ?_)
              have p1_75 := hP_75.1
              refine r_iaddE hC ((w9 + r15)) dX6_longest_78 (by first | assumption | decide | exact xs_ (by decide) | exact xc_ (by decide) | exact x31_ (by decide) | omega) (by unfold inR; omega) ?_
              refine r_istore hC dX6_longest_79 rfl ?_
              refine r_goto (tgt := 29) hC dX6_longest_81 rfl ?_
              exact ih29 (w6) (w7) ((w8 + 1)) ((w9 + r15))  (by first | assumption | decide | exact xs_ (by decide) | exact xc_ (by decide) | exact x31_ (by decide) | omega) (by first | assumption | decide | exact xs_ (by decide) | exact xc_ (by decide) | exact x31_ (by decide) | omega) (by first | assumption | decide | exact xs_ (by decide) | exact xc_ (by decide) | exact x31_ (by decide) | omega) (by first | assumption | decide | exact xs_ (by decide) | exact xc_ (by decide) | exact x31_ (by decide) | omega) (by first | rfl | (rw [lo_run (by first | assumption | decide | exact xs_ (by decide) | exact xc_ (by decide) | exact x31_ (by decide) | omega) (i3_29 (by first | assumption | decide | exact xs_ (by decide) | exact xc_ (by decide) | exact x31_ (by decide) | omega)) hP_75 (loN_b (T := V 8 l) (g := x) (w9).toNat).2.2.1]; dsimp only; simp only [← i0_29, ← i1_29, ← i2_29]; done) | (rw [lo_run (by first | assumption | decide | exact xs_ (by decide) | exact xc_ (by decide) | exact x31_ (by decide) | omega) (i3_29 (by first | assumption | decide | exact xs_ (by decide) | exact xc_ (by decide) | exact x31_ (by decide) | omega)) hP_75 (loN_b (T := V 8 l) (g := x) (w9).toNat).2.2.1]; dsimp only; simp only [← i0_29, ← i1_29, ← i2_29]; have u1 := hP_75.u hP_44; first | ((repeat' split) <;> omega) | (have u2 := hP_57.u hP_44; (repeat' split) <;> omega))) (by first | rfl | (rw [lo_run (by first | assumption | decide | exact xs_ (by decide) | exact xc_ (by decide) | exact x31_ (by decide) | omega) (i3_29 (by first | assumption | decide | exact xs_ (by decide) | exact xc_ (by decide) | exact x31_ (by decide) | omega)) hP_75 (loN_b (T := V 8 l) (g := x) (w9).toNat).2.2.1]; dsimp only; simp only [← i0_29, ← i1_29, ← i2_29]; done) | (rw [lo_run (by first | assumption | decide | exact xs_ (by decide) | exact xc_ (by decide) | exact x31_ (by decide) | omega) (i3_29 (by first | assumption | decide | exact xs_ (by decide) | exact xc_ (by decide) | exact x31_ (by decide) | omega)) hP_75 (loN_b (T := V 8 l) (g := x) (w9).toNat).2.2.1]; dsimp only; simp only [← i0_29, ← i1_29, ← i2_29]; have u1 := hP_75.u hP_44; first | ((repeat' split) <;> omega) | (have u2 := hP_57.u hP_44; (repeat' split) <;> omega))) (by first | rfl | (rw [lo_run (by first | assumption | decide | exact xs_ (by decide) | exact xc_ (by decide) | exact x31_ (by decide) | omega) (i3_29 (by first | assumption | decide | exact xs_ (by decide) | exact xc_ (by decide) | exact x31_ (by decide) | omega)) hP_75 (loN_b (T := V 8 l) (g := x) (w9).toNat).2.2.1]; dsimp only; simp only [← i0_29, ← i1_29, ← i2_29]; done) | (rw [lo_run (by first | assumption | decide | exact xs_ (by decide) | exact xc_ (by decide) | exact x31_ (by decide) | omega) (i3_29 (by first | assumption | decide | exact xs_ (by decide) | exact xc_ (by decide) | exact x31_ (by decide) | omega)) hP_75 (loN_b (T := V 8 l) (g := x) (w9).toNat).2.2.1]; dsimp only; simp only [← i0_29, ← i1_29, ← i2_29]; have u1 := hP_75.u hP_44; first | ((repeat' split) <;> omega) | (have u2 := hP_57.u hP_44; (repeat' split) <;> omega))) (by first | (intro _; exact Or.inl rfl) | (intro q; exact hP_75.next (by first | assumption | decide | exact xs_ (by decide) | exact xc_ (by decide) | exact x31_ (by decide) | omega))) (by first | assumption | decide | exact xs_ (by decide) | exact xc_ (by decide) | exact x31_ (by decide) | omega) (by first | assumption | decide | exact xs_ (by decide) | exact xc_ (by decide) | exact x31_ (by decide) | omega) (by first | assumption | decide | exact xs_ (by decide) | exact xc_ (by decide) | exact x31_ (by decide) | omega) (by first | assumption | decide | exact xs_ (by decide) | exact xc_ (by decide) | exact x31_ (by decide) | omega)  
            · refine r_aload_n hC dX6_longest_52 rfl ?_
              refine r_iload_n hC dX6_longest_53 rfl ?_
              refine r_iload hC dX6_longest_54 rfl ?_
              refine r_iload_n hC dX6_longest_56 rfl ?_
              refine z_inv3 hM dX6_longest_57 vl_RX6_304 rfl rfl rfl (Nat.le_of_ble_eq_true rfl) (Nat.le_of_ble_eq_true rfl) ?_
              refine y_inSession (V := V) (by first | assumption | decide | exact xs_ (by decide) | exact xc_ (by decide) | exact x31_ (by decide) | omega) (by first | assumption | decide | exact xs_ (by decide) | exact xc_ (by decide) | exact x31_ (by decide) | omega) (by first | assumption | decide | exact xs_ (by decide) | exact xc_ (by decide) | exact x31_ (by decide) | omega) ht ⟨hR.1, hR.2.1, hR.2.2⟩ hG (by first | assumption | decide | exact xs_ (by decide) | exact xc_ (by decide) | exact x31_ (by decide) | omega) (fun r16 hP_57 => ?_)
              have p1_57 := hP_57.1
              refine r_istore hC dX6_longest_60 rfl ?_
              refine r_iload hC dX6_longest_62 rfl ?_
              refine r_istore_n hC dX6_longest_64 rfl ?_
              refine r_iincE hC ((w8 + 1)) dX6_longest_65 rfl rfl (by first | assumption | decide | exact xs_ (by decide) | exact xc_ (by decide) | exact x31_ (by decide) | omega) (by unfold inR; omega) ?_
              show K _ [_, _, _, _, _, _, _] _ _
              refine r_iload hC dX6_longest_68 rfl ?_
              refine r_aload_n hC dX6_longest_70 rfl ?_
              refine r_iload_n hC dX6_longest_71 rfl ?_
              refine r_iload hC dX6_longest_72 rfl ?_
              refine r_iload_n hC dX6_longest_74 rfl ?_
              refine z_inv3 hM dX6_longest_75 vl_RX6_304 rfl rfl rfl (Nat.le_of_ble_eq_true rfl) (Nat.le_of_ble_eq_true rfl) ?_
              refine y_inSession (V := V) (by first | assumption | decide | exact xs_ (by decide) | exact xc_ (by decide) | exact x31_ (by decide) | omega) (by first | assumption | decide | exact xs_ (by decide) | exact xc_ (by decide) | exact x31_ (by decide) | omega) (by first | assumption | decide | exact xs_ (by decide) | exact xc_ (by decide) | exact x31_ (by decide) | omega) ht ⟨hR.1, hR.2.1, hR.2.2⟩ hG (by first | assumption | decide | exact xs_ (by decide) | exact xc_ (by decide) | exact x31_ (by decide) | omega) (fun r17 hP_75 => ?_)
              have p1_75 := hP_75.1
              refine r_iaddE hC ((w9 + r17)) dX6_longest_78 (by first | assumption | decide | exact xs_ (by decide) | exact xc_ (by decide) | exact x31_ (by decide) | omega) (by unfold inR; omega) ?_
              refine r_istore hC dX6_longest_79 rfl ?_
              refine r_goto (tgt := 29) hC dX6_longest_81 rfl ?_
              exact ih29 (w8) (r16) ((w8 + 1)) ((w9 + r17))  (by first | assumption | decide | exact xs_ (by decide) | exact xc_ (by decide) | exact x31_ (by decide) | omega) (by first | assumption | decide | exact xs_ (by decide) | exact xc_ (by decide) | exact x31_ (by decide) | omega) (by first | assumption | decide | exact xs_ (by decide) | exact xc_ (by decide) | exact x31_ (by decide) | omega) (by first | assumption | decide | exact xs_ (by decide) | exact xc_ (by decide) | exact x31_ (by decide) | omega) (by first | rfl | (rw [lo_run (by first | assumption | decide | exact xs_ (by decide) | exact xc_ (by decide) | exact x31_ (by decide) | omega) (i3_29 (by first | assumption | decide | exact xs_ (by decide) | exact xc_ (by decide) | exact x31_ (by decide) | omega)) hP_75 (loN_b (T := V 8 l) (g := x) (w9).toNat).2.2.1]; dsimp only; simp only [← i0_29, ← i1_29, ← i2_29]; done) | (rw [lo_run (by first | assumption | decide | exact xs_ (by decide) | exact xc_ (by decide) | exact x31_ (by decide) | omega) (i3_29 (by first | assumption | decide | exact xs_ (by decide) | exact xc_ (by decide) | exact x31_ (by decide) | omega)) hP_75 (loN_b (T := V 8 l) (g := x) (w9).toNat).2.2.1]; dsimp only; simp only [← i0_29, ← i1_29, ← i2_29]; have u1 := hP_75.u hP_44; first | ((repeat' split) <;> omega) | (have u2 := hP_57.u hP_44; (repeat' split) <;> omega))) (by first | rfl | (rw [lo_run (by first | assumption | decide | exact xs_ (by decide) | exact xc_ (by decide) | exact x31_ (by decide) | omega) (i3_29 (by first | assumption | decide | exact xs_ (by decide) | exact xc_ (by decide) | exact x31_ (by decide) | omega)) hP_75 (loN_b (T := V 8 l) (g := x) (w9).toNat).2.2.1]; dsimp only; simp only [← i0_29, ← i1_29, ← i2_29]; done) | (rw [lo_run (by first | assumption | decide | exact xs_ (by decide) | exact xc_ (by decide) | exact x31_ (by decide) | omega) (i3_29 (by first | assumption | decide | exact xs_ (by decide) | exact xc_ (by decide) | exact x31_ (by decide) | omega)) hP_75 (loN_b (T := V 8 l) (g := x) (w9).toNat).2.2.1]; dsimp only; simp only [← i0_29, ← i1_29, ← i2_29]; have u1 := hP_75.u hP_44; first | ((repeat' split) <;> omega) | (have u2 := hP_57.u hP_44; (repeat' split) <;> omega))) (by first | rfl | (rw [lo_run (by first | assumption | decide | exact xs_ (by decide) | exact xc_ (by decide) | exact x31_ (by decide) | omega) (i3_29 (by first | assumption | decide | exact xs_ (by decide) | exact xc_ (by decide) | exact x31_ (by decide) | omega)) hP_75 (loN_b (T := V 8 l) (g := x) (w9).toNat).2.2.1]; dsimp only; simp only [← i0_29, ← i1_29, ← i2_29]; done) | (rw [lo_run (by first | assumption | decide | exact xs_ (by decide) | exact xc_ (by decide) | exact x31_ (by decide) | omega) (i3_29 (by first | assumption | decide | exact xs_ (by decide) | exact xc_ (by decide) | exact x31_ (by decide) | omega)) hP_75 (loN_b (T := V 8 l) (g := x) (w9).toNat).2.2.1]; dsimp only; simp only [← i0_29, ← i1_29, ← i2_29]; have u1 := hP_75.u hP_44; first | ((repeat' split) <;> omega) | (have u2 := hP_57.u hP_44; (repeat' split) <;> omega))) (by first | (intro _; exact Or.inl rfl) | (intro q; exact hP_75.next (by first | assumption | decide | exact xs_ (by decide) | exact xc_ (by decide) | exact x31_ (by decide) | omega))) (by first | assumption | decide | exact xs_ (by decide) | exact xc_ (by decide) | exact x31_ (by decide) | omega) (by first | assumption | decide | exact xs_ (by decide) | exact xc_ (by decide) | exact x31_ (by decide) | omega) (by first | assumption | decide | exact xs_ (by decide) | exact xc_ (by decide) | exact x31_ (by decide) | omega) (by first | assumption | decide | exact xs_ (by decide) | exact xc_ (by decide) | exact x31_ (by decide) | omega)  
      exact L29 123 ((-1)) (0) (0) (0)  (by first | assumption | decide | exact xs_ (by decide) | exact xc_ (by decide) | exact x31_ (by decide) | omega) (by first | assumption | decide | exact xs_ (by decide) | exact xc_ (by decide) | exact x31_ (by decide) | omega) (by first | assumption | decide | exact xs_ (by decide) | exact xc_ (by decide) | exact x31_ (by decide) | omega) (by first | assumption | decide | exact xs_ (by decide) | exact xc_ (by decide) | exact x31_ (by decide) | omega) (by first | rfl | (rw [lo_run (by first | assumption | decide | exact xs_ (by decide) | exact xc_ (by decide) | exact x31_ (by decide) | omega) (i3_29 (by first | assumption | decide | exact xs_ (by decide) | exact xc_ (by decide) | exact x31_ (by decide) | omega)) hP_75 (loN_b (T := V 8 l) (g := x) (w9).toNat).2.2.1]; dsimp only; simp only [← i0_29, ← i1_29, ← i2_29]; done) | (rw [lo_run (by first | assumption | decide | exact xs_ (by decide) | exact xc_ (by decide) | exact x31_ (by decide) | omega) (i3_29 (by first | assumption | decide | exact xs_ (by decide) | exact xc_ (by decide) | exact x31_ (by decide) | omega)) hP_75 (loN_b (T := V 8 l) (g := x) (w9).toNat).2.2.1]; dsimp only; simp only [← i0_29, ← i1_29, ← i2_29]; have u1 := hP_75.u hP_44; first | ((repeat' split) <;> omega) | (have u2 := hP_57.u hP_44; (repeat' split) <;> omega))) (by first | rfl | (rw [lo_run (by first | assumption | decide | exact xs_ (by decide) | exact xc_ (by decide) | exact x31_ (by decide) | omega) (i3_29 (by first | assumption | decide | exact xs_ (by decide) | exact xc_ (by decide) | exact x31_ (by decide) | omega)) hP_75 (loN_b (T := V 8 l) (g := x) (w9).toNat).2.2.1]; dsimp only; simp only [← i0_29, ← i1_29, ← i2_29]; done) | (rw [lo_run (by first | assumption | decide | exact xs_ (by decide) | exact xc_ (by decide) | exact x31_ (by decide) | omega) (i3_29 (by first | assumption | decide | exact xs_ (by decide) | exact xc_ (by decide) | exact x31_ (by decide) | omega)) hP_75 (loN_b (T := V 8 l) (g := x) (w9).toNat).2.2.1]; dsimp only; simp only [← i0_29, ← i1_29, ← i2_29]; have u1 := hP_75.u hP_44; first | ((repeat' split) <;> omega) | (have u2 := hP_57.u hP_44; (repeat' split) <;> omega))) (by first | rfl | (rw [lo_run (by first | assumption | decide | exact xs_ (by decide) | exact xc_ (by decide) | exact x31_ (by decide) | omega) (i3_29 (by first | assumption | decide | exact xs_ (by decide) | exact xc_ (by decide) | exact x31_ (by decide) | omega)) hP_75 (loN_b (T := V 8 l) (g := x) (w9).toNat).2.2.1]; dsimp only; simp only [← i0_29, ← i1_29, ← i2_29]; done) | (rw [lo_run (by first | assumption | decide | exact xs_ (by decide) | exact xc_ (by decide) | exact x31_ (by decide) | omega) (i3_29 (by first | assumption | decide | exact xs_ (by decide) | exact xc_ (by decide) | exact x31_ (by decide) | omega)) hP_75 (loN_b (T := V 8 l) (g := x) (w9).toNat).2.2.1]; dsimp only; simp only [← i0_29, ← i1_29, ← i2_29]; have u1 := hP_75.u hP_44; first | ((repeat' split) <;> omega) | (have u2 := hP_57.u hP_44; (repeat' split) <;> omega))) (by first | (intro _; exact Or.inl rfl) | (intro q; exact hP_75.next (by first | assumption | decide | exact xs_ (by decide) | exact xc_ (by decide) | exact x31_ (by decide) | omega))) (by first | assumption | decide | exact xs_ (by decide) | exact xc_ (by decide) | exact x31_ (by decide) | omega) (by first | assumption | decide | exact xs_ (by decide) | exact xc_ (by decide) | exact x31_ (by decide) | omega) (by first | assumption | decide | exact xs_ (by decide) | exact xc_ (by decide) | exact x31_ (by decide) | omega) (by first | assumption | decide | exact xs_ (by decide) | exact xc_ (by decide) | exact x31_ (by decide) | omega)  
    · refine r_if_ne (tgt := 18) hC dX6_longest_13 rfl (fun h18 => by omega) (fun h18 => ?_)
      refine r_iconst hC dX6_longest_16 rfl ?_
      refine y_iret hK rfl dX6_longest_17 ?_
      have hRr : loR V l x = (-1) := by
        exact if_neg (by unfold gaC opV; omega)
      rw [hRr] at k
      exact k _ ⟨hR.1, hR.2.1, hR.2.2⟩
  · unfold opV at h1
    refine r_if_eq (tgt := 16) hC dX6_longest_5 rfl (fun h19 => ?_) (fun h19 => by omega)
    refine r_iconst hC dX6_longest_16 rfl ?_
    refine y_iret hK rfl dX6_longest_17 ?_
    have hRr : loR V l x = (-1) := by
      exact if_neg (by unfold gaC opV; omega)
    rw [hRr] at k
    exact k _ ⟨hR.1, hR.2.1, hR.2.2⟩
theorem y_session {eb : Bool} {t : Int} {V : Mm} {d : Nat} {P : Option Vl → Mm → Prop} {σ : Mm} {l x s w : Int}  {σ0 : Mm} (ht : 6 ≤ t ∧ t ≤ 7) (hR : RS t σ0 V σ) (hG : GI V)  (k : ∀ ρ : Mm, RS t σ0 V ρ → P (some (vI (seR V l x s w))) ρ) : WT (true, eb, true) (d + 6) 250 [vR 30 0, vI l, vI x, vI s, vI w] σ P := by
  refine WT_in fun K hK => ?_
  have hK : StpY (true, eb, true) cX6_session RX6 (some .int) (WT (true, eb, true) (d + 5)) P K := hK
  have hM := hK.1
  have hC := hK.1.1
  show K 0 [some (vR 30 0), some (vI l), some (vI x), some (vI s), some (vI w), none, none] [] σ
  refine r_rngz hC (fun g0 => ?_)
  have r_l : -2147483648 ≤ l ∧ l ≤ 2147483647 := inR_le (g0 (vI l) (by simp))
  have r_x : -2147483648 ≤ x ∧ x ≤ 2147483647 := inR_le (g0 (vI x) (by simp))
  have r_s : -2147483648 ≤ s ∧ s ≤ 2147483647 := inR_le (g0 (vI s) (by simp))
  have r_w : -2147483648 ≤ w ∧ w ≤ 2147483647 := inR_le (g0 (vI w) (by simp))
  have hrow := hG.2.1.2.2.1
  have h6b : 0 ≤ l → l ≤ 3 → 0 ≤ V 7 l 6 ∧ V 7 l 6 ≤ 120 := fun a b => hG.1.h7 (l := l) a (by first | assumption | decide | exact xs_ (by decide) | exact xc_ (by decide) | exact x31_ (by decide) | omega)
  refine r_aload_n hC dX6_session_0 rfl ?_
  refine r_iload_n hC dX6_session_1 rfl ?_
  refine r_iload hC dX6_session_2 rfl ?_
  refine z_inv2 hM dX6_session_4 vl_RX6_207 rfl rfl rfl (Nat.le_of_ble_eq_true rfl) (Nat.le_of_ble_eq_true rfl) ?_
  refine y_isNumber (V := V) ht ⟨hR.1, hR.2.1, hR.2.2⟩ (fun l a b => (hG.2.1.2.2.2.1 l a b).2) (fun h1 => ?_) (fun h1 => ?_)
  · unfold lwC opV at h1
    have n_h1 := numF_rng (V 7 l 2)
    have h6 := hG.1.h7 (l := l) (by first | assumption | decide | exact xs_ (by decide) | exact xc_ (by decide) | exact x31_ (by decide) | omega) (by first | assumption | decide | exact xs_ (by decide) | exact xc_ (by decide) | exact x31_ (by decide) | omega)
    have hO_h1 := (hG.2.1.2.2.2.1 l (by first | assumption | decide | exact xs_ (by decide) | exact xc_ (by decide) | exact x31_ (by decide) | omega) (by first | assumption | decide | exact xs_ (by decide) | exact xc_ (by decide) | exact x31_ (by decide) | omega)).2
    refine r_if_eq (tgt := 22) hC dX6_session_7 rfl (fun h2 => by omega) (fun h2 => ?_)
    refine r_aload_n hC dX6_session_10 rfl ?_
    refine r_iload_n hC dX6_session_11 rfl ?_
    refine z_inv1 hM dX6_session_12 vl_RX6_301 rfl rfl rfl (Nat.le_of_ble_eq_true rfl) (Nat.le_of_ble_eq_true rfl) ?_
    refine y_isGap (fun h4 => ?_) (fun h4 => ?_)
    · refine r_if_eq (tgt := 22) hC dX6_session_15 rfl (fun h5 => by omega) (fun h5 => ?_)
      refine r_iload_n hC dX6_session_18 rfl ?_
      refine r_if_ge (tgt := 25) hC dX6_session_19 rfl (fun h6 => ?_) (fun h6 => ?_)
      · refine r_iconst hC dX6_session_25 rfl ?_
        refine r_istore hC dX6_session_26 rfl ?_
        refine r_iconst hC dX6_session_28 rfl ?_
        refine r_istore hC dX6_session_29 rfl ?_
        have L31 : ∀ (n31 : Nat) (w7 w8 : Int), 0 ≤ w7 ∧ w7 ≤ 120 → 0 ≤ w8 ∧ w8 ≤ 120 → ((sst (V 8 l) x s ((w7)).toNat).1 = (w8)) → ((w7) < V 7 l 6 → ssB (V 8 l) x (w7)) → ((w7) ≤ V 7 l 6) → ((w8) ≤ s) → ((w8) ≤ (w7)) → 120 - w7 < (n31 : Int) → K 31 [some (vR 30 0), some (vI l), some (vI x), some (vI s), some (vI w), some (vI w7), some (vI w8)] [] σ := by
          intro n31
          induction n31 with
          | zero => intro w7 w8  f_w7 f_w8 i0_31 i1_31 i2_31 i3_31 i4_31 hm  ; omega
          | succ n31 ih31 =>
            intro w7 w8  f_w7 f_w8 i0_31 i1_31 i2_31 i3_31 i4_31 hm31  
            refine r_iload hC dX6_session_31 rfl ?_
            refine r_iload_n hC dX6_session_33 rfl ?_
            refine r_icmp_ge (tgt := 66) hC dX6_session_34 rfl (fun h9 => ?_) (fun h9 => ?_)
            · refine r_iload hC dX6_session_66 rfl ?_
              refine r_aload_n hC dX6_session_68 rfl ?_
              refine r_iload_n hC dX6_session_69 rfl ?_
              refine z_inv1 hM dX6_session_70 vl_RX6_116 rfl rfl rfl (Nat.le_of_ble_eq_true rfl) (Nat.le_of_ble_eq_true rfl) ?_
              refine y_heldOf (by first | assumption | decide | exact xs_ (by decide) | exact xc_ (by decide) | exact x31_ (by decide) | omega) (fun o10 => ?_)
              have e11 : σ 31 0 (22 * l + 5) = (V 7 l 6) := (hR.1.a7 (s := 6) (f := 5) (by first | assumption | decide | exact xs_ (by decide) | exact xc_ (by decide) | exact x31_ (by decide) | omega) (by first | assumption | decide | exact xs_ (by decide) | exact xc_ (by decide) | exact x31_ (by decide) | omega) (by first | assumption | decide | exact xs_ (by decide) | exact xc_ (by decide) | exact x31_ (by decide) | omega)).trans (rfl)
              rw [e11] at o10 ⊢
              have qo10 : 0 ≤ (V 7 l 6) ∧ (V 7 l 6) ≤ 121 := o10.1 (by first | assumption | decide | exact xs_ (by decide) | exact xc_ (by decide) | exact x31_ (by decide) | omega)
              refine r_icmp_ge (tgt := 101) hC dX6_session_73 rfl (fun h12 => ?_) (fun h12 => ?_)
              · refine r_ldc hC dX6_session_101 co_RX6_160 rfl ?_
                refine y_iret hK rfl dX6_session_103 ?_
                have hRr : seR V l x s w = (-2147483648) := by
                  have q_ := sst_b (T := V 8 l) (g := x) (s := s) (by first | assumption | decide | exact xs_ (by decide) | exact xc_ (by decide) | exact x31_ (by decide) | omega) (V 7 l 6).toNat
                  have e_ : (sst (V 8 l) x s (V 7 l 6).toNat).1 = w8 := by rw [show (V 7 l 6).toNat = (w7).toNat from by omega]; exact i0_31
                  unfold seR sstV
                  rw [if_pos (by unfold seC lwC opV; omega), show (sst (V 8 l) x s (V 7 l 6).toNat).2.2.toNat = 0 from by omega]
                  exact if_pos (Or.inl rfl)
                rw [hRr] at k
                exact k _ ⟨hR.1, hR.2.1, hR.2.2⟩
              · refine r_aload_n hC dX6_session_76 rfl ?_
                refine r_iload_n hC dX6_session_77 rfl ?_
                refine r_iload hC dX6_session_78 rfl ?_
                refine r_iload hC dX6_session_80 rfl ?_
                refine r_aload_n hC dX6_session_82 rfl ?_
                refine r_iload_n hC dX6_session_83 rfl ?_
                refine r_iload hC dX6_session_84 rfl ?_
                refine r_iload_n hC dX6_session_86 rfl ?_
                refine z_inv3 hM dX6_session_87 vl_RX6_304 rfl rfl rfl (Nat.le_of_ble_eq_true rfl) (Nat.le_of_ble_eq_true rfl) ?_
                refine y_inSession (V := V) (by first | assumption | decide | exact xs_ (by decide) | exact xc_ (by decide) | exact x31_ (by decide) | omega) (by first | assumption | decide | exact xs_ (by decide) | exact xc_ (by decide) | exact x31_ (by decide) | omega) (by first | assumption | decide | exact xs_ (by decide) | exact xc_ (by decide) | exact x31_ (by decide) | omega) ht ⟨hR.1, hR.2.1, hR.2.2⟩ hG (by first | assumption | decide | exact xs_ (by decide) | exact xc_ (by decide) | exact x31_ (by decide) | omega) (fun r13 hP_87 => ?_)
                have p1_87 := hP_87.1
                refine r_iaddE hC ((w7 + r13)) dX6_session_90 (by first | assumption | decide | exact xs_ (by decide) | exact xc_ (by decide) | exact x31_ (by decide) | omega) (by unfold inR; omega) ?_
                refine r_iconst hC dX6_session_91 rfl ?_
                refine r_isubE hC (((w7 + r13) - 1)) dX6_session_92 (by first | assumption | decide | exact xs_ (by decide) | exact xc_ (by decide) | exact x31_ (by decide) | omega) (by unfold inR; omega) ?_
                refine r_iload hC dX6_session_93 rfl ?_
                refine z_inv4 hM dX6_session_95 vl_RX6_243 rfl rfl rfl (Nat.le_of_ble_eq_true rfl) (Nat.le_of_ble_eq_true rfl) ?_
                refine y_comesFrom (V := V) (by first | assumption | decide | exact xs_ (by decide) | exact xc_ (by decide) | exact x31_ (by decide) | omega) (by first | assumption | decide | exact xs_ (by decide) | exact xc_ (by decide) | exact x31_ (by decide) | omega) (by first | assumption | decide | exact xs_ (by decide) | exact xc_ (by decide) | exact x31_ (by decide) | omega) (by first | assumption | decide | exact xs_ (by decide) | exact xc_ (by decide) | exact x31_ (by decide) | omega) ht ⟨hR.1, hR.2.1, hR.2.2⟩ (by first | assumption | decide | exact xs_ (by decide) | exact xc_ (by decide) | exact x31_ (by decide) | omega) (hG.2.1.lk hG.1 (l := l) (by first | assumption | decide | exact xs_ (by decide) | exact xc_ (by decide) | exact x31_ (by decide) | omega) (by first | assumption | decide | exact xs_ (by decide) | exact xc_ (by decide) | exact x31_ (by decide) | omega)) (by first | assumption | decide | exact xs_ (by decide) | exact xc_ (by decide) | exact x31_ (by decide) | omega) (fun ρ14 Rρ14 => ?_)
                have ePρ14 : cm (V 16 0) (V 15 0) (V 7 l 2) (fun j => V 9 l (w7 + j)) (((w7 + r13) - 1) + 1 - w7).toNat w = ptV V l w7 (w7 + r13) w := by unfold ptV; rw [show (((w7 + r13) - 1) + 1 - w7 : Int) = (w7 + r13) - w7 from by omega]
                rw [ePρ14]
                refine r_goto (tgt := 103) hC dX6_session_98 rfl ?_
                refine y_iret hK rfl dX6_session_103 ?_
                have hRr : seR V l x s w = (ptV V l w7 (w7 + r13) w) := by
                  have q_ := st_fin (h := V 7 l 6) (by first | assumption | decide | exact xs_ (by decide) | exact xc_ (by decide) | exact x31_ (by decide) | omega) (by first | assumption | decide | exact xs_ (by decide) | exact xc_ (by decide) | exact x31_ (by decide) | omega) (i1_31 (by first | assumption | decide | exact xs_ (by decide) | exact xc_ (by decide) | exact x31_ (by decide) | omega)) (i0_31.trans (by first | assumption | decide | exact xs_ (by decide) | exact xc_ (by decide) | exact x31_ (by decide) | omega)) hP_87
                  unfold seR sstV ptV
                  rw [if_pos (by unfold seC lwC opV; omega), q_]
                  dsimp only
                  congr 1
                  omega
                rw [hRr] at k
                exact k _ ⟨Rρ14.1, Rρ14.2.1, Rρ14.2.2⟩
            · refine r_iload hC dX6_session_37 rfl ?_
              refine r_aload_n hC dX6_session_39 rfl ?_
              refine r_iload_n hC dX6_session_40 rfl ?_
              refine z_inv1 hM dX6_session_41 vl_RX6_116 rfl rfl rfl (Nat.le_of_ble_eq_true rfl) (Nat.le_of_ble_eq_true rfl) ?_
              refine y_heldOf (by first | assumption | decide | exact xs_ (by decide) | exact xc_ (by decide) | exact x31_ (by decide) | omega) (fun o15 => ?_)
              have e16 : σ 31 0 (22 * l + 5) = (V 7 l 6) := (hR.1.a7 (s := 6) (f := 5) (by first | assumption | decide | exact xs_ (by decide) | exact xc_ (by decide) | exact x31_ (by decide) | omega) (by first | assumption | decide | exact xs_ (by decide) | exact xc_ (by decide) | exact x31_ (by decide) | omega) (by first | assumption | decide | exact xs_ (by decide) | exact xc_ (by decide) | exact x31_ (by decide) | omega)).trans (rfl)
              rw [e16] at o15 ⊢
              have qo15 : 0 ≤ (V 7 l 6) ∧ (V 7 l 6) ≤ 121 := o15.1 (by first | assumption | decide | exact xs_ (by decide) | exact xc_ (by decide) | exact x31_ (by decide) | omega)
              refine r_icmp_ge (tgt := 66) hC dX6_session_44 rfl (fun h17 => ?_) (fun h17 => ?_)
              · refine r_iload hC dX6_session_66 rfl ?_
                refine r_aload_n hC dX6_session_68 rfl ?_
                refine r_iload_n hC dX6_session_69 rfl ?_
                refine z_inv1 hM dX6_session_70 vl_RX6_116 rfl rfl rfl (Nat.le_of_ble_eq_true rfl) (Nat.le_of_ble_eq_true rfl) ?_
                refine y_heldOf (by first | assumption | decide | exact xs_ (by decide) | exact xc_ (by decide) | exact x31_ (by decide) | omega) (fun o18 => ?_)
                have e19 : σ 31 0 (22 * l + 5) = (V 7 l 6) := (hR.1.a7 (s := 6) (f := 5) (by first | assumption | decide | exact xs_ (by decide) | exact xc_ (by decide) | exact x31_ (by decide) | omega) (by first | assumption | decide | exact xs_ (by decide) | exact xc_ (by decide) | exact x31_ (by decide) | omega) (by first | assumption | decide | exact xs_ (by decide) | exact xc_ (by decide) | exact x31_ (by decide) | omega)).trans (rfl)
                rw [e19] at o18 ⊢
                have qo18 : 0 ≤ (V 7 l 6) ∧ (V 7 l 6) ≤ 121 := o18.1 (by first | assumption | decide | exact xs_ (by decide) | exact xc_ (by decide) | exact x31_ (by decide) | omega)
                refine r_icmp_ge (tgt := 101) hC dX6_session_73 rfl (fun h20 => ?_) (fun h20 => ?_)
                · refine r_ldc hC dX6_session_101 co_RX6_160 rfl ?_
                  refine y_iret hK rfl dX6_session_103 ?_
                  have hRr : seR V l x s w = (-2147483648) := by
                    have q_ := sst_b (T := V 8 l) (g := x) (s := s) (by first | assumption | decide | exact xs_ (by decide) | exact xc_ (by decide) | exact x31_ (by decide) | omega) (V 7 l 6).toNat
                    have e_ : (sst (V 8 l) x s (V 7 l 6).toNat).1 = w8 := by rw [show (V 7 l 6).toNat = (w7).toNat from by omega]; exact i0_31
                    unfold seR sstV
                    rw [if_pos (by unfold seC lwC opV; omega), show (sst (V 8 l) x s (V 7 l 6).toNat).2.2.toNat = 0 from by omega]
                    exact if_pos (Or.inl rfl)
                  rw [hRr] at k
                  exact k _ ⟨hR.1, hR.2.1, hR.2.2⟩
                · refine r_aload_n hC dX6_session_76 rfl ?_
                  refine r_iload_n hC dX6_session_77 rfl ?_
                  refine r_iload hC dX6_session_78 rfl ?_
                  refine r_iload hC dX6_session_80 rfl ?_
                  refine r_aload_n hC dX6_session_82 rfl ?_
                  refine r_iload_n hC dX6_session_83 rfl ?_
                  refine r_iload hC dX6_session_84 rfl ?_
                  refine r_iload_n hC dX6_session_86 rfl ?_
                  refine z_inv3 hM dX6_session_87 vl_RX6_304 rfl rfl rfl (Nat.le_of_ble_eq_true rfl) (Nat.le_of_ble_eq_true rfl) ?_
                  refine y_inSession (V := V) (by first | assumption | decide | exact xs_ (by decide) | exact xc_ (by decide) | exact x31_ (by decide) | omega) (by first | assumption | decide | exact xs_ (by decide) | exact xc_ (by decide) | exact x31_ (by decide) | omega) (by first | assumption | decide | exact xs_ (by decide) | exact xc_ (by decide) | exact x31_ (by decide) | omega) ht ⟨hR.1, hR.2.1, hR.2.2⟩ hG (by first | assumption | decide | exact xs_ (by decide) | exact xc_ (by decide) | exact x31_ (by decide) | omega) (fun r21 hP_87 => ?_)
                  have p1_87 := hP_87.1
                  refine r_iaddE hC ((w7 + r21)) dX6_session_90 (by first | assumption | decide | exact xs_ (by decide) | exact xc_ (by decide) | exact x31_ (by decide) | omega) (by unfold inR; omega) ?_
                  refine r_iconst hC dX6_session_91 rfl ?_
                  refine r_isubE hC (((w7 + r21) - 1)) dX6_session_92 (by first | assumption | decide | exact xs_ (by decide) | exact xc_ (by decide) | exact x31_ (by decide) | omega) (by unfold inR; omega) ?_
                  refine r_iload hC dX6_session_93 rfl ?_
                  refine z_inv4 hM dX6_session_95 vl_RX6_243 rfl rfl rfl (Nat.le_of_ble_eq_true rfl) (Nat.le_of_ble_eq_true rfl) ?_
                  refine y_comesFrom (V := V) (by first | assumption | decide | exact xs_ (by decide) | exact xc_ (by decide) | exact x31_ (by decide) | omega) (by first | assumption | decide | exact xs_ (by decide) | exact xc_ (by decide) | exact x31_ (by decide) | omega) (by first | assumption | decide | exact xs_ (by decide) | exact xc_ (by decide) | exact x31_ (by decide) | omega) (by first | assumption | decide | exact xs_ (by decide) | exact xc_ (by decide) | exact x31_ (by decide) | omega) ht ⟨hR.1, hR.2.1, hR.2.2⟩ (by first | assumption | decide | exact xs_ (by decide) | exact xc_ (by decide) | exact x31_ (by decide) | omega) (hG.2.1.lk hG.1 (l := l) (by first | assumption | decide | exact xs_ (by decide) | exact xc_ (by decide) | exact x31_ (by decide) | omega) (by first | assumption | decide | exact xs_ (by decide) | exact xc_ (by decide) | exact x31_ (by decide) | omega)) (by first | assumption | decide | exact xs_ (by decide) | exact xc_ (by decide) | exact x31_ (by decide) | omega) (fun ρ22 Rρ22 => ?_)
                  have ePρ22 : cm (V 16 0) (V 15 0) (V 7 l 2) (fun j => V 9 l (w7 + j)) (((w7 + r21) - 1) + 1 - w7).toNat w = ptV V l w7 (w7 + r21) w := by unfold ptV; rw [show (((w7 + r21) - 1) + 1 - w7 : Int) = (w7 + r21) - w7 from by omega]
                  rw [ePρ22]
                  refine r_goto (tgt := 103) hC dX6_session_98 rfl ?_
                  refine y_iret hK rfl dX6_session_103 ?_
                  have hRr : seR V l x s w = (ptV V l w7 (w7 + r21) w) := by
                    have q_ := st_fin (h := V 7 l 6) (by first | assumption | decide | exact xs_ (by decide) | exact xc_ (by decide) | exact x31_ (by decide) | omega) (by first | assumption | decide | exact xs_ (by decide) | exact xc_ (by decide) | exact x31_ (by decide) | omega) (i1_31 (by first | assumption | decide | exact xs_ (by decide) | exact xc_ (by decide) | exact x31_ (by decide) | omega)) (i0_31.trans (by first | assumption | decide | exact xs_ (by decide) | exact xc_ (by decide) | exact x31_ (by decide) | omega)) hP_87
                    unfold seR sstV ptV
                    rw [if_pos (by unfold seC lwC opV; omega), q_]
                    dsimp only
                    congr 1
                    omega
                  rw [hRr] at k
                  exact k _ ⟨Rρ22.1, Rρ22.2.1, Rρ22.2.2⟩
              · refine r_iload hC dX6_session_47 rfl ?_
                refine r_aload_n hC dX6_session_49 rfl ?_
                refine r_iload_n hC dX6_session_50 rfl ?_
                refine r_iload hC dX6_session_51 rfl ?_
                refine r_iload_n hC dX6_session_53 rfl ?_
                refine z_inv3 hM dX6_session_54 vl_RX6_304 rfl rfl rfl (Nat.le_of_ble_eq_true rfl) (Nat.le_of_ble_eq_true rfl) ?_
                refine y_inSession (V := V) (by first | assumption | decide | exact xs_ (by decide) | exact xc_ (by decide) | exact x31_ (by decide) | omega) (by first | assumption | decide | exact xs_ (by decide) | exact xc_ (by decide) | exact x31_ (by decide) | omega) (by first | assumption | decide | exact xs_ (by decide) | exact xc_ (by decide) | exact x31_ (by decide) | omega) ht ⟨hR.1, hR.2.1, hR.2.2⟩ hG (by first | assumption | decide | exact xs_ (by decide) | exact xc_ (by decide) | exact x31_ (by decide) | omega) (fun r23 hP_54 => ?_)
                have p1_54 := hP_54.1
                refine r_iaddE hC ((w7 + r23)) dX6_session_57 (by first | assumption | decide | exact xs_ (by decide) | exact xc_ (by decide) | exact x31_ (by decide) | omega) (by unfold inR; omega) ?_
                refine r_istore hC dX6_session_58 rfl ?_
                refine r_iincE hC ((w8 + 1)) dX6_session_60 rfl rfl (by first | assumption | decide | exact xs_ (by decide) | exact xc_ (by decide) | exact x31_ (by decide) | omega) (by unfold inR; omega) ?_
                refine r_goto (tgt := 31) hC dX6_session_63 rfl ?_
                exact ih31 ((w7 + r23)) ((w8 + 1))  (by first | assumption | decide | exact xs_ (by decide) | exact xc_ (by decide) | exact x31_ (by decide) | omega) (by first | assumption | decide | exact xs_ (by decide) | exact xc_ (by decide) | exact x31_ (by decide) | omega) (by first | rfl | (rw [(st_run (s := s) (by first | assumption | decide | exact xs_ (by decide) | exact xc_ (by decide) | exact x31_ (by decide) | omega) (by first | assumption | decide | exact xs_ (by decide) | exact xc_ (by decide) | exact x31_ (by decide) | omega) (i1_31 (by first | assumption | decide | exact xs_ (by decide) | exact xc_ (by decide) | exact x31_ (by decide) | omega)) hP_54).1]; omega)) (by first | (intro _; exact Or.inl rfl) | (intro q; exact hP_54.next (by first | assumption | decide | exact xs_ (by decide) | exact xc_ (by decide) | exact x31_ (by decide) | omega))) (by first | assumption | decide | exact xs_ (by decide) | exact xc_ (by decide) | exact x31_ (by decide) | omega) (by first | assumption | decide | exact xs_ (by decide) | exact xc_ (by decide) | exact x31_ (by decide) | omega) (by first | assumption | decide | exact xs_ (by decide) | exact xc_ (by decide) | exact x31_ (by decide) | omega) (by first | assumption | decide | exact xs_ (by decide) | exact xc_ (by decide) | exact x31_ (by decide) | omega)  
        exact L31 123 (0) (0)  (by first | assumption | decide | exact xs_ (by decide) | exact xc_ (by decide) | exact x31_ (by decide) | omega) (by first | assumption | decide | exact xs_ (by decide) | exact xc_ (by decide) | exact x31_ (by decide) | omega) (by first | rfl | (rw [(st_run (s := s) (by first | assumption | decide | exact xs_ (by decide) | exact xc_ (by decide) | exact x31_ (by decide) | omega) (by first | assumption | decide | exact xs_ (by decide) | exact xc_ (by decide) | exact x31_ (by decide) | omega) (i1_31 (by first | assumption | decide | exact xs_ (by decide) | exact xc_ (by decide) | exact x31_ (by decide) | omega)) hP_54).1]; omega)) (by first | (intro _; exact Or.inl rfl) | (intro q; exact hP_54.next (by first | assumption | decide | exact xs_ (by decide) | exact xc_ (by decide) | exact x31_ (by decide) | omega))) (by first | assumption | decide | exact xs_ (by decide) | exact xc_ (by decide) | exact x31_ (by decide) | omega) (by first | assumption | decide | exact xs_ (by decide) | exact xc_ (by decide) | exact x31_ (by decide) | omega) (by first | assumption | decide | exact xs_ (by decide) | exact xc_ (by decide) | exact x31_ (by decide) | omega) (by first | assumption | decide | exact xs_ (by decide) | exact xc_ (by decide) | exact x31_ (by decide) | omega)  
      · refine r_ldc hC dX6_session_22 co_RX6_160 rfl ?_
        refine y_iret hK rfl dX6_session_24 ?_
        have hRr : seR V l x s w = (-2147483648) := by
          exact if_neg (by unfold seC lwC opV; omega)
        rw [hRr] at k
        exact k _ ⟨hR.1, hR.2.1, hR.2.2⟩
    · refine r_if_eq (tgt := 22) hC dX6_session_15 rfl (fun h24 => ?_) (fun h24 => by omega)
      refine r_ldc hC dX6_session_22 co_RX6_160 rfl ?_
      refine y_iret hK rfl dX6_session_24 ?_
      have hRr : seR V l x s w = (-2147483648) := by
        exact if_neg (by unfold seC lwC opV; omega)
      rw [hRr] at k
      exact k _ ⟨hR.1, hR.2.1, hR.2.2⟩
  · unfold lwC opV at h1
    refine r_if_eq (tgt := 22) hC dX6_session_7 rfl (fun h25 => ?_) (fun h25 => by omega)
    refine r_ldc hC dX6_session_22 co_RX6_160 rfl ?_
    refine y_iret hK rfl dX6_session_24 ?_
    have hRr : seR V l x s w = (-2147483648) := by
      exact if_neg (by unfold seC lwC opV; omega)
    rw [hRr] at k
    exact k _ ⟨hR.1, hR.2.1, hR.2.2⟩
theorem y_sumHeld {eb : Bool} {t : Int} {V : Mm} {d : Nat} {P : Option Vl → Mm → Prop} {σ : Mm}  {σ0 : Mm} (ht : 6 ≤ t ∧ t ≤ 7) (hR : RS t σ0 V σ) (hG : GI V)  (k : P (some (vI (htN V 4))) σ) : WT (true, eb, true) (d + 2) 256 [vR 30 0, vI 5] σ P := by
  refine WT_in fun K hK => ?_
  have hK : StpY (true, eb, true) cX6_sumOf RX6 (some .int) (WT (true, eb, true) (d + 1)) P K := hK
  have hM := hK.1
  have hC := hK.1.1
  show K 0 [some (vR 30 0), some (vI 5), none, none] [] σ
  refine r_iconst hC dX6_sumOf_0 rfl ?_
  refine r_istore_n hC dX6_sumOf_1 rfl ?_
  refine r_iconst hC dX6_sumOf_2 rfl ?_
  refine r_istore_n hC dX6_sumOf_3 rfl ?_
  have L4 : ∀ (n4 : Nat) (w1 w2 : Int), 0 ≤ w1 ∧ w1 ≤ 4 → 0 ≤ w2 ∧ w2 ≤ 484 → ((w2) = htN V ((w1)).toNat) → ((w2) ≤ 121 * (w1)) → 4 - w1 < (n4 : Int) → K 4 [some (vR 30 0), some (vI 5), some (vI w2), some (vI w1)] [] σ := by
    intro n4
    induction n4 with
    | zero => intro w1 w2  f_w1 f_w2 i0_4 i1_4 hm  ; omega
    | succ n4 ih4 =>
      intro w1 w2  f_w1 f_w2 i0_4 i1_4 hm4  
      refine r_iload_n hC dX6_sumOf_4 rfl ?_
      refine r_iconst hC dX6_sumOf_5 rfl ?_
      refine r_icmp_ge (tgt := 38) hC dX6_sumOf_6 rfl (fun h3 => ?_) (fun h3 => ?_)
      · refine r_iload_n hC dX6_sumOf_38 rfl ?_
        refine y_iret hK rfl dX6_sumOf_39 ?_
        have e_ : (w1).toNat = 4 := by omega
        rw [← e_, ← i0_4] at k
        exact k
      · refine r_iload_n hC dX6_sumOf_9 rfl ?_
        refine r_aload_n hC dX6_sumOf_10 rfl ?_
        refine r_iload_n hC dX6_sumOf_11 rfl ?_
        refine r_iconst hC dX6_sumOf_12 rfl ?_
        refine z_inv2 hM dX6_sumOf_13 vl_RX6_80 rfl rfl rfl (Nat.le_of_ble_eq_true rfl) (Nat.le_of_ble_eq_true rfl) ?_
        refine y_of (by first | assumption | decide | exact xs_ (by decide) | exact xc_ (by decide) | exact x31_ (by decide) | omega) (by first | assumption | decide | exact xs_ (by decide) | exact xc_ (by decide) | exact x31_ (by decide) | omega) (by first | assumption | decide | exact xs_ (by decide) | exact xc_ (by decide) | exact x31_ (by decide) | omega) (fun o4 => ?_)
        have e5 : σ 31 0 (22 * w1 + 0) = (V 7 w1 1) := (hR.1.a7 (s := 1) (f := 0) (by first | assumption | decide | exact xs_ (by decide) | exact xc_ (by decide) | exact x31_ (by decide) | omega) (by first | assumption | decide | exact xs_ (by decide) | exact xc_ (by decide) | exact x31_ (by decide) | omega) (by first | assumption | decide | exact xs_ (by decide) | exact xc_ (by decide) | exact x31_ (by decide) | omega)).trans (rfl)
        rw [e5] at o4 ⊢
        have qo4 : 0 ≤ (V 7 w1 1) ∧ (V 7 w1 1) ≤ 1 := by have := o4.2 (by first | assumption | decide | exact xs_ (by decide) | exact xc_ (by decide) | exact x31_ (by decide) | omega); omega
        refine r_iconst hC dX6_sumOf_16 rfl ?_
        refine r_icmp_ne (tgt := 29) hC dX6_sumOf_17 rfl (fun h6 => ?_) (fun h6 => ?_)
        · refine r_iconst hC dX6_sumOf_29 rfl ?_
          refine r_iaddE hC (w2) dX6_sumOf_30 (by first | assumption | decide | exact xs_ (by decide) | exact xc_ (by decide) | exact x31_ (by decide) | omega) (by unfold inR; omega) ?_
          refine r_istore_n hC dX6_sumOf_31 rfl ?_
          refine r_iincE hC ((w1 + 1)) dX6_sumOf_32 rfl rfl (by first | assumption | decide | exact xs_ (by decide) | exact xc_ (by decide) | exact x31_ (by decide) | omega) (by unfold inR; omega) ?_
          refine r_goto (tgt := 4) hC dX6_sumOf_35 rfl ?_
          exact ih4 ((w1 + 1)) (w2)  (by first | assumption | decide | exact xs_ (by decide) | exact xc_ (by decide) | exact x31_ (by decide) | omega) (by first | assumption | decide | exact xs_ (by decide) | exact xc_ (by decide) | exact x31_ (by decide) | omega) (by first | rfl | (rw [htN_I (by first | assumption | decide | exact xs_ (by decide) | exact xc_ (by decide) | exact x31_ (by decide) | omega), ← i0_4]; first | (rw [if_pos (by first | assumption | decide | exact xs_ (by decide) | exact xc_ (by decide) | exact x31_ (by decide) | omega)]; done) | (rw [if_neg (by first | assumption | decide | exact xs_ (by decide) | exact xc_ (by decide) | exact x31_ (by decide) | omega)]; done) | (rw [if_pos (by first | assumption | decide | exact xs_ (by decide) | exact xc_ (by decide) | exact x31_ (by decide) | omega)]; omega) | (rw [if_neg (by first | assumption | decide | exact xs_ (by decide) | exact xc_ (by decide) | exact x31_ (by decide) | omega)]; omega) | (split <;> omega))) (by first | assumption | decide | exact xs_ (by decide) | exact xc_ (by decide) | exact x31_ (by decide) | omega) (by first | assumption | decide | exact xs_ (by decide) | exact xc_ (by decide) | exact x31_ (by decide) | omega)  
        · refine r_aload_n hC dX6_sumOf_20 rfl ?_
          refine r_iload_n hC dX6_sumOf_21 rfl ?_
          refine r_iload_n hC dX6_sumOf_22 rfl ?_
          refine z_inv2 hM dX6_sumOf_23 vl_RX6_80 rfl rfl rfl (Nat.le_of_ble_eq_true rfl) (Nat.le_of_ble_eq_true rfl) ?_
          refine y_of (by first | assumption | decide | exact xs_ (by decide) | exact xc_ (by decide) | exact x31_ (by decide) | omega) (by first | assumption | decide | exact xs_ (by decide) | exact xc_ (by decide) | exact x31_ (by decide) | omega) (by first | assumption | decide | exact xs_ (by decide) | exact xc_ (by decide) | exact x31_ (by decide) | omega) (fun o7 => ?_)
          have e8 : σ 31 0 (22 * w1 + 5) = (V 7 w1 6) := (hR.1.a7 (s := 6) (f := 5) (by first | assumption | decide | exact xs_ (by decide) | exact xc_ (by decide) | exact x31_ (by decide) | omega) (by first | assumption | decide | exact xs_ (by decide) | exact xc_ (by decide) | exact x31_ (by decide) | omega) (by first | assumption | decide | exact xs_ (by decide) | exact xc_ (by decide) | exact x31_ (by decide) | omega)).trans (rfl)
          rw [e8] at o7 ⊢
          have qo7 : 0 ≤ (V 7 w1 6) ∧ (V 7 w1 6) ≤ 121 := o7.1 (by first | assumption | decide | exact xs_ (by decide) | exact xc_ (by decide) | exact x31_ (by decide) | omega)
          refine r_goto (tgt := 30) hC dX6_sumOf_26 rfl ?_
          refine r_iaddE hC ((w2 + (V 7 w1 6))) dX6_sumOf_30 (by first | assumption | decide | exact xs_ (by decide) | exact xc_ (by decide) | exact x31_ (by decide) | omega) (by unfold inR; omega) ?_
          refine r_istore_n hC dX6_sumOf_31 rfl ?_
          refine r_iincE hC ((w1 + 1)) dX6_sumOf_32 rfl rfl (by first | assumption | decide | exact xs_ (by decide) | exact xc_ (by decide) | exact x31_ (by decide) | omega) (by unfold inR; omega) ?_
          refine r_goto (tgt := 4) hC dX6_sumOf_35 rfl ?_
          exact ih4 ((w1 + 1)) ((w2 + (V 7 w1 6)))  (by first | assumption | decide | exact xs_ (by decide) | exact xc_ (by decide) | exact x31_ (by decide) | omega) (by first | assumption | decide | exact xs_ (by decide) | exact xc_ (by decide) | exact x31_ (by decide) | omega) (by first | rfl | (rw [htN_I (by first | assumption | decide | exact xs_ (by decide) | exact xc_ (by decide) | exact x31_ (by decide) | omega), ← i0_4]; first | (rw [if_pos (by first | assumption | decide | exact xs_ (by decide) | exact xc_ (by decide) | exact x31_ (by decide) | omega)]; done) | (rw [if_neg (by first | assumption | decide | exact xs_ (by decide) | exact xc_ (by decide) | exact x31_ (by decide) | omega)]; done) | (rw [if_pos (by first | assumption | decide | exact xs_ (by decide) | exact xc_ (by decide) | exact x31_ (by decide) | omega)]; omega) | (rw [if_neg (by first | assumption | decide | exact xs_ (by decide) | exact xc_ (by decide) | exact x31_ (by decide) | omega)]; omega) | (split <;> omega))) (by first | assumption | decide | exact xs_ (by decide) | exact xc_ (by decide) | exact x31_ (by decide) | omega) (by first | assumption | decide | exact xs_ (by decide) | exact xc_ (by decide) | exact x31_ (by decide) | omega)  
  exact L4 6 (0) (0)  (by first | assumption | decide | exact xs_ (by decide) | exact xc_ (by decide) | exact x31_ (by decide) | omega) (by first | assumption | decide | exact xs_ (by decide) | exact xc_ (by decide) | exact x31_ (by decide) | omega) (by first | rfl | (rw [htN_I (by first | assumption | decide | exact xs_ (by decide) | exact xc_ (by decide) | exact x31_ (by decide) | omega), ← i0_4]; first | (rw [if_pos (by first | assumption | decide | exact xs_ (by decide) | exact xc_ (by decide) | exact x31_ (by decide) | omega)]; done) | (rw [if_neg (by first | assumption | decide | exact xs_ (by decide) | exact xc_ (by decide) | exact x31_ (by decide) | omega)]; done) | (rw [if_pos (by first | assumption | decide | exact xs_ (by decide) | exact xc_ (by decide) | exact x31_ (by decide) | omega)]; omega) | (rw [if_neg (by first | assumption | decide | exact xs_ (by decide) | exact xc_ (by decide) | exact x31_ (by decide) | omega)]; omega) | (split <;> omega))) (by first | assumption | decide | exact xs_ (by decide) | exact xc_ (by decide) | exact x31_ (by decide) | omega) (by first | assumption | decide | exact xs_ (by decide) | exact xc_ (by decide) | exact x31_ (by decide) | omega)  
theorem y_sumSpent {eb : Bool} {t : Int} {V : Mm} {d : Nat} {P : Option Vl → Mm → Prop} {σ : Mm}  {σ0 : Mm} (ht : 6 ≤ t ∧ t ≤ 7) (hR : RS t σ0 V σ) (hG : GI V)  (k : P (some (vI (spN V 4))) σ) : WT (true, eb, true) (d + 2) 256 [vR 30 0, vI 19] σ P := by
  refine WT_in fun K hK => ?_
  have hK : StpY (true, eb, true) cX6_sumOf RX6 (some .int) (WT (true, eb, true) (d + 1)) P K := hK
  have hM := hK.1
  have hC := hK.1.1
  show K 0 [some (vR 30 0), some (vI 19), none, none] [] σ
  refine r_iconst hC dX6_sumOf_0 rfl ?_
  refine r_istore_n hC dX6_sumOf_1 rfl ?_
  refine r_iconst hC dX6_sumOf_2 rfl ?_
  refine r_istore_n hC dX6_sumOf_3 rfl ?_
  have L4 : ∀ (n4 : Nat) (w1 w2 : Int), 0 ≤ w1 ∧ w1 ≤ 4 → -2147483648 ≤ w2 ∧ w2 ≤ 2147483647 → ((w2) = spN V ((w1)).toNat) → 4 - w1 < (n4 : Int) → K 4 [some (vR 30 0), some (vI 19), some (vI w2), some (vI w1)] [] σ := by
    intro n4
    induction n4 with
    | zero => intro w1 w2  f_w1 f_w2 i0_4 hm  ; omega
    | succ n4 ih4 =>
      intro w1 w2  f_w1 f_w2 i0_4 hm4  
      refine r_iload_n hC dX6_sumOf_4 rfl ?_
      refine r_iconst hC dX6_sumOf_5 rfl ?_
      refine r_icmp_ge (tgt := 38) hC dX6_sumOf_6 rfl (fun h3 => ?_) (fun h3 => ?_)
      · refine r_iload_n hC dX6_sumOf_38 rfl ?_
        refine y_iret hK rfl dX6_sumOf_39 ?_
        have e_ : (w1).toNat = 4 := by omega
        rw [← e_, ← i0_4] at k
        exact k
      · refine r_iload_n hC dX6_sumOf_9 rfl ?_
        refine r_aload_n hC dX6_sumOf_10 rfl ?_
        refine r_iload_n hC dX6_sumOf_11 rfl ?_
        refine r_iconst hC dX6_sumOf_12 rfl ?_
        refine z_inv2 hM dX6_sumOf_13 vl_RX6_80 rfl rfl rfl (Nat.le_of_ble_eq_true rfl) (Nat.le_of_ble_eq_true rfl) ?_
        refine y_of (by first | assumption | decide | exact xs_ (by decide) | exact xc_ (by decide) | exact x31_ (by decide) | omega) (by first | assumption | decide | exact xs_ (by decide) | exact xc_ (by decide) | exact x31_ (by decide) | omega) (by first | assumption | decide | exact xs_ (by decide) | exact xc_ (by decide) | exact x31_ (by decide) | omega) (fun o4 => ?_)
        have e5 : σ 31 0 (22 * w1 + 0) = (V 7 w1 1) := (hR.1.a7 (s := 1) (f := 0) (by first | assumption | decide | exact xs_ (by decide) | exact xc_ (by decide) | exact x31_ (by decide) | omega) (by first | assumption | decide | exact xs_ (by decide) | exact xc_ (by decide) | exact x31_ (by decide) | omega) (by first | assumption | decide | exact xs_ (by decide) | exact xc_ (by decide) | exact x31_ (by decide) | omega)).trans (rfl)
        rw [e5] at o4 ⊢
        have qo4 : 0 ≤ (V 7 w1 1) ∧ (V 7 w1 1) ≤ 1 := by have := o4.2 (by first | assumption | decide | exact xs_ (by decide) | exact xc_ (by decide) | exact x31_ (by decide) | omega); omega
        refine r_iconst hC dX6_sumOf_16 rfl ?_
        refine r_icmp_ne (tgt := 29) hC dX6_sumOf_17 rfl (fun h6 => ?_) (fun h6 => ?_)
        · refine r_iconst hC dX6_sumOf_29 rfl ?_
          refine r_iaddE hC (w2) dX6_sumOf_30 (by first | assumption | decide | exact xs_ (by decide) | exact xc_ (by decide) | exact x31_ (by decide) | omega) (by unfold inR; omega) ?_
          refine r_istore_n hC dX6_sumOf_31 rfl ?_
          refine r_iincE hC ((w1 + 1)) dX6_sumOf_32 rfl rfl (by first | assumption | decide | exact xs_ (by decide) | exact xc_ (by decide) | exact x31_ (by decide) | omega) (by unfold inR; omega) ?_
          refine r_goto (tgt := 4) hC dX6_sumOf_35 rfl ?_
          exact ih4 ((w1 + 1)) (w2)  (by first | assumption | decide | exact xs_ (by decide) | exact xc_ (by decide) | exact x31_ (by decide) | omega) (by first | assumption | decide | exact xs_ (by decide) | exact xc_ (by decide) | exact x31_ (by decide) | omega) (by first | rfl | (rw [spN_I (by first | assumption | decide | exact xs_ (by decide) | exact xc_ (by decide) | exact x31_ (by decide) | omega), ← i0_4]; first | (rw [if_pos (by first | assumption | decide | exact xs_ (by decide) | exact xc_ (by decide) | exact x31_ (by decide) | omega)]; done) | (rw [if_neg (by first | assumption | decide | exact xs_ (by decide) | exact xc_ (by decide) | exact x31_ (by decide) | omega)]; done) | (rw [if_pos (by first | assumption | decide | exact xs_ (by decide) | exact xc_ (by decide) | exact x31_ (by decide) | omega)]; omega) | (rw [if_neg (by first | assumption | decide | exact xs_ (by decide) | exact xc_ (by decide) | exact x31_ (by decide) | omega)]; omega) | (split <;> omega))) (by first | assumption | decide | exact xs_ (by decide) | exact xc_ (by decide) | exact x31_ (by decide) | omega)  
        · refine r_aload_n hC dX6_sumOf_20 rfl ?_
          refine r_iload_n hC dX6_sumOf_21 rfl ?_
          refine r_iload_n hC dX6_sumOf_22 rfl ?_
          refine z_inv2 hM dX6_sumOf_23 vl_RX6_80 rfl rfl rfl (Nat.le_of_ble_eq_true rfl) (Nat.le_of_ble_eq_true rfl) ?_
          refine y_of (by first | assumption | decide | exact xs_ (by decide) | exact xc_ (by decide) | exact x31_ (by decide) | omega) (by first | assumption | decide | exact xs_ (by decide) | exact xc_ (by decide) | exact x31_ (by decide) | omega) (by first | assumption | decide | exact xs_ (by decide) | exact xc_ (by decide) | exact x31_ (by decide) | omega) (fun o7 => ?_)
          have e8 : σ 31 0 (22 * w1 + 19) = (V 11 w1 5) := (hR.1.a11 (s := 5) (f := 19) (by first | assumption | decide | exact xs_ (by decide) | exact xc_ (by decide) | exact x31_ (by decide) | omega) (by first | assumption | decide | exact xs_ (by decide) | exact xc_ (by decide) | exact x31_ (by decide) | omega) (by first | assumption | decide | exact xs_ (by decide) | exact xc_ (by decide) | exact x31_ (by decide) | omega)).trans (rfl)
          rw [e8] at o7 ⊢
          refine r_goto (tgt := 30) hC dX6_sumOf_26 rfl ?_
          refine r_iadd hC dX6_sumOf_30 ?_
          have f9 := inR_le (inR_wr (w2 + (V 11 w1 5)))
          refine r_istore_n hC dX6_sumOf_31 rfl ?_
          refine r_iincE hC ((w1 + 1)) dX6_sumOf_32 rfl rfl (by first | assumption | decide | exact xs_ (by decide) | exact xc_ (by decide) | exact x31_ (by decide) | omega) (by unfold inR; omega) ?_
          refine r_goto (tgt := 4) hC dX6_sumOf_35 rfl ?_
          exact ih4 ((w1 + 1)) ((wr (w2 + (V 11 w1 5))))  (by first | assumption | decide | exact xs_ (by decide) | exact xc_ (by decide) | exact x31_ (by decide) | omega) (by first | assumption | decide | exact xs_ (by decide) | exact xc_ (by decide) | exact x31_ (by decide) | omega) (by first | rfl | (rw [spN_I (by first | assumption | decide | exact xs_ (by decide) | exact xc_ (by decide) | exact x31_ (by decide) | omega), ← i0_4]; first | (rw [if_pos (by first | assumption | decide | exact xs_ (by decide) | exact xc_ (by decide) | exact x31_ (by decide) | omega)]; done) | (rw [if_neg (by first | assumption | decide | exact xs_ (by decide) | exact xc_ (by decide) | exact x31_ (by decide) | omega)]; done) | (rw [if_pos (by first | assumption | decide | exact xs_ (by decide) | exact xc_ (by decide) | exact x31_ (by decide) | omega)]; omega) | (rw [if_neg (by first | assumption | decide | exact xs_ (by decide) | exact xc_ (by decide) | exact x31_ (by decide) | omega)]; omega) | (split <;> omega))) (by first | assumption | decide | exact xs_ (by decide) | exact xc_ (by decide) | exact x31_ (by decide) | omega)  
  exact L4 6 (0) (0)  (by first | assumption | decide | exact xs_ (by decide) | exact xc_ (by decide) | exact x31_ (by decide) | omega) (by first | assumption | decide | exact xs_ (by decide) | exact xc_ (by decide) | exact x31_ (by decide) | omega) (by first | rfl | (rw [spN_I (by first | assumption | decide | exact xs_ (by decide) | exact xc_ (by decide) | exact x31_ (by decide) | omega), ← i0_4]; first | (rw [if_pos (by first | assumption | decide | exact xs_ (by decide) | exact xc_ (by decide) | exact x31_ (by decide) | omega)]; done) | (rw [if_neg (by first | assumption | decide | exact xs_ (by decide) | exact xc_ (by decide) | exact x31_ (by decide) | omega)]; done) | (rw [if_pos (by first | assumption | decide | exact xs_ (by decide) | exact xc_ (by decide) | exact x31_ (by decide) | omega)]; omega) | (rw [if_neg (by first | assumption | decide | exact xs_ (by decide) | exact xc_ (by decide) | exact x31_ (by decide) | omega)]; omega) | (split <;> omega))) (by first | assumption | decide | exact xs_ (by decide) | exact xc_ (by decide) | exact x31_ (by decide) | omega)  
theorem y_boxesNow {eb : Bool} {t : Int} {V : Mm} {d : Nat} {P : Option Vl → Mm → Prop} {σ : Mm}  {σ0 : Mm} (ht : 6 ≤ t ∧ t ≤ 7) (hR : RS t σ0 V σ) (hG : GI V)  (k : P (some (vI (bxN V 3))) σ) : WT (true, eb, true) (d + 2) 257 [vR 30 0] σ P := by
  refine WT_in fun K hK => ?_
  have hK : StpY (true, eb, true) cX6_boxesNow RX6 (some .int) (WT (true, eb, true) (d + 1)) P K := hK
  have hM := hK.1
  have hC := hK.1.1
  show K 0 [some (vR 30 0), none, none] [] σ
  refine r_iconst hC dX6_boxesNow_0 rfl ?_
  refine r_istore_n hC dX6_boxesNow_1 rfl ?_
  refine r_iconst hC dX6_boxesNow_2 rfl ?_
  refine r_istore_n hC dX6_boxesNow_3 rfl ?_
  have L4 : ∀ (n4 : Nat) (w1 w2 : Int), 0 ≤ w1 ∧ w1 ≤ 3 → 0 ≤ w2 ∧ w2 ≤ 3 → ((w1) = bxN V ((w2)).toNat) → ((w1) ≤ (w2)) → 3 - w2 < (n4 : Int) → K 4 [some (vR 30 0), some (vI w1), some (vI w2)] [] σ := by
    intro n4
    induction n4 with
    | zero => intro w1 w2  f_w1 f_w2 i0_4 i1_4 hm  ; omega
    | succ n4 ih4 =>
      intro w1 w2  f_w1 f_w2 i0_4 i1_4 hm4  
      refine r_iload_n hC dX6_boxesNow_4 rfl ?_
      refine r_iconst hC dX6_boxesNow_5 rfl ?_
      refine r_icmp_ge (tgt := 26) hC dX6_boxesNow_6 rfl (fun h3 => ?_) (fun h3 => ?_)
      · refine r_iload_n hC dX6_boxesNow_26 rfl ?_
        refine y_iret hK rfl dX6_boxesNow_27 ?_
        have e_ : (w2).toNat = 3 := by omega
        rw [← e_, ← i0_4] at k
        exact k
      · refine r_iload_n hC dX6_boxesNow_9 rfl ?_
        refine r_aload_n hC dX6_boxesNow_10 rfl ?_
        refine r_iconst hC dX6_boxesNow_11 rfl ?_
        refine r_iload_n hC dX6_boxesNow_12 rfl ?_
        refine r_iaddE hC ((w2 + 4)) dX6_boxesNow_13 (by first | assumption | decide | exact xs_ (by decide) | exact xc_ (by decide) | exact x31_ (by decide) | omega) (by unfold inR; omega) ?_
        refine r_iconst hC dX6_boxesNow_14 rfl ?_
        refine z_inv2 hM dX6_boxesNow_15 vl_RX6_80 rfl rfl rfl (Nat.le_of_ble_eq_true rfl) (Nat.le_of_ble_eq_true rfl) ?_
        refine y_of (by first | assumption | decide | exact xs_ (by decide) | exact xc_ (by decide) | exact x31_ (by decide) | omega) (by first | assumption | decide | exact xs_ (by decide) | exact xc_ (by decide) | exact x31_ (by decide) | omega) (by first | assumption | decide | exact xs_ (by decide) | exact xc_ (by decide) | exact x31_ (by decide) | omega) (fun o4 => ?_)
        have e5 : σ 31 0 (22 * (w2 + 4) + 0) = (V 7 (w2 + 4) 1) := (hR.1.a7 (s := 1) (f := 0) (by first | assumption | decide | exact xs_ (by decide) | exact xc_ (by decide) | exact x31_ (by decide) | omega) (by first | assumption | decide | exact xs_ (by decide) | exact xc_ (by decide) | exact x31_ (by decide) | omega) (by first | assumption | decide | exact xs_ (by decide) | exact xc_ (by decide) | exact x31_ (by decide) | omega)).trans (rfl)
        rw [e5] at o4 ⊢
        have qo4 : 0 ≤ (V 7 (w2 + 4) 1) ∧ (V 7 (w2 + 4) 1) ≤ 1 := by have := o4.2 (by first | assumption | decide | exact xs_ (by decide) | exact xc_ (by decide) | exact x31_ (by decide) | omega); omega
        have hA_ := (hG.2.1.2.2.2.1 (w2 + 4) (by first | assumption | decide | exact xs_ (by decide) | exact xc_ (by decide) | exact x31_ (by decide) | omega) (by first | assumption | decide | exact xs_ (by decide) | exact xc_ (by decide) | exact x31_ (by decide) | omega)).1
        have hA2_ : 0 ≤ (V 7 (w2 + 4) 1) ∧ (V 7 (w2 + 4) 1) ≤ 1 := by omega
        refine r_iaddE hC ((w1 + (V 7 (w2 + 4) 1))) dX6_boxesNow_18 (by first | assumption | decide | exact xs_ (by decide) | exact xc_ (by decide) | exact x31_ (by decide) | omega) (by unfold inR; omega) ?_
        refine r_istore_n hC dX6_boxesNow_19 rfl ?_
        refine r_iincE hC ((w2 + 1)) dX6_boxesNow_20 rfl rfl (by first | assumption | decide | exact xs_ (by decide) | exact xc_ (by decide) | exact x31_ (by decide) | omega) (by unfold inR; omega) ?_
        refine r_goto (tgt := 4) hC dX6_boxesNow_23 rfl ?_
        exact ih4 ((w1 + (V 7 (w2 + 4) 1))) ((w2 + 1))  (by first | assumption | decide | exact xs_ (by decide) | exact xc_ (by decide) | exact x31_ (by decide) | omega) (by first | assumption | decide | exact xs_ (by decide) | exact xc_ (by decide) | exact x31_ (by decide) | omega) (by first | rfl | (rw [bxN_I (by first | assumption | decide | exact xs_ (by decide) | exact xc_ (by decide) | exact x31_ (by decide) | omega), ← i0_4]; first | (rw [if_pos (by first | assumption | decide | exact xs_ (by decide) | exact xc_ (by decide) | exact x31_ (by decide) | omega)]; done) | (rw [if_neg (by first | assumption | decide | exact xs_ (by decide) | exact xc_ (by decide) | exact x31_ (by decide) | omega)]; done) | (rw [if_pos (by first | assumption | decide | exact xs_ (by decide) | exact xc_ (by decide) | exact x31_ (by decide) | omega)]; omega) | (rw [if_neg (by first | assumption | decide | exact xs_ (by decide) | exact xc_ (by decide) | exact x31_ (by decide) | omega)]; omega) | (split <;> omega))) (by first | assumption | decide | exact xs_ (by decide) | exact xc_ (by decide) | exact x31_ (by decide) | omega) (by first | assumption | decide | exact xs_ (by decide) | exact xc_ (by decide) | exact x31_ (by decide) | omega)  
  exact L4 5 (0) (0)  (by first | assumption | decide | exact xs_ (by decide) | exact xc_ (by decide) | exact x31_ (by decide) | omega) (by first | assumption | decide | exact xs_ (by decide) | exact xc_ (by decide) | exact x31_ (by decide) | omega) (by first | rfl | (rw [bxN_I (by first | assumption | decide | exact xs_ (by decide) | exact xc_ (by decide) | exact x31_ (by decide) | omega), ← i0_4]; first | (rw [if_pos (by first | assumption | decide | exact xs_ (by decide) | exact xc_ (by decide) | exact x31_ (by decide) | omega)]; done) | (rw [if_neg (by first | assumption | decide | exact xs_ (by decide) | exact xc_ (by decide) | exact x31_ (by decide) | omega)]; done) | (rw [if_pos (by first | assumption | decide | exact xs_ (by decide) | exact xc_ (by decide) | exact x31_ (by decide) | omega)]; omega) | (rw [if_neg (by first | assumption | decide | exact xs_ (by decide) | exact xc_ (by decide) | exact x31_ (by decide) | omega)]; omega) | (split <;> omega))) (by first | assumption | decide | exact xs_ (by decide) | exact xc_ (by decide) | exact x31_ (by decide) | omega) (by first | assumption | decide | exact xs_ (by decide) | exact xc_ (by decide) | exact x31_ (by decide) | omega)  
theorem y_toldPlain {eb : Bool} {t : Int} {V : Mm} {d : Nat} {P : Option Vl → Mm → Prop} {σ : Mm}  {σ0 : Mm} (ht : 6 ≤ t ∧ t ≤ 7) (hR : RS t σ0 V σ) (hG : GI V)  (k : P (some (vI (wcN V 8))) σ) : WT (true, eb, true) (d + 3) 258 [vR 30 0, vI 0] σ P := by
  refine WT_in fun K hK => ?_
  have hK : StpY (true, eb, true) cX6_toldNow RX6 (some .int) (WT (true, eb, true) (d + 2)) P K := hK
  have hM := hK.1
  have hC := hK.1.1
  show K 0 [some (vR 30 0), some (vI 0), none, none] [] σ
  refine r_iconst hC dX6_toldNow_0 rfl ?_
  refine r_istore_n hC dX6_toldNow_1 rfl ?_
  refine r_iconst hC dX6_toldNow_2 rfl ?_
  refine r_istore_n hC dX6_toldNow_3 rfl ?_
  have L4 : ∀ (n4 : Nat) (w1 w2 : Int), 0 ≤ w1 ∧ w1 ≤ 8 → 0 ≤ w2 ∧ w2 ≤ 8 → ((w1) = wcN V ((w2)).toNat) → ((w1) ≤ (w2)) → 8 - w2 < (n4 : Int) → K 4 [some (vR 30 0), some (vI 0), some (vI w1), some (vI w2)] [] σ := by
    intro n4
    induction n4 with
    | zero => intro w1 w2  f_w1 f_w2 i0_4 i1_4 hm  ; omega
    | succ n4 ih4 =>
      intro w1 w2  f_w1 f_w2 i0_4 i1_4 hm4  
      refine r_iload_n hC dX6_toldNow_4 rfl ?_
      refine r_bipush hC dX6_toldNow_5 rfl ?_
      refine r_icmp_ge (tgt := 41) hC dX6_toldNow_7 rfl (fun h3 => ?_) (fun h3 => ?_)
      · refine r_iload_n hC dX6_toldNow_41 rfl ?_
        refine y_iret hK rfl dX6_toldNow_42 ?_
        have e_ : (w2).toNat = 8 := by omega
        rw [← e_, ← i0_4] at k
        exact k
      · refine r_aload_n hC dX6_toldNow_10 rfl ?_
        refine r_iload_n hC dX6_toldNow_11 rfl ?_
        refine z_inv1 hM dX6_toldNow_12 vl_RX6_210 rfl rfl rfl (Nat.le_of_ble_eq_true rfl) (Nat.le_of_ble_eq_true rfl) ?_
        refine y_isTold (V := V) ht ⟨hR.1, hR.2.1, hR.2.2⟩ hG (fun h4 => ?_) (fun h4 => ?_)
        · refine r_if_eq (tgt := 35) hC dX6_toldNow_15 rfl (fun h5 => by omega) (fun h5 => ?_)
          refine r_iload_n hC dX6_toldNow_18 rfl ?_
          refine r_iload_n hC dX6_toldNow_19 rfl ?_
          refine r_if_eq (tgt := 32) hC dX6_toldNow_20 rfl (fun h6 => ?_) (fun h6 => by omega)
          refine r_iconst hC dX6_toldNow_32 rfl ?_
          refine r_iaddE hC ((w1 + 1)) dX6_toldNow_33 (by first | assumption | decide | exact xs_ (by decide) | exact xc_ (by decide) | exact x31_ (by decide) | omega) (by unfold inR; omega) ?_
          refine r_istore_n hC dX6_toldNow_34 rfl ?_
          refine r_iincE hC ((w2 + 1)) dX6_toldNow_35 rfl rfl (by first | assumption | decide | exact xs_ (by decide) | exact xc_ (by decide) | exact x31_ (by decide) | omega) (by unfold inR; omega) ?_
          refine r_goto (tgt := 4) hC dX6_toldNow_38 rfl ?_
          exact ih4 ((w1 + 1)) ((w2 + 1))  (by first | assumption | decide | exact xs_ (by decide) | exact xc_ (by decide) | exact x31_ (by decide) | omega) (by first | assumption | decide | exact xs_ (by decide) | exact xc_ (by decide) | exact x31_ (by decide) | omega) (by first | rfl | (rw [wcN_I (by first | assumption | decide | exact xs_ (by decide) | exact xc_ (by decide) | exact x31_ (by decide) | omega), ← i0_4]; first | (rw [if_pos (by first | assumption | decide | exact xs_ (by decide) | exact xc_ (by decide) | exact x31_ (by decide) | omega)]; done) | (rw [if_neg (by first | assumption | decide | exact xs_ (by decide) | exact xc_ (by decide) | exact x31_ (by decide) | omega)]; done) | (rw [if_pos (by first | assumption | decide | exact xs_ (by decide) | exact xc_ (by decide) | exact x31_ (by decide) | omega)]; omega) | (rw [if_neg (by first | assumption | decide | exact xs_ (by decide) | exact xc_ (by decide) | exact x31_ (by decide) | omega)]; omega) | (split <;> omega))) (by first | assumption | decide | exact xs_ (by decide) | exact xc_ (by decide) | exact x31_ (by decide) | omega) (by first | assumption | decide | exact xs_ (by decide) | exact xc_ (by decide) | exact x31_ (by decide) | omega)  
        · refine r_if_eq (tgt := 35) hC dX6_toldNow_15 rfl (fun h7 => ?_) (fun h7 => by omega)
          refine r_iincE hC ((w2 + 1)) dX6_toldNow_35 rfl rfl (by first | assumption | decide | exact xs_ (by decide) | exact xc_ (by decide) | exact x31_ (by decide) | omega) (by unfold inR; omega) ?_
          refine r_goto (tgt := 4) hC dX6_toldNow_38 rfl ?_
          exact ih4 (w1) ((w2 + 1))  (by first | assumption | decide | exact xs_ (by decide) | exact xc_ (by decide) | exact x31_ (by decide) | omega) (by first | assumption | decide | exact xs_ (by decide) | exact xc_ (by decide) | exact x31_ (by decide) | omega) (by first | rfl | (rw [wcN_I (by first | assumption | decide | exact xs_ (by decide) | exact xc_ (by decide) | exact x31_ (by decide) | omega), ← i0_4]; first | (rw [if_pos (by first | assumption | decide | exact xs_ (by decide) | exact xc_ (by decide) | exact x31_ (by decide) | omega)]; done) | (rw [if_neg (by first | assumption | decide | exact xs_ (by decide) | exact xc_ (by decide) | exact x31_ (by decide) | omega)]; done) | (rw [if_pos (by first | assumption | decide | exact xs_ (by decide) | exact xc_ (by decide) | exact x31_ (by decide) | omega)]; omega) | (rw [if_neg (by first | assumption | decide | exact xs_ (by decide) | exact xc_ (by decide) | exact x31_ (by decide) | omega)]; omega) | (split <;> omega))) (by first | assumption | decide | exact xs_ (by decide) | exact xc_ (by decide) | exact x31_ (by decide) | omega) (by first | assumption | decide | exact xs_ (by decide) | exact xc_ (by decide) | exact x31_ (by decide) | omega)  
  exact L4 10 (0) (0)  (by first | assumption | decide | exact xs_ (by decide) | exact xc_ (by decide) | exact x31_ (by decide) | omega) (by first | assumption | decide | exact xs_ (by decide) | exact xc_ (by decide) | exact x31_ (by decide) | omega) (by first | rfl | (rw [wcN_I (by first | assumption | decide | exact xs_ (by decide) | exact xc_ (by decide) | exact x31_ (by decide) | omega), ← i0_4]; first | (rw [if_pos (by first | assumption | decide | exact xs_ (by decide) | exact xc_ (by decide) | exact x31_ (by decide) | omega)]; done) | (rw [if_neg (by first | assumption | decide | exact xs_ (by decide) | exact xc_ (by decide) | exact x31_ (by decide) | omega)]; done) | (rw [if_pos (by first | assumption | decide | exact xs_ (by decide) | exact xc_ (by decide) | exact x31_ (by decide) | omega)]; omega) | (rw [if_neg (by first | assumption | decide | exact xs_ (by decide) | exact xc_ (by decide) | exact x31_ (by decide) | omega)]; omega) | (split <;> omega))) (by first | assumption | decide | exact xs_ (by decide) | exact xc_ (by decide) | exact x31_ (by decide) | omega) (by first | assumption | decide | exact xs_ (by decide) | exact xc_ (by decide) | exact x31_ (by decide) | omega)  
theorem y_toldRings {eb : Bool} {t : Int} {V : Mm} {d : Nat} {P : Option Vl → Mm → Prop} {σ : Mm}  {σ0 : Mm} (ht : 6 ≤ t ∧ t ≤ 7) (hR : RS t σ0 V σ) (hG : GI V)  (k : P (some (vI (rgN V 8))) σ) : WT (true, eb, true) (d + 3) 258 [vR 30 0, vI 1] σ P := by
  refine WT_in fun K hK => ?_
  have hK : StpY (true, eb, true) cX6_toldNow RX6 (some .int) (WT (true, eb, true) (d + 2)) P K := hK
  have hM := hK.1
  have hC := hK.1.1
  show K 0 [some (vR 30 0), some (vI 1), none, none] [] σ
  refine r_iconst hC dX6_toldNow_0 rfl ?_
  refine r_istore_n hC dX6_toldNow_1 rfl ?_
  refine r_iconst hC dX6_toldNow_2 rfl ?_
  refine r_istore_n hC dX6_toldNow_3 rfl ?_
  have L4 : ∀ (n4 : Nat) (w1 w2 : Int), -2147483648 ≤ w1 ∧ w1 ≤ 2147483647 → 0 ≤ w2 ∧ w2 ≤ 8 → ((w1) = rgN V ((w2)).toNat) → 8 - w2 < (n4 : Int) → K 4 [some (vR 30 0), some (vI 1), some (vI w1), some (vI w2)] [] σ := by
    intro n4
    induction n4 with
    | zero => intro w1 w2  f_w1 f_w2 i0_4 hm  ; omega
    | succ n4 ih4 =>
      intro w1 w2  f_w1 f_w2 i0_4 hm4  
      refine r_iload_n hC dX6_toldNow_4 rfl ?_
      refine r_bipush hC dX6_toldNow_5 rfl ?_
      refine r_icmp_ge (tgt := 41) hC dX6_toldNow_7 rfl (fun h3 => ?_) (fun h3 => ?_)
      · refine r_iload_n hC dX6_toldNow_41 rfl ?_
        refine y_iret hK rfl dX6_toldNow_42 ?_
        have e_ : (w2).toNat = 8 := by omega
        rw [← e_, ← i0_4] at k
        exact k
      · refine r_aload_n hC dX6_toldNow_10 rfl ?_
        refine r_iload_n hC dX6_toldNow_11 rfl ?_
        refine z_inv1 hM dX6_toldNow_12 vl_RX6_210 rfl rfl rfl (Nat.le_of_ble_eq_true rfl) (Nat.le_of_ble_eq_true rfl) ?_
        refine y_isTold (V := V) ht ⟨hR.1, hR.2.1, hR.2.2⟩ hG (fun h4 => ?_) (fun h4 => ?_)
        · refine r_if_eq (tgt := 35) hC dX6_toldNow_15 rfl (fun h5 => by omega) (fun h5 => ?_)
          refine r_iload_n hC dX6_toldNow_18 rfl ?_
          refine r_iload_n hC dX6_toldNow_19 rfl ?_
          refine r_if_eq (tgt := 32) hC dX6_toldNow_20 rfl (fun h6 => by omega) (fun h6 => ?_)
          refine r_aload_n hC dX6_toldNow_23 rfl ?_
          refine z_getR hM dX6_toldNow_24 fl_RX6_46 rfl rfl (vld_of (n := 1) rfl (by first | assumption | decide | exact xs_ (by decide) | exact xc_ (by decide) | exact x31_ (by decide) | omega) (by first | assumption | decide | exact xs_ (by decide) | exact xc_ (by decide) | exact x31_ (by decide) | omega)) ?_
          refine r_iload_n hC dX6_toldNow_27 rfl ?_
          refine z_iald hM dX6_toldNow_28 rfl (by first | assumption | decide | exact xs_ (by decide) | exact xc_ (by decide) | exact x31_ (by decide) | omega) (by first | assumption | decide | exact xs_ (by decide) | exact xc_ (by decide) | exact x31_ (by decide) | omega) (fun v7 h_v7 o_v7 t_v7 => ?_)
          have w_v7 := ((t_v7 (Or.inl (by simp [Tb]))).trans ((hR.1.w4 (by first | assumption | decide | exact xs_ (by decide) | exact xc_ (by decide) | exact x31_ (by decide) | omega) (by first | assumption | decide | exact xs_ (by decide) | exact xc_ (by decide) | exact x31_ (by decide) | omega)).trans (rfl))).symm
          clear t_v7
          subst w_v7
          refine r_goto (tgt := 33) hC dX6_toldNow_29 rfl ?_
          refine r_iadd hC dX6_toldNow_33 ?_
          have f8 := inR_le (inR_wr (w1 + (V 12 w2 4)))
          refine r_istore_n hC dX6_toldNow_34 rfl ?_
          refine r_iincE hC ((w2 + 1)) dX6_toldNow_35 rfl rfl (by first | assumption | decide | exact xs_ (by decide) | exact xc_ (by decide) | exact x31_ (by decide) | omega) (by unfold inR; omega) ?_
          refine r_goto (tgt := 4) hC dX6_toldNow_38 rfl ?_
          exact ih4 ((wr (w1 + (V 12 w2 4)))) ((w2 + 1))  (by first | assumption | decide | exact xs_ (by decide) | exact xc_ (by decide) | exact x31_ (by decide) | omega) (by first | assumption | decide | exact xs_ (by decide) | exact xc_ (by decide) | exact x31_ (by decide) | omega) (by first | rfl | (rw [rgN_I (by first | assumption | decide | exact xs_ (by decide) | exact xc_ (by decide) | exact x31_ (by decide) | omega), ← i0_4]; first | (rw [if_pos (by first | assumption | decide | exact xs_ (by decide) | exact xc_ (by decide) | exact x31_ (by decide) | omega)]; done) | (rw [if_neg (by first | assumption | decide | exact xs_ (by decide) | exact xc_ (by decide) | exact x31_ (by decide) | omega)]; done) | (rw [if_pos (by first | assumption | decide | exact xs_ (by decide) | exact xc_ (by decide) | exact x31_ (by decide) | omega)]; omega) | (rw [if_neg (by first | assumption | decide | exact xs_ (by decide) | exact xc_ (by decide) | exact x31_ (by decide) | omega)]; omega) | (split <;> omega))) (by first | assumption | decide | exact xs_ (by decide) | exact xc_ (by decide) | exact x31_ (by decide) | omega)  
        · refine r_if_eq (tgt := 35) hC dX6_toldNow_15 rfl (fun h9 => ?_) (fun h9 => by omega)
          refine r_iincE hC ((w2 + 1)) dX6_toldNow_35 rfl rfl (by first | assumption | decide | exact xs_ (by decide) | exact xc_ (by decide) | exact x31_ (by decide) | omega) (by unfold inR; omega) ?_
          refine r_goto (tgt := 4) hC dX6_toldNow_38 rfl ?_
          exact ih4 (w1) ((w2 + 1))  (by first | assumption | decide | exact xs_ (by decide) | exact xc_ (by decide) | exact x31_ (by decide) | omega) (by first | assumption | decide | exact xs_ (by decide) | exact xc_ (by decide) | exact x31_ (by decide) | omega) (by first | rfl | (rw [rgN_I (by first | assumption | decide | exact xs_ (by decide) | exact xc_ (by decide) | exact x31_ (by decide) | omega), ← i0_4]; first | (rw [if_pos (by first | assumption | decide | exact xs_ (by decide) | exact xc_ (by decide) | exact x31_ (by decide) | omega)]; done) | (rw [if_neg (by first | assumption | decide | exact xs_ (by decide) | exact xc_ (by decide) | exact x31_ (by decide) | omega)]; done) | (rw [if_pos (by first | assumption | decide | exact xs_ (by decide) | exact xc_ (by decide) | exact x31_ (by decide) | omega)]; omega) | (rw [if_neg (by first | assumption | decide | exact xs_ (by decide) | exact xc_ (by decide) | exact x31_ (by decide) | omega)]; omega) | (split <;> omega))) (by first | assumption | decide | exact xs_ (by decide) | exact xc_ (by decide) | exact x31_ (by decide) | omega)  
  exact L4 10 (0) (0)  (by first | assumption | decide | exact xs_ (by decide) | exact xc_ (by decide) | exact x31_ (by decide) | omega) (by first | assumption | decide | exact xs_ (by decide) | exact xc_ (by decide) | exact x31_ (by decide) | omega) (by first | rfl | (rw [rgN_I (by first | assumption | decide | exact xs_ (by decide) | exact xc_ (by decide) | exact x31_ (by decide) | omega), ← i0_4]; first | (rw [if_pos (by first | assumption | decide | exact xs_ (by decide) | exact xc_ (by decide) | exact x31_ (by decide) | omega)]; done) | (rw [if_neg (by first | assumption | decide | exact xs_ (by decide) | exact xc_ (by decide) | exact x31_ (by decide) | omega)]; done) | (rw [if_pos (by first | assumption | decide | exact xs_ (by decide) | exact xc_ (by decide) | exact x31_ (by decide) | omega)]; omega) | (rw [if_neg (by first | assumption | decide | exact xs_ (by decide) | exact xc_ (by decide) | exact x31_ (by decide) | omega)]; omega) | (split <;> omega))) (by first | assumption | decide | exact xs_ (by decide) | exact xc_ (by decide) | exact x31_ (by decide) | omega)  
theorem y_linksNow {eb : Bool} {t : Int} {V : Mm} {d : Nat} {P : Option Vl → Mm → Prop} {σ : Mm}  {σ0 : Mm} (ht : 6 ≤ t ∧ t ≤ 7) (hR : RS t σ0 V σ) (hG : GI V)  (k : P (some (vI (lnN V 4))) σ) : WT (true, eb, true) (d + 1) 259 [vR 30 0] σ P := by
  refine WT_in fun K hK => ?_
  have hK : StpY (true, eb, true) cX6_linksNow RX6 (some .int) (WT (true, eb, true) (d + 0)) P K := hK
  have hM := hK.1
  have hC := hK.1.1
  show K 0 [some (vR 30 0), none, none] [] σ
  have hlkA : ∀ l : Int, 0 ≤ l → l ≤ 3 → V 13 l 0 = -1 ∨ 0 ≤ V 13 l 0 := fun l a b => by
    rcases hG.2.1.2.2.2.2.2.1 l a b with q | q
    · exact Or.inl q
    · exact Or.inr q.2.1.1.1
  refine r_iconst hC dX6_linksNow_0 rfl ?_
  refine r_istore_n hC dX6_linksNow_1 rfl ?_
  refine r_iconst hC dX6_linksNow_2 rfl ?_
  refine r_istore_n hC dX6_linksNow_3 rfl ?_
  have L4 : ∀ (n4 : Nat) (w1 w2 : Int), 0 ≤ w1 ∧ w1 ≤ 4 → 0 ≤ w2 ∧ w2 ≤ 4 → ((w2) = lnN V ((w1)).toNat) → ((w2) ≤ (w1)) → 4 - w1 < (n4 : Int) → K 4 [some (vR 30 0), some (vI w2), some (vI w1)] [] σ := by
    intro n4
    induction n4 with
    | zero => intro w1 w2  f_w1 f_w2 i0_4 i1_4 hm  ; omega
    | succ n4 ih4 =>
      intro w1 w2  f_w1 f_w2 i0_4 i1_4 hm4  
      refine r_iload_n hC dX6_linksNow_4 rfl ?_
      refine r_iconst hC dX6_linksNow_5 rfl ?_
      refine r_icmp_ge (tgt := 32) hC dX6_linksNow_6 rfl (fun h3 => ?_) (fun h3 => ?_)
      · refine r_iload_n hC dX6_linksNow_32 rfl ?_
        refine y_iret hK rfl dX6_linksNow_33 ?_
        have e_ : (w1).toNat = 4 := by omega
        rw [← e_, ← i0_4] at k
        exact k
      · refine r_iload_n hC dX6_linksNow_9 rfl ?_
        refine r_aload_n hC dX6_linksNow_10 rfl ?_
        refine z_getR hM dX6_linksNow_11 fl_RX6_52 rfl rfl (vld_of (n := 1) rfl (by first | assumption | decide | exact xs_ (by decide) | exact xc_ (by decide) | exact x31_ (by decide) | omega) (by first | assumption | decide | exact xs_ (by decide) | exact xc_ (by decide) | exact x31_ (by decide) | omega)) ?_
        refine r_iload_n hC dX6_linksNow_14 rfl ?_
        refine z_iald hM dX6_linksNow_15 rfl (by first | assumption | decide | exact xs_ (by decide) | exact xc_ (by decide) | exact x31_ (by decide) | omega) (by first | assumption | decide | exact xs_ (by decide) | exact xc_ (by decide) | exact x31_ (by decide) | omega) (fun v4 h_v4 o_v4 t_v4 => ?_)
        have w_v4 := ((t_v4 (Or.inl (by simp [Tb]))).trans ((hR.1.k0 (by first | assumption | decide | exact xs_ (by decide) | exact xc_ (by decide) | exact x31_ (by decide) | omega) (by first | assumption | decide | exact xs_ (by decide) | exact xc_ (by decide) | exact x31_ (by decide) | omega)).trans (rfl))).symm
        clear t_v4
        subst w_v4
        have q_v4 : -1 ≤ (V 13 w1 0) ∧ (V 13 w1 0) ≤ 3 := o_v4
        have hA_ := hlkA w1 (by first | assumption | decide | exact xs_ (by decide) | exact xc_ (by decide) | exact x31_ (by decide) | omega) (by first | assumption | decide | exact xs_ (by decide) | exact xc_ (by decide) | exact x31_ (by decide) | omega)
        refine r_if_lt (tgt := 23) hC dX6_linksNow_16 rfl (fun h5 => ?_) (fun h5 => ?_)
        · refine r_iconst hC dX6_linksNow_23 rfl ?_
          refine r_iaddE hC (w2) dX6_linksNow_24 (by first | assumption | decide | exact xs_ (by decide) | exact xc_ (by decide) | exact x31_ (by decide) | omega) (by unfold inR; omega) ?_
          refine r_istore_n hC dX6_linksNow_25 rfl ?_
          refine r_iincE hC ((w1 + 1)) dX6_linksNow_26 rfl rfl (by first | assumption | decide | exact xs_ (by decide) | exact xc_ (by decide) | exact x31_ (by decide) | omega) (by unfold inR; omega) ?_
          refine r_goto (tgt := 4) hC dX6_linksNow_29 rfl ?_
          exact ih4 ((w1 + 1)) (w2)  (by first | assumption | decide | exact xs_ (by decide) | exact xc_ (by decide) | exact x31_ (by decide) | omega) (by first | assumption | decide | exact xs_ (by decide) | exact xc_ (by decide) | exact x31_ (by decide) | omega) (by first | rfl | (rw [lnN_I (by first | assumption | decide | exact xs_ (by decide) | exact xc_ (by decide) | exact x31_ (by decide) | omega), ← i0_4]; first | (rw [if_pos (by first | assumption | decide | exact xs_ (by decide) | exact xc_ (by decide) | exact x31_ (by decide) | omega)]; done) | (rw [if_neg (by first | assumption | decide | exact xs_ (by decide) | exact xc_ (by decide) | exact x31_ (by decide) | omega)]; done) | (rw [if_pos (by first | assumption | decide | exact xs_ (by decide) | exact xc_ (by decide) | exact x31_ (by decide) | omega)]; omega) | (rw [if_neg (by first | assumption | decide | exact xs_ (by decide) | exact xc_ (by decide) | exact x31_ (by decide) | omega)]; omega) | (split <;> omega))) (by first | assumption | decide | exact xs_ (by decide) | exact xc_ (by decide) | exact x31_ (by decide) | omega) (by first | assumption | decide | exact xs_ (by decide) | exact xc_ (by decide) | exact x31_ (by decide) | omega)  
        · refine r_iconst hC dX6_linksNow_19 rfl ?_
          refine r_goto (tgt := 24) hC dX6_linksNow_20 rfl ?_
          refine r_iaddE hC ((w2 + 1)) dX6_linksNow_24 (by first | assumption | decide | exact xs_ (by decide) | exact xc_ (by decide) | exact x31_ (by decide) | omega) (by unfold inR; omega) ?_
          refine r_istore_n hC dX6_linksNow_25 rfl ?_
          refine r_iincE hC ((w1 + 1)) dX6_linksNow_26 rfl rfl (by first | assumption | decide | exact xs_ (by decide) | exact xc_ (by decide) | exact x31_ (by decide) | omega) (by unfold inR; omega) ?_
          refine r_goto (tgt := 4) hC dX6_linksNow_29 rfl ?_
          exact ih4 ((w1 + 1)) ((w2 + 1))  (by first | assumption | decide | exact xs_ (by decide) | exact xc_ (by decide) | exact x31_ (by decide) | omega) (by first | assumption | decide | exact xs_ (by decide) | exact xc_ (by decide) | exact x31_ (by decide) | omega) (by first | rfl | (rw [lnN_I (by first | assumption | decide | exact xs_ (by decide) | exact xc_ (by decide) | exact x31_ (by decide) | omega), ← i0_4]; first | (rw [if_pos (by first | assumption | decide | exact xs_ (by decide) | exact xc_ (by decide) | exact x31_ (by decide) | omega)]; done) | (rw [if_neg (by first | assumption | decide | exact xs_ (by decide) | exact xc_ (by decide) | exact x31_ (by decide) | omega)]; done) | (rw [if_pos (by first | assumption | decide | exact xs_ (by decide) | exact xc_ (by decide) | exact x31_ (by decide) | omega)]; omega) | (rw [if_neg (by first | assumption | decide | exact xs_ (by decide) | exact xc_ (by decide) | exact x31_ (by decide) | omega)]; omega) | (split <;> omega))) (by first | assumption | decide | exact xs_ (by decide) | exact xc_ (by decide) | exact x31_ (by decide) | omega) (by first | assumption | decide | exact xs_ (by decide) | exact xc_ (by decide) | exact x31_ (by decide) | omega)  
  exact L4 6 (0) (0)  (by first | assumption | decide | exact xs_ (by decide) | exact xc_ (by decide) | exact x31_ (by decide) | omega) (by first | assumption | decide | exact xs_ (by decide) | exact xc_ (by decide) | exact x31_ (by decide) | omega) (by first | rfl | (rw [lnN_I (by first | assumption | decide | exact xs_ (by decide) | exact xc_ (by decide) | exact x31_ (by decide) | omega), ← i0_4]; first | (rw [if_pos (by first | assumption | decide | exact xs_ (by decide) | exact xc_ (by decide) | exact x31_ (by decide) | omega)]; done) | (rw [if_neg (by first | assumption | decide | exact xs_ (by decide) | exact xc_ (by decide) | exact x31_ (by decide) | omega)]; done) | (rw [if_pos (by first | assumption | decide | exact xs_ (by decide) | exact xc_ (by decide) | exact x31_ (by decide) | omega)]; omega) | (rw [if_neg (by first | assumption | decide | exact xs_ (by decide) | exact xc_ (by decide) | exact x31_ (by decide) | omega)]; omega) | (split <;> omega))) (by first | assumption | decide | exact xs_ (by decide) | exact xc_ (by decide) | exact x31_ (by decide) | omega) (by first | assumption | decide | exact xs_ (by decide) | exact xc_ (by decide) | exact x31_ (by decide) | omega)  
theorem y_about {eb : Bool} {t : Int} {V : Mm} {d : Nat} {P : Option Vl → Mm → Prop} {σ : Mm} {w : Int}  {σ0 : Mm} (ht : 6 ≤ t ∧ t ≤ 7) (hR : RS t σ0 V σ) (hG : GI V)  (k : ∀ ρ : Mm, RS t σ0 V ρ → P (some (vI (abR V w))) ρ) : WT (true, eb, true) (d + 4) 260 [vR 30 0, vI w] σ P := by
  refine WT_in fun K hK => ?_
  have hK : StpY (true, eb, true) cX6_about RX6 (some .int) (WT (true, eb, true) (d + 3)) P K := hK
  have hM := hK.1
  have hC := hK.1.1
  show K 0 [some (vR 30 0), some (vI w)] [] σ
  refine r_rngz hC (fun g0 => ?_)
  have r_w : -2147483648 ≤ w ∧ w ≤ 2147483647 := inR_le (g0 (vI w) (by simp))
  refine r_iload_n hC dX6_about_0 rfl ?_
  rcases (by omega : (w < 0 ∨ 6 < w) ∨ w = 0 ∨ w = 1 ∨ w = 2 ∨ w = 3 ∨ w = 4 ∨ w = 5 ∨ w = 6) with h1 | h1 | h1 | h1 | h1 | h1 | h1 | h1
  · refine r_tableOut (tgt := 84) hC dX6_about_1 h1 rfl ?_
    refine r_iconst hC dX6_about_84 rfl ?_
    refine y_iret hK rfl dX6_about_85 ?_
    have hRr : abR V w = (-1) := by
      unfold abR
      (repeat' split) <;> first | rfl | omega
    rw [hRr] at k
    exact k _ ⟨hR.1, hR.2.1, hR.2.2⟩
  · refine r_tableIn (tgt := 44) (off := 43) hC dX6_about_1 (by first | assumption | decide | exact xs_ (by decide) | exact xc_ (by decide) | exact x31_ (by decide) | omega) (by first | assumption | decide | exact xs_ (by decide) | exact xc_ (by decide) | exact x31_ (by decide) | omega) (by rw [h1]; rfl) rfl ?_
    refine r_aload_n hC dX6_about_44 rfl ?_
    refine z_inv0 hM dX6_about_45 vl_RX6_182 rfl rfl rfl (Nat.le_of_ble_eq_true rfl) (Nat.le_of_ble_eq_true rfl) ?_
    refine y_openLanes (V := V) ht ⟨hR.1, hR.2.1, hR.2.2⟩ ?_
    refine y_iret hK rfl dX6_about_48 ?_
    have hRr : abR V w = (cntO V) := by
      unfold abR
      (repeat' split) <;> first | rfl | omega
    rw [hRr] at k
    exact k _ ⟨hR.1, hR.2.1, hR.2.2⟩
  · refine r_tableIn (tgt := 49) (off := 48) hC dX6_about_1 (by first | assumption | decide | exact xs_ (by decide) | exact xc_ (by decide) | exact x31_ (by decide) | omega) (by first | assumption | decide | exact xs_ (by decide) | exact xc_ (by decide) | exact x31_ (by decide) | omega) (by rw [h1]; rfl) rfl ?_
    refine r_aload_n hC dX6_about_49 rfl ?_
    refine r_iconst hC dX6_about_50 rfl ?_
    refine z_inv1 hM dX6_about_51 vl_RX6_307 rfl rfl rfl (Nat.le_of_ble_eq_true rfl) (Nat.le_of_ble_eq_true rfl) ?_
    refine y_sumHeld (V := V) ht ⟨hR.1, hR.2.1, hR.2.2⟩ hG ?_
    refine y_iret hK rfl dX6_about_54 ?_
    have hRr : abR V w = (htN V 4) := by
      unfold abR
      (repeat' split) <;> first | rfl | omega
    rw [hRr] at k
    exact k _ ⟨hR.1, hR.2.1, hR.2.2⟩
  · refine r_tableIn (tgt := 55) (off := 54) hC dX6_about_1 (by first | assumption | decide | exact xs_ (by decide) | exact xc_ (by decide) | exact x31_ (by decide) | omega) (by first | assumption | decide | exact xs_ (by decide) | exact xc_ (by decide) | exact x31_ (by decide) | omega) (by rw [h1]; rfl) rfl ?_
    refine r_aload_n hC dX6_about_55 rfl ?_
    refine r_bipush hC dX6_about_56 rfl ?_
    refine z_inv1 hM dX6_about_58 vl_RX6_307 rfl rfl rfl (Nat.le_of_ble_eq_true rfl) (Nat.le_of_ble_eq_true rfl) ?_
    refine y_sumSpent (V := V) ht ⟨hR.1, hR.2.1, hR.2.2⟩ hG ?_
    refine y_iret hK rfl dX6_about_61 ?_
    have hRr : abR V w = (spN V 4) := by
      unfold abR
      (repeat' split) <;> first | rfl | omega
    rw [hRr] at k
    exact k _ ⟨hR.1, hR.2.1, hR.2.2⟩
  · refine r_tableIn (tgt := 62) (off := 61) hC dX6_about_1 (by first | assumption | decide | exact xs_ (by decide) | exact xc_ (by decide) | exact x31_ (by decide) | omega) (by first | assumption | decide | exact xs_ (by decide) | exact xc_ (by decide) | exact x31_ (by decide) | omega) (by rw [h1]; rfl) rfl ?_
    refine r_aload_n hC dX6_about_62 rfl ?_
    refine r_iconst hC dX6_about_63 rfl ?_
    refine z_inv1 hM dX6_about_64 vl_RX6_310 rfl rfl rfl (Nat.le_of_ble_eq_true rfl) (Nat.le_of_ble_eq_true rfl) ?_
    refine y_toldPlain (V := V) ht ⟨hR.1, hR.2.1, hR.2.2⟩ hG ?_
    refine y_iret hK rfl dX6_about_67 ?_
    have hRr : abR V w = (wcN V 8) := by
      unfold abR
      (repeat' split) <;> first | rfl | omega
    rw [hRr] at k
    exact k _ ⟨hR.1, hR.2.1, hR.2.2⟩
  · refine r_tableIn (tgt := 68) (off := 67) hC dX6_about_1 (by first | assumption | decide | exact xs_ (by decide) | exact xc_ (by decide) | exact x31_ (by decide) | omega) (by first | assumption | decide | exact xs_ (by decide) | exact xc_ (by decide) | exact x31_ (by decide) | omega) (by rw [h1]; rfl) rfl ?_
    refine r_aload_n hC dX6_about_68 rfl ?_
    refine z_inv0 hM dX6_about_69 vl_RX6_314 rfl rfl rfl (Nat.le_of_ble_eq_true rfl) (Nat.le_of_ble_eq_true rfl) ?_
    refine y_boxesNow (V := V) ht ⟨hR.1, hR.2.1, hR.2.2⟩ hG ?_
    refine y_iret hK rfl dX6_about_72 ?_
    have hRr : abR V w = (bxN V 3) := by
      unfold abR
      (repeat' split) <;> first | rfl | omega
    rw [hRr] at k
    exact k _ ⟨hR.1, hR.2.1, hR.2.2⟩
  · refine r_tableIn (tgt := 73) (off := 72) hC dX6_about_1 (by first | assumption | decide | exact xs_ (by decide) | exact xc_ (by decide) | exact x31_ (by decide) | omega) (by first | assumption | decide | exact xs_ (by decide) | exact xc_ (by decide) | exact x31_ (by decide) | omega) (by rw [h1]; rfl) rfl ?_
    refine r_aload_n hC dX6_about_73 rfl ?_
    refine r_iconst hC dX6_about_74 rfl ?_
    refine z_inv1 hM dX6_about_75 vl_RX6_310 rfl rfl rfl (Nat.le_of_ble_eq_true rfl) (Nat.le_of_ble_eq_true rfl) ?_
    refine y_toldRings (V := V) ht ⟨hR.1, hR.2.1, hR.2.2⟩ hG ?_
    refine y_iret hK rfl dX6_about_78 ?_
    have hRr : abR V w = (rgN V 8) := by
      unfold abR
      (repeat' split) <;> first | rfl | omega
    rw [hRr] at k
    exact k _ ⟨hR.1, hR.2.1, hR.2.2⟩
  · refine r_tableIn (tgt := 79) (off := 78) hC dX6_about_1 (by first | assumption | decide | exact xs_ (by decide) | exact xc_ (by decide) | exact x31_ (by decide) | omega) (by first | assumption | decide | exact xs_ (by decide) | exact xc_ (by decide) | exact x31_ (by decide) | omega) (by rw [h1]; rfl) rfl ?_
    refine r_aload_n hC dX6_about_79 rfl ?_
    refine z_inv0 hM dX6_about_80 vl_RX6_317 rfl rfl rfl (Nat.le_of_ble_eq_true rfl) (Nat.le_of_ble_eq_true rfl) ?_
    refine y_linksNow (V := V) ht ⟨hR.1, hR.2.1, hR.2.2⟩ hG ?_
    refine y_iret hK rfl dX6_about_83 ?_
    have hRr : abR V w = (lnN V 4) := by
      unfold abR
      (repeat' split) <;> first | rfl | omega
    rw [hRr] at k
    exact k _ ⟨hR.1, hR.2.1, hR.2.2⟩
