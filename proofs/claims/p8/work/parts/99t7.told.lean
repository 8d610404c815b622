-- B: the reference: layParts, shortest, windows
theorem y_layParts {eb : Bool} {t : Int} {V : Mm} {d : Nat} {P : Option Vl → Mm → Prop} {σ : Mm} {l w : Int} (b_l : 0 ≤ l ∧ l ≤ 3) (b_w : 0 ≤ w ∧ w ≤ 6) {σ0 : Mm} (ht : 6 ≤ t ∧ t ≤ 7) (hR : RS t σ0 V σ) (hG : GI V) (hw : w < numF (V 7 l 2))  (k : ∀ ρ : Mm, RS t σ0 V ρ → (∀ a b : Int, 0 ≤ a → a ≤ b → b < V 7 l 6 → ρ 50 0 (120 * a + b) = ptV V l a (b + 1) w) → P none ρ) : WT (true, eb, true) (d + 6) 236 [vR 30 0, vI l, vI w] σ P := by
  refine WT_in fun K hK => ?_
  have hK : StpY (true, eb, true) cX6_layParts RX6 (none) (WT (true, eb, true) (d + 5)) P K := hK
  have hM := hK.1
  have hC := hK.1.1
  show K 0 [some (vR 30 0), some (vI l), some (vI w), none, none] [] σ
  have h6 := hG.1.h7 (l := l) (by omega) (by omega)
  refine r_iconst hC dX6_layParts_0 rfl ?_
  refine r_istore_n hC dX6_layParts_1 rfl ?_
  have L2 : ∀ (n2 : Nat) (w1 : Int) (ρ2 : Mm), 0 ≤ w1 ∧ w1 ≤ 121 → ((w1) ≤ V 7 l 6) → 121 - w1 < (n2 : Int) → (RS t σ0 V ρ2) → (∀ a b : Int, 0 ≤ a → a < (w1) → a ≤ b → b < V 7 l 6 → ρ2 50 0 (120 * a + b) = ptV V l a (b + 1) w) → K 2 [some (vR 30 0), some (vI l), some (vI w), some (vI w1), none] [] ρ2 := by
    intro n2
    induction n2 with
    | zero => intro w1 ρ2 f_w1 i0_2 hm  m0_2 m1_2; omega
    | succ n2 ih2 =>
      intro w1 ρ2 f_w1 i0_2 hm2  m0_2 m1_2
      refine r_iload_n hC dX6_layParts_2 rfl ?_
      refine r_aload_n hC dX6_layParts_3 rfl ?_
      refine r_iload_n hC dX6_layParts_4 rfl ?_
      refine z_inv1 hM dX6_layParts_5 vl_RX6_116 rfl rfl rfl (Nat.le_of_ble_eq_true rfl) (Nat.le_of_ble_eq_true rfl) ?_
      refine y_heldOf (by omega) (fun o3 => ?_)
      have e4 : ρ2 31 0 (22 * l + 5) = (V 7 l 6) := (m0_2.1.a7 (s := 6) (f := 5) (by omega) (by omega) (by omega)).trans (rfl)
      rw [e4] at o3 ⊢
      have qo3 : 0 ≤ (V 7 l 6) ∧ (V 7 l 6) ≤ 121 := o3.1 (by omega)
      refine r_icmp_ge (tgt := 57) hC dX6_layParts_8 rfl (fun h5 => ?_) (fun h5 => ?_)
      · refine y_vret hK rfl dX6_layParts_57 ?_
        exact k _ ⟨m0_2.1, m0_2.2.1, m0_2.2.2⟩ (fun a b a0 b0 b1 => m1_2 a b a0 (by omega) b0 b1)
      · refine r_iload_n hC dX6_layParts_11 rfl ?_
        refine r_istore hC dX6_layParts_12 rfl ?_
        have L14 : ∀ (n14 : Nat) (w6 : Int) (ρ7 : Mm), 0 ≤ w6 ∧ w6 ≤ 121 → ((w1) ≤ (w6)) → ((w6) ≤ V 7 l 6) → 121 - w6 < (n14 : Int) → (RS t σ0 V ρ7) → (∀ a b : Int, 0 ≤ a → a < (w1) → a ≤ b → b < V 7 l 6 → ρ7 50 0 (120 * a + b) = ptV V l a (b + 1) w) → (∀ b : Int, (w1) ≤ b → b < (w6) → ρ7 50 0 (120 * (w1) + b) = ptV V l (w1) (b + 1) w) → K 14 [some (vR 30 0), some (vI l), some (vI w), some (vI w1), some (vI w6)] [] ρ7 := by
          intro n14
          induction n14 with
          | zero => intro w6 ρ7 f_w6 i0_14 i1_14 hm  m0_14 m1_14 m2_14; omega
          | succ n14 ih14 =>
            intro w6 ρ7 f_w6 i0_14 i1_14 hm14  m0_14 m1_14 m2_14
            refine r_iload hC dX6_layParts_14 rfl ?_
            refine r_aload_n hC dX6_layParts_16 rfl ?_
            refine r_iload_n hC dX6_layParts_17 rfl ?_
            refine z_inv1 hM dX6_layParts_18 vl_RX6_116 rfl rfl rfl (Nat.le_of_ble_eq_true rfl) (Nat.le_of_ble_eq_true rfl) ?_
            refine y_heldOf (by omega) (fun o8 => ?_)
            have e9 : ρ7 31 0 (22 * l + 5) = (V 7 l 6) := (m0_14.1.a7 (s := 6) (f := 5) (by omega) (by omega) (by omega)).trans (rfl)
            rw [e9] at o8 ⊢
            have qo8 : 0 ≤ (V 7 l 6) ∧ (V 7 l 6) ≤ 121 := o8.1 (by omega)
            refine r_icmp_ge (tgt := 51) hC dX6_layParts_21 rfl (fun h10 => ?_) (fun h10 => ?_)
            · refine r_iincE hC ((w1 + 1)) dX6_layParts_51 rfl rfl (by omega) (by unfold inR; omega) ?_
              refine r_goto (tgt := 2) hC dX6_layParts_54 rfl ?_
              refine r_forget hC (ls2 := [some (vR 30 0), some (vI l), some (vI w), some (vI (w1 + 1)), none]) (lsub_some (lsub_some (lsub_some (lsub_some (lsub_none lsub_nil))))) ?_
              exact ih2 ((w1 + 1)) ρ7 (by omega) (by omega) (by omega)  (⟨m0_14.1, m0_14.2.1, m0_14.2.2⟩) (fun a b a0 a1 b0 b1 => by rcases (by omega : a < w1 ∨ a = w1) with z | z; exact m1_14 a b a0 z b0 b1; subst z; exact m2_14 b b0 (by omega))
            · refine r_aload_n hC dX6_layParts_24 rfl ?_
              refine z_getR hM dX6_layParts_25 fl_RX6_67 rfl rfl (vld_of (n := 1) rfl (by omega) (by omega)) ?_
              refine r_bipush hC dX6_layParts_28 rfl ?_
              refine r_iload_n hC dX6_layParts_30 rfl ?_
              refine r_imulE hC ((120 * w1)) dX6_layParts_31 (by omega) (by unfold inR; omega) ?_
              refine r_iload hC dX6_layParts_32 rfl ?_
              refine r_iaddE hC (((120 * w1) + w6)) dX6_layParts_34 (by omega) (by unfold inR; omega) ?_
              refine r_aload_n hC dX6_layParts_35 rfl ?_
              refine r_iload_n hC dX6_layParts_36 rfl ?_
              refine r_iload_n hC dX6_layParts_37 rfl ?_
              refine r_iload hC dX6_layParts_38 rfl ?_
              refine r_iload_n hC dX6_layParts_40 rfl ?_
              refine z_inv4 hM dX6_layParts_41 vl_RX6_243 rfl rfl rfl (Nat.le_of_ble_eq_true rfl) (Nat.le_of_ble_eq_true rfl) ?_
              refine y_comesFromK (V := V) (by omega) (by omega) (by omega) (by omega) ht ⟨m0_14.1, m0_14.2.1, m0_14.2.2⟩ (by omega) (hG.2.1.lk hG.1 (l := l) (by omega) (by omega)) (by omega) (fun ρ11 Rρ11 f_ρ11 => ?_)
              have ePρ11 : cm (V 16 0) (V 15 0) (V 7 l 2) (fun j => V 9 l (w1 + j)) (w6 + 1 - w1).toNat w = ptV V l w1 (w6 + 1) w := by unfold ptV; rw [show (w6 + 1 - w1 : Int) = (w6 + 1) - w1 from by omega]
              rw [ePρ11]
              refine z_iastT hM dX6_layParts_44 rfl (by omega) (by omega) ⟨Or.inr (by simp [DL]), Or.inr (by simp [DF])⟩ (by first | trivial | (simp only [Okv]; omega) | (simp [Okv]; try omega)) ?_
              obtain ⟨ρ12, e_ρ12⟩ : ∃ zz_, zz_ = mu ρ11 50 0 ((120 * w1) + w6) (ptV V l w1 (w6 + 1) w) := ⟨_, rfl⟩
              rw [← e_ρ12]
              have Rρ12 : RS t σ0 V ρ12 := RS.mk2 Rρ11.1 Rρ11.2.1 Rρ11.2.2 (fun c p q h => by rw [e_ρ12]; exact mu_ne (by omega))
              refine r_iincE hC ((w6 + 1)) dX6_layParts_45 rfl rfl (by omega) (by unfold inR; omega) ?_
              refine r_goto (tgt := 14) hC dX6_layParts_48 rfl ?_
              exact ih14 ((w6 + 1)) ρ12 (by omega) (by omega) (by omega) (by omega)  (⟨Rρ12.1, Rρ12.2.1, Rρ12.2.2⟩) (fun a b a0 a1 b0 b1 => by rw [e_ρ12, mu_ne (by omega)]; exact (f_ρ11 50 0 _ (by decide)).trans (m1_14 a b a0 a1 b0 b1)) (fun b b0 b1 => by rw [e_ρ12]; rcases (by omega : b < w6 ∨ b = w6) with z | z; exact (mu_ne (by omega)).trans ((f_ρ11 50 0 _ (by decide)).trans (m2_14 b b0 z)); subst z; exact mu_self _ _ _ _ _)
        exact L14 123 (w1) ρ2 (by omega) (by omega) (by omega) (by omega)  (⟨m0_2.1, m0_2.2.1, m0_2.2.2⟩) (m1_2) (fun b b0 b1 => by omega)
  exact L2 123 (0) σ (by omega) (by omega) (by omega)  (⟨hR.1, hR.2.1, hR.2.2⟩) (fun a b a0 a1 => by omega)
theorem y_shortest {eb : Bool} {t : Int} {V : Mm} {d : Nat} {P : Option Vl → Mm → Prop} {σ : Mm} {l w b u : Int}  {σ0 : Mm} (ht : 6 ≤ t ∧ t ≤ 7) (hR : RS t σ0 V σ) (hG : GI V)  (k : ∀ (r : Int) (ρ : Mm), stA V l w b u r → RS t σ0 V ρ → P (some (vI r)) ρ) : WT (true, eb, true) (d + 7) 237 [vR 30 0, vI l, vI w, vI b, vI u] σ P := by
  refine WT_in fun K hK => ?_
  have hK : StpY (true, eb, true) cX6_shortest RX6 (some .int) (WT (true, eb, true) (d + 6)) P K := hK
  have hM := hK.1
  have hC := hK.1.1
  show K 0 [some (vR 30 0), some (vI l), some (vI w), some (vI b), some (vI u), none, none] [] σ
  refine r_rngz hC (fun g0 => ?_)
  have r_l : -2147483648 ≤ l ∧ l ≤ 2147483647 := inR_le (g0 (vI l) (by simp))
  have r_w : -2147483648 ≤ w ∧ w ≤ 2147483647 := inR_le (g0 (vI w) (by simp))
  have r_b : -2147483648 ≤ b ∧ b ≤ 2147483647 := inR_le (g0 (vI b) (by simp))
  have r_u : -2147483648 ≤ u ∧ u ≤ 2147483647 := inR_le (g0 (vI u) (by simp))
  refine r_aload_n hC dX6_shortest_0 rfl ?_
  refine r_iload_n hC dX6_shortest_1 rfl ?_
  refine r_iload_n hC dX6_shortest_2 rfl ?_
  refine z_inv2 hM dX6_shortest_3 vl_RX6_207 rfl rfl rfl (Nat.le_of_ble_eq_true rfl) (Nat.le_of_ble_eq_true rfl) ?_
  refine y_isNumber (V := V) ht ⟨hR.1, hR.2.1, hR.2.2⟩ (fun l a b => (hG.2.1.2.2.2.1 l a b).2) (fun h1 => ?_) (fun h1 => ?_)
  · unfold lwC opV at h1
    have n_h1 := numF_rng (V 7 l 2)
    have h6 := hG.1.h7 (l := l) (by omega) (by omega)
    have hO_h1 := (hG.2.1.2.2.2.1 l (by omega) (by omega)).2
    refine r_if_eq (tgt := 19) hC dX6_shortest_6 rfl (fun h2 => by omega) (fun h2 => ?_)
    refine r_iload hC dX6_shortest_9 rfl ?_
    refine r_iconst hC dX6_shortest_11 rfl ?_
    refine r_iconst hC dX6_shortest_12 rfl ?_
    refine z_ins3 hM dX6_shortest_13 tl_RX6_76 rfl (Nat.le_of_ble_eq_true rfl) (Nat.le_of_ble_eq_true rfl) ?_
    refine m_isIn (fun h4 => ?_) (fun h4 => ?_)
    · refine r_if_ne (tgt := 21) hC dX6_shortest_16 rfl (fun h5 => ?_) (fun h5 => by omega)
      refine r_aload_n hC dX6_shortest_21 rfl ?_
      refine r_iload_n hC dX6_shortest_22 rfl ?_
      refine r_iload_n hC dX6_shortest_23 rfl ?_
      refine z_inv2 hM dX6_shortest_24 vl_RX6_286 rfl rfl rfl (Nat.le_of_ble_eq_true rfl) (Nat.le_of_ble_eq_true rfl) ?_
      refine y_layParts (V := V) (by omega) (by omega) ht ⟨hR.1, hR.2.1, hR.2.2⟩ hG (by omega) (fun ρ6 Rρ6 hp_ => ?_)
      refine r_iconst hC dX6_shortest_27 rfl ?_
      refine r_istore hC dX6_shortest_28 rfl ?_
      have L30 : ∀ (n30 : Nat) (w7 : Int), 1 ≤ w7 ∧ w7 ≤ 121 → (∀ f m : Int, 0 ≤ f → 1 ≤ m → m < (w7) → f + m ≤ V 7 l 6 → ¬ rchV V l f (f + m) w b) → ((w7) ≤ V 7 l 6 + 1) → 121 - w7 < (n30 : Int) → K 30 [some (vR 30 0), some (vI l), some (vI w), some (vI b), some (vI u), some (vI w7), none] [] ρ6 := by
        intro n30
        induction n30 with
        | zero => intro w7  f_w7 i0_30 i1_30 hm  ; omega
        | succ n30 ih30 =>
          intro w7  f_w7 i0_30 i1_30 hm30  
          refine r_iload hC dX6_shortest_30 rfl ?_
          refine r_aload_n hC dX6_shortest_32 rfl ?_
          refine r_iload_n hC dX6_shortest_33 rfl ?_
          refine z_inv1 hM dX6_shortest_34 vl_RX6_116 rfl rfl rfl (Nat.le_of_ble_eq_true rfl) (Nat.le_of_ble_eq_true rfl) ?_
          refine y_heldOf (by omega) (fun o8 => ?_)
          have e9 : ρ6 31 0 (22 * l + 5) = (V 7 l 6) := (Rρ6.1.a7 (s := 6) (f := 5) (by omega) (by omega) (by omega)).trans (rfl)
          rw [e9] at o8 ⊢
          have qo8 : 0 ≤ (V 7 l 6) ∧ (V 7 l 6) ≤ 121 := o8.1 (by omega)
          refine r_icmp_gt (tgt := 106) hC dX6_shortest_37 rfl (fun h10 => ?_) (fun h10 => ?_)
          · refine r_iconst hC dX6_shortest_106 rfl ?_
            refine y_iret hK rfl dX6_shortest_107 ?_
            have hA : stA V l w b u (-1) := by
              exact ⟨fun z => absurd (by unfold shC2 lwC opV; omega) z, fun _ => ⟨V 7 l 6 + 1, -1, Or.inl ⟨rfl, rfl, fun f m a b c => i0_30 f m a b (by omega) c⟩, (if_pos rfl).symm⟩⟩
            exact k _ _ hA ⟨Rρ6.1, Rρ6.2.1, Rρ6.2.2⟩
          · refine r_iconst hC dX6_shortest_40 rfl ?_
            refine r_istore hC dX6_shortest_41 rfl ?_
            have L43 : ∀ (n43 : Nat) (w11 : Int), 0 ≤ w11 ∧ w11 ≤ 121 → (∀ f : Int, 0 ≤ f → f < (w11) → f + (w7) ≤ V 7 l 6 → ¬ rchV V l f (f + (w7)) w b) → ((w11) ≤ V 7 l 6) → 121 - w11 < (n43 : Int) → K 43 [some (vR 30 0), some (vI l), some (vI w), some (vI b), some (vI u), some (vI w7), some (vI w11)] [] ρ6 := by
              intro n43
              induction n43 with
              | zero => intro w11  f_w11 i0_43 i1_43 hm  ; omega
              | succ n43 ih43 =>
                intro w11  f_w11 i0_43 i1_43 hm43  
                refine r_iload hC dX6_shortest_43 rfl ?_
                refine r_iload hC dX6_shortest_45 rfl ?_
                refine r_iaddE hC ((w11 + w7)) dX6_shortest_47 (by omega) (by unfold inR; omega) ?_
                refine r_aload_n hC dX6_shortest_48 rfl ?_
                refine r_iload_n hC dX6_shortest_49 rfl ?_
                refine z_inv1 hM dX6_shortest_50 vl_RX6_116 rfl rfl rfl (Nat.le_of_ble_eq_true rfl) (Nat.le_of_ble_eq_true rfl) ?_
                refine y_heldOf (by omega) (fun o12 => ?_)
                have e13 : ρ6 31 0 (22 * l + 5) = (V 7 l 6) := (Rρ6.1.a7 (s := 6) (f := 5) (by omega) (by omega) (by omega)).trans (rfl)
                rw [e13] at o12 ⊢
                have qo12 : 0 ≤ (V 7 l 6) ∧ (V 7 l 6) ≤ 121 := o12.1 (by omega)
                refine r_icmp_gt (tgt := 100) hC dX6_shortest_53 rfl (fun h14 => ?_) (fun h14 => ?_)
                · refine r_iincE hC ((w7 + 1)) dX6_shortest_100 rfl rfl (by omega) (by unfold inR; omega) ?_
                  refine r_goto (tgt := 30) hC dX6_shortest_103 rfl ?_
                  refine r_forget hC (ls2 := [some (vR 30 0), some (vI l), some (vI w), some (vI b), some (vI u), some (vI (w7 + 1)), none]) (lsub_some (lsub_some (lsub_some (lsub_some (lsub_some (lsub_some (lsub_none lsub_nil))))))) ?_
                  exact ih30 ((w7 + 1))  (by omega) (by first | (intro f m a b c d; omega) | (intro f m a b c d; rcases (by omega : m < w7 ∨ m = w7) with z | z; exact i0_30 f m a b z d; subst z; exact i0_43 f a (by omega) d)) (by omega) (by omega)  
                · refine r_aload_n hC dX6_shortest_56 rfl ?_
                  refine z_getR hM dX6_shortest_57 fl_RX6_67 rfl rfl (vld_of (n := 1) rfl (by omega) (by omega)) ?_
                  refine r_bipush hC dX6_shortest_60 rfl ?_
                  refine r_iload hC dX6_shortest_62 rfl ?_
                  refine r_imulE hC ((120 * w11)) dX6_shortest_64 (by omega) (by unfold inR; omega) ?_
                  refine r_iload hC dX6_shortest_65 rfl ?_
                  refine r_iaddE hC (((120 * w11) + w11)) dX6_shortest_67 (by omega) (by unfold inR; omega) ?_
                  refine r_iload hC dX6_shortest_68 rfl ?_
                  refine r_iaddE hC ((((120 * w11) + w11) + w7)) dX6_shortest_70 (by omega) (by unfold inR; omega) ?_
                  refine r_iconst hC dX6_shortest_71 rfl ?_
                  refine r_isubE hC (((((120 * w11) + w11) + w7) - 1)) dX6_shortest_72 (by omega) (by unfold inR; omega) ?_
                  have ev_v15 : ρ6 50 0 ((((120 * w11) + w11) + w7) - 1) = ptV V l w11 (w11 + w7) w := by rw [show ((((120 * w11) + w11) + w7) - 1) = 120 * w11 + (w11 + w7 - 1) from by omega]; exact (hp_ w11 (w11 + w7 - 1) (by omega) (by omega) (by omega)).trans (by rw [show ((w11 + w7 - 1) + 1 : Int) = (w11 + w7) from by omega])
                  refine z_iald hM dX6_shortest_73 rfl (by omega) (by omega) (fun v15 h_v15 o_v15 t_v15 => ?_)
                  have w_v15 := ((t_v15 (Or.inr (Or.inr (Or.inr ⟨rfl, by first | exact True.intro | exact (rfl : true = true)⟩)))).trans ev_v15).symm
                  subst w_v15
                  refine r_iload_n hC dX6_shortest_74 rfl ?_
                  refine z_ins2 hM dX6_shortest_75 tl_RX6_200 rfl (Nat.le_of_ble_eq_true rfl) (Nat.le_of_ble_eq_true rfl) ?_
                  refine y_isReached (fun hr_75 => ?_) (fun hr_75 => ?_)
                  · refine r_if_eq (tgt := 94) hC dX6_shortest_78 rfl (fun h16 => by omega) (fun h16 => ?_)
                    refine r_iload hC dX6_shortest_81 rfl ?_
                    refine r_if_ne (tgt := 91) hC dX6_shortest_83 rfl (fun h17 => ?_) (fun h17 => ?_)
                    · refine r_iload hC dX6_shortest_91 rfl ?_
                      refine y_iret hK rfl dX6_shortest_93 ?_
                      have hA : stA V l w b u w11 := by
                        exact ⟨fun z => absurd (by unfold shC2 lwC opV; omega) z, fun _ => ⟨w7, w11, Or.inr ⟨by omega, hr_75, fun f m a b c d => i0_30 f m a b d c, fun f a c => i0_43 f a c (by omega)⟩, by rw [if_neg (by omega)]; first | (rw [if_pos (by omega)]; done) | (rw [if_neg (by omega)]; done)⟩⟩
                      exact k _ _ hA ⟨Rρ6.1, Rρ6.2.1, Rρ6.2.2⟩
                    · refine r_iload hC dX6_shortest_86 rfl ?_
                      refine r_goto (tgt := 93) hC dX6_shortest_88 rfl ?_
                      refine y_iret hK rfl dX6_shortest_93 ?_
                      have hA : stA V l w b u w7 := by
                        exact ⟨fun z => absurd (by unfold shC2 lwC opV; omega) z, fun _ => ⟨w7, w11, Or.inr ⟨by omega, hr_75, fun f m a b c d => i0_30 f m a b d c, fun f a c => i0_43 f a c (by omega)⟩, by rw [if_neg (by omega)]; first | (rw [if_pos (by omega)]; done) | (rw [if_neg (by omega)]; done)⟩⟩
                      exact k _ _ hA ⟨Rρ6.1, Rρ6.2.1, Rρ6.2.2⟩
                  · refine r_if_eq (tgt := 94) hC dX6_shortest_78 rfl (fun h18 => ?_) (fun h18 => by omega)
                    refine r_iincE hC ((w11 + 1)) dX6_shortest_94 rfl rfl (by omega) (by unfold inR; omega) ?_
                    refine r_goto (tgt := 43) hC dX6_shortest_97 rfl ?_
                    exact ih43 ((w11 + 1))  (by omega) (by first | (intro f a b c; omega) | (intro f a b c; rcases (by omega : f < w11 ∨ f = w11) with z | z; exact i0_43 f a z c; subst z; exact hr_75)) (by omega) (by omega)  
            exact L43 123 (0)  (by omega) (by first | (intro f a b c; omega) | (intro f a b c; rcases (by omega : f < w11 ∨ f = w11) with z | z; exact i0_43 f a z c; subst z; exact hr_75)) (by omega) (by omega)  
      exact L30 123 (1)  (by omega) (by first | (intro f m a b c d; omega) | (intro f m a b c d; rcases (by omega : m < w7 ∨ m = w7) with z | z; exact i0_30 f m a b z d; subst z; exact i0_43 f a (by omega) d)) (by omega) (by omega)  
    · refine r_if_ne (tgt := 21) hC dX6_shortest_16 rfl (fun h19 => by omega) (fun h19 => ?_)
      refine r_iconst hC dX6_shortest_19 rfl ?_
      refine y_iret hK rfl dX6_shortest_20 ?_
      have hA : stA V l w b u (-1) := by
        exact ⟨fun _ => rfl, fun q => by unfold shC2 lwC opV at q; omega⟩
      exact k _ _ hA ⟨hR.1, hR.2.1, hR.2.2⟩
  · unfold lwC opV at h1
    refine r_if_eq (tgt := 19) hC dX6_shortest_6 rfl (fun h20 => ?_) (fun h20 => by omega)
    refine r_iconst hC dX6_shortest_19 rfl ?_
    refine y_iret hK rfl dX6_shortest_20 ?_
    have hA : stA V l w b u (-1) := by
      exact ⟨fun _ => rfl, fun q => by unfold shC2 lwC opV at q; omega⟩
    exact k _ _ hA ⟨hR.1, hR.2.1, hR.2.2⟩
theorem y_windows {eb : Bool} {t : Int} {V : Mm} {d : Nat} {P : Option Vl → Mm → Prop} {σ : Mm} {l w x y : Int}  {σ0 : Mm} (ht : 6 ≤ t ∧ t ≤ 7) (hR : RS t σ0 V σ) (hG : GI V)  (k : ∀ ρ : Mm, RS t σ0 V ρ → P (some (vI (wnQ V l w x y))) ρ) : WT (true, eb, true) (d + 7) 238 [vR 30 0, vI l, vI w, vI x, vI y] σ P := by
  refine WT_in fun K hK => ?_
  have hK : StpY (true, eb, true) cX6_windows RX6 (some .int) (WT (true, eb, true) (d + 6)) P K := hK
  have hM := hK.1
  have hC := hK.1.1
  show K 0 [some (vR 30 0), some (vI l), some (vI w), some (vI x), some (vI y), none, none, none, none] [] σ
  refine r_rngz hC (fun g0 => ?_)
  have r_l : -2147483648 ≤ l ∧ l ≤ 2147483647 := inR_le (g0 (vI l) (by simp))
  have r_w : -2147483648 ≤ w ∧ w ≤ 2147483647 := inR_le (g0 (vI w) (by simp))
  have r_x : -2147483648 ≤ x ∧ x ≤ 2147483647 := inR_le (g0 (vI x) (by simp))
  have r_y : -2147483648 ≤ y ∧ y ≤ 2147483647 := inR_le (g0 (vI y) (by simp))
  have hcl := hG.2.1.2.2.2.2.2.2.2
  have hrow := hG.2.1.2.2.1
  refine r_aload_n hC dX6_windows_0 rfl ?_
  refine r_iload_n hC dX6_windows_1 rfl ?_
  refine r_iload_n hC dX6_windows_2 rfl ?_
  refine z_inv2 hM dX6_windows_3 vl_RX6_207 rfl rfl rfl (Nat.le_of_ble_eq_true rfl) (Nat.le_of_ble_eq_true rfl) ?_
  refine y_isNumber (V := V) ht ⟨hR.1, hR.2.1, hR.2.2⟩ (fun l a b => (hG.2.1.2.2.2.1 l a b).2) (fun h1 => ?_) (fun h1 => ?_)
  · unfold lwC opV at h1
    have n_h1 := numF_rng (V 7 l 2)
    have h6 := hG.1.h7 (l := l) (by omega) (by omega)
    have hO_h1 := (hG.2.1.2.2.2.1 l (by omega) (by omega)).2
    refine r_if_ne (tgt := 11) hC dX6_windows_6 rfl (fun h2 => ?_) (fun h2 => by omega)
    refine r_aload_n hC dX6_windows_11 rfl ?_
    refine r_iload_n hC dX6_windows_12 rfl ?_
    refine r_iload_n hC dX6_windows_13 rfl ?_
    refine z_inv2 hM dX6_windows_14 vl_RX6_286 rfl rfl rfl (Nat.le_of_ble_eq_true rfl) (Nat.le_of_ble_eq_true rfl) ?_
    refine y_layParts (V := V) (by omega) (by omega) ht ⟨hR.1, hR.2.1, hR.2.2⟩ hG (by omega) (fun ρ3 Rρ3 hp_ => ?_)
    refine r_iconst hC dX6_windows_17 rfl ?_
    refine r_istore hC dX6_windows_18 rfl ?_
    refine r_iconst hC dX6_windows_20 rfl ?_
    refine r_istore hC dX6_windows_21 rfl ?_
    have L23 : ∀ (n23 : Nat) (w4 w5 : Int), 0 ≤ w4 ∧ w4 ≤ 14400 → 0 ≤ w5 ∧ w5 ≤ 121 → ((w4) = wnS V l w x y ((w5)).toNat) → ((w5) ≤ V 7 l 6) → 121 - w5 < (n23 : Int) → K 23 [some (vR 30 0), some (vI l), some (vI w), some (vI x), some (vI y), some (vI w4), some (vI w5), none, none] [] ρ3 := by
      intro n23
      induction n23 with
      | zero => intro w4 w5  f_w4 f_w5 i0_23 i1_23 hm  ; omega
      | succ n23 ih23 =>
        intro w4 w5  f_w4 f_w5 i0_23 i1_23 hm23  
        refine r_iload hC dX6_windows_23 rfl ?_
        refine r_aload_n hC dX6_windows_25 rfl ?_
        refine r_iload_n hC dX6_windows_26 rfl ?_
        refine z_inv1 hM dX6_windows_27 vl_RX6_116 rfl rfl rfl (Nat.le_of_ble_eq_true rfl) (Nat.le_of_ble_eq_true rfl) ?_
        refine y_heldOf (by omega) (fun o6 => ?_)
        have e7 : ρ3 31 0 (22 * l + 5) = (V 7 l 6) := (Rρ3.1.a7 (s := 6) (f := 5) (by omega) (by omega) (by omega)).trans (rfl)
        rw [e7] at o6 ⊢
        have qo6 : 0 ≤ (V 7 l 6) ∧ (V 7 l 6) ≤ 121 := o6.1 (by omega)
        refine r_icmp_ge (tgt := 102) hC dX6_windows_30 rfl (fun h8 => ?_) (fun h8 => ?_)
        · refine r_iload hC dX6_windows_102 rfl ?_
          refine y_iret hK rfl dX6_windows_104 ?_
          have hRr : wnQ V l w x y = w4 := by
            unfold wnQ
            rw [if_pos (by unfold lwC opV; omega), show (V 7 l 6).toNat = (w5).toNat from by omega]
            exact i0_23.symm
          rw [hRr] at k
          exact k _ ⟨Rρ3.1, Rρ3.2.1, Rρ3.2.2⟩
        · refine r_iload hC dX6_windows_33 rfl ?_
          refine r_istore hC dX6_windows_35 rfl ?_
          have L37 : ∀ (n37 : Nat) (w9 w10 : Int), 0 ≤ w9 ∧ w9 ≤ 121 → 0 ≤ w10 ∧ w10 ≤ 14520 → ((w5) ≤ (w9)) → ((w10) = wnS V l w x y ((w5)).toNat + wnR (fun k => ptV V l (w5) ((w5) + k + 1) w) x y ((w9) - (w5)).toNat) → ((w9) ≤ V 7 l 6) → 121 - w9 < (n37 : Int) → K 37 [some (vR 30 0), some (vI l), some (vI w), some (vI x), some (vI y), some (vI w10), some (vI w5), some (vI w9), none] [] ρ3 := by
            intro n37
            induction n37 with
            | zero => intro w9 w10  f_w9 f_w10 i0_37 i1_37 i2_37 hm  ; omega
            | succ n37 ih37 =>
              intro w9 w10  f_w9 f_w10 i0_37 i1_37 i2_37 hm37  
              refine r_iload hC dX6_windows_37 rfl ?_
              refine r_aload_n hC dX6_windows_39 rfl ?_
              refine r_iload_n hC dX6_windows_40 rfl ?_
              refine z_inv1 hM dX6_windows_41 vl_RX6_116 rfl rfl rfl (Nat.le_of_ble_eq_true rfl) (Nat.le_of_ble_eq_true rfl) ?_
              refine y_heldOf (by omega) (fun o11 => ?_)
              have e12 : ρ3 31 0 (22 * l + 5) = (V 7 l 6) := (Rρ3.1.a7 (s := 6) (f := 5) (by omega) (by omega) (by omega)).trans (rfl)
              rw [e12] at o11 ⊢
              have qo11 : 0 ≤ (V 7 l 6) ∧ (V 7 l 6) ≤ 121 := o11.1 (by omega)
              refine r_icmp_ge (tgt := 96) hC dX6_windows_44 rfl (fun h13 => ?_) (fun h13 => ?_)
              · have eS := wnS_I (V := V) (l := l) (w := w) (a := x) (b := y) (i := w5) (by omega)
                rw [show (V 7 l 6 - w5).toNat = (w9 - w5).toNat from by omega] at eS
                have bw := wnS_b (V := V) (l := l) (w := w) (a := x) (b := y) h6.2 (w5).toNat
                have br := wnR_b (fun k => ptV V l w5 (w5 + k + 1) w) x y (w9 - w5).toNat
                refine r_iincE hC ((w5 + 1)) dX6_windows_96 rfl rfl (by omega) (by unfold inR; omega) ?_
                refine r_goto (tgt := 23) hC dX6_windows_99 rfl ?_
                refine r_forget hC (ls2 := [some (vR 30 0), some (vI l), some (vI w), some (vI x), some (vI y), some (vI w10), some (vI (w5 + 1)), none, none]) (lsub_some (lsub_some (lsub_some (lsub_some (lsub_some (lsub_some (lsub_some (lsub_none (lsub_none lsub_nil))))))))) ?_
                exact ih23 (w10) ((w5 + 1))  (by omega) (by omega) (by first | rfl | omega) (by omega) (by omega)  
              · refine r_aload_n hC dX6_windows_47 rfl ?_
                refine z_getR hM dX6_windows_48 fl_RX6_67 rfl rfl (vld_of (n := 1) rfl (by omega) (by omega)) ?_
                refine r_bipush hC dX6_windows_51 rfl ?_
                refine r_iload hC dX6_windows_53 rfl ?_
                refine r_imulE hC ((120 * w5)) dX6_windows_55 (by omega) (by unfold inR; omega) ?_
                refine r_iload hC dX6_windows_56 rfl ?_
                refine r_iaddE hC (((120 * w5) + w9)) dX6_windows_58 (by omega) (by unfold inR; omega) ?_
                have ev_v14 : ρ3 50 0 ((120 * w5) + w9) = ptV V l w5 (w9 + 1) w := by rw [show ((120 * w5) + w9) = 120 * w5 + w9 from by omega]; exact (hp_ w5 w9 (by omega) (by omega) (by omega)).trans (by rw [show (w9 + 1 : Int) = (w9 + 1) from by omega])
                refine z_iald hM dX6_windows_59 rfl (by omega) (by omega) (fun v14 h_v14 o_v14 t_v14 => ?_)
                have w_v14 := ((t_v14 (Or.inr (Or.inr (Or.inr ⟨rfl, by first | exact True.intro | exact (rfl : true = true)⟩)))).trans ev_v14).symm
                subst w_v14
                have e2 : ptV V l w5 (w5 + (w9 - w5) + 1) w = (ptV V l w5 (w9 + 1) w) := by rw [show (w5 + (w9 - w5) + 1 : Int) = w9 + 1 from by omega]
                have e1 := wnR_I (f := (fun k => ptV V l w5 (w5 + k + 1) w)) (a := x) (b := y) (i := w9 - w5) (by omega)
                rw [show (w9 - w5 + 1).toNat = (w9 + 1 - w5).toNat from by omega, e2] at e1
                unfold NO at e1
                have bw := wnS_b (V := V) (l := l) (w := w) (a := x) (b := y) h6.2 (w5).toNat
                have br := wnR_b (fun k => ptV V l w5 (w5 + k + 1) w) x y (w9 - w5).toNat
                refine r_istore hC dX6_windows_60 rfl ?_
                refine r_iload hC dX6_windows_62 rfl ?_
                refine r_iload hC dX6_windows_64 rfl ?_
                refine r_ldc hC dX6_windows_66 co_RX6_160 rfl ?_
                refine r_icmp_eq (tgt := 86) hC dX6_windows_68 rfl (fun h15 => ?_) (fun h15 => ?_)
                · refine r_iconst hC dX6_windows_86 rfl ?_
                  refine r_iaddE hC (w10) dX6_windows_87 (by omega) (by unfold inR; omega) ?_
                  refine r_istore hC dX6_windows_88 rfl ?_
                  refine r_iincE hC ((w9 + 1)) dX6_windows_90 rfl rfl (by omega) (by unfold inR; omega) ?_
                  refine r_goto (tgt := 37) hC dX6_windows_93 rfl ?_
                  refine r_forget hC (ls2 := [some (vR 30 0), some (vI l), some (vI w), some (vI x), some (vI y), some (vI w10), some (vI w5), some (vI (w9 + 1)), none]) (lsub_some (lsub_some (lsub_some (lsub_some (lsub_some (lsub_some (lsub_some (lsub_some (lsub_none lsub_nil))))))))) ?_
                  exact ih37 ((w9 + 1)) (w10)  (by omega) (by omega) (by omega) (by first | (rw [show (w5 - w5).toNat = 0 from by omega]; show _ = _ + (0 : Int); omega) | (rw [if_pos (by omega)] at e1; omega) | (rw [if_neg (by omega)] at e1; omega)) (by omega) (by omega)  
                · refine r_iload hC dX6_windows_71 rfl ?_
                  refine r_iload_n hC dX6_windows_73 rfl ?_
                  refine r_iload hC dX6_windows_74 rfl ?_
                  refine z_ins3 hM dX6_windows_76 tl_RX6_76 rfl (Nat.le_of_ble_eq_true rfl) (Nat.le_of_ble_eq_true rfl) ?_
                  refine m_isIn (fun h17 => ?_) (fun h17 => ?_)
                  · refine r_if_eq (tgt := 86) hC dX6_windows_79 rfl (fun h18 => by omega) (fun h18 => ?_)
                    refine r_iconst hC dX6_windows_82 rfl ?_
                    refine r_goto (tgt := 87) hC dX6_windows_83 rfl ?_
                    refine r_iaddE hC ((w10 + 1)) dX6_windows_87 (by omega) (by unfold inR; omega) ?_
                    refine r_istore hC dX6_windows_88 rfl ?_
                    refine r_iincE hC ((w9 + 1)) dX6_windows_90 rfl rfl (by omega) (by unfold inR; omega) ?_
                    refine r_goto (tgt := 37) hC dX6_windows_93 rfl ?_
                    refine r_forget hC (ls2 := [some (vR 30 0), some (vI l), some (vI w), some (vI x), some (vI y), some (vI (w10 + 1)), some (vI w5), some (vI (w9 + 1)), none]) (lsub_some (lsub_some (lsub_some (lsub_some (lsub_some (lsub_some (lsub_some (lsub_some (lsub_none lsub_nil))))))))) ?_
                    exact ih37 ((w9 + 1)) ((w10 + 1))  (by omega) (by omega) (by omega) (by first | (rw [show (w5 - w5).toNat = 0 from by omega]; show _ = _ + (0 : Int); omega) | (rw [if_pos (by omega)] at e1; omega) | (rw [if_neg (by omega)] at e1; omega)) (by omega) (by omega)  
                  · refine r_if_eq (tgt := 86) hC dX6_windows_79 rfl (fun h19 => ?_) (fun h19 => by omega)
                    refine r_iconst hC dX6_windows_86 rfl ?_
                    refine r_iaddE hC (w10) dX6_windows_87 (by omega) (by unfold inR; omega) ?_
                    refine r_istore hC dX6_windows_88 rfl ?_
                    refine r_iincE hC ((w9 + 1)) dX6_windows_90 rfl rfl (by omega) (by unfold inR; omega) ?_
                    refine r_goto (tgt := 37) hC dX6_windows_93 rfl ?_
                    refine r_forget hC (ls2 := [some (vR 30 0), some (vI l), some (vI w), some (vI x), some (vI y), some (vI w10), some (vI w5), some (vI (w9 + 1)), none]) (lsub_some (lsub_some (lsub_some (lsub_some (lsub_some (lsub_some (lsub_some (lsub_some (lsub_none lsub_nil))))))))) ?_
                    exact ih37 ((w9 + 1)) (w10)  (by omega) (by omega) (by omega) (by first | (rw [show (w5 - w5).toNat = 0 from by omega]; show _ = _ + (0 : Int); omega) | (rw [if_pos (by omega)] at e1; omega) | (rw [if_neg (by omega)] at e1; omega)) (by omega) (by omega)  
          exact L37 123 (w5) (w4)  (by omega) (by omega) (by omega) (by first | (rw [show (w5 - w5).toNat = 0 from by omega]; show _ = _ + (0 : Int); omega) | (rw [if_pos (by omega)] at e1; omega) | (rw [if_neg (by omega)] at e1; omega)) (by omega) (by omega)  
    exact L23 123 (0) (0)  (by omega) (by omega) (by first | rfl | omega) (by omega) (by omega)  
  · unfold lwC opV at h1
    refine r_if_ne (tgt := 11) hC dX6_windows_6 rfl (fun h20 => by omega) (fun h20 => ?_)
    refine r_iconst hC dX6_windows_9 rfl ?_
    refine y_iret hK rfl dX6_windows_10 ?_
    have hRr : wnQ V l w x y = (-1) := by
      exact if_neg (by unfold lwC opV; omega)
    rw [hRr] at k
    exact k _ ⟨hR.1, hR.2.1, hR.2.2⟩
