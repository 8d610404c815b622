-- B: the class: what is asked, III
theorem x_peakAt {eb : Bool} {d : Nat} {P : Option Vl → Mm → Prop} {σ : Mm} {l m w : Int}  (hG : GI σ)  (k : ∀ r : Int, paA σ l m w r → P (some (vI r)) σ) : WT (true, false, eb) (d + 6) 80 [vR 2 0, vI l, vI m, vI w] σ P := by
  refine WT_in fun K hK => ?_
  have hK : StpY (true, false, eb) cX5_peakAt RX5 (some .int) (WT (true, false, eb) (d + 5)) P K := hK
  have hM := hK.1
  have hC := hK.1.1
  show K 0 [some (vR 2 0), some (vI l), some (vI m), some (vI w), none, none, none, none, none] [] σ
  refine r_rngz hC (fun g0 => ?_)
  have r_l : -2147483648 ≤ l ∧ l ≤ 2147483647 := inR_le (g0 (vI l) (by simp))
  have r_m : -2147483648 ≤ m ∧ m ≤ 2147483647 := inR_le (g0 (vI m) (by simp))
  have r_w : -2147483648 ≤ w ∧ w ≤ 2147483647 := inR_le (g0 (vI w) (by simp))
  have hcl := hG.2.1.2.2.2.2.2.2.2
  have hrow := hG.2.1.2.2.1
  refine r_aload_n hC dX5_peakAt_0 rfl ?_
  refine r_iload_n hC dX5_peakAt_1 rfl ?_
  refine r_iload_n hC dX5_peakAt_2 rfl ?_
  refine z_inv2 hM dX5_peakAt_3 vl_RX5_248 rfl rfl rfl (Nat.le_of_ble_eq_true rfl) (Nat.le_of_ble_eq_true rfl) ?_
  refine x_laneWith (fun hl_3 => ?_) (fun hl_3 => ?_)
  · have h6_3 := hG.1.h7 (l := l) (by omega) (by omega)
    have hN_3 := numF_rng (σ 7 l 2)
    have hO_3 := (hG.2.1.2.2.2.1 l (by omega) (by omega)).2
    refine r_astore hC dX5_peakAt_6 rfl ?_
    refine r_aload hC dX5_peakAt_8 rfl ?_
    refine r_ifnullR hC dX5_peakAt_10 ?_
    refine r_iload_n hC dX5_peakAt_13 rfl ?_
    refine r_iconst hC dX5_peakAt_14 rfl ?_
    refine r_aload hC dX5_peakAt_15 rfl ?_
    refine z_getI (jz := 6) hM dX5_peakAt_17 fl_RX5_154 rfl rfl rfl (fun v1 h_v1 o_v1 t_v1 => ?_)
    have w_v1 := ((t_v1 (Or.inl (by simp [Tb]))).trans (rfl)).symm
    subst w_v1
    have q_v1 : 0 ≤ (σ 7 l 6) ∧ (σ 7 l 6) ≤ 121 := o_v1.1 rfl
    refine z_ins3 hM dX5_peakAt_20 tl_RX5_59 rfl (Nat.le_of_ble_eq_true rfl) (Nat.le_of_ble_eq_true rfl) ?_
    refine s_within (fun h3 => ?_) (fun h3 => ?_)
    · refine r_if_ne (tgt := 28) hC dX5_peakAt_23 rfl (fun h4 => ?_) (fun h4 => by omega)
      refine r_iconst hC dX5_peakAt_28 rfl ?_
      refine r_istore hC dX5_peakAt_29 rfl ?_
      refine r_ldc hC dX5_peakAt_31 co_RX5_175 rfl ?_
      refine r_istore hC dX5_peakAt_33 rfl ?_
      refine r_iconst hC dX5_peakAt_35 rfl ?_
      refine r_istore hC dX5_peakAt_36 rfl ?_
      have L38 : ∀ (n38 : Nat) (w5 w6 w7 : Int), 0 ≤ w5 ∧ w5 ≤ 121 → -2147483648 ≤ w6 ∧ w6 ≤ 2147483647 → 0 ≤ w7 ∧ w7 ≤ 120 → (BestQ (fun i => ptV σ l i (i + m) w) (w5) (w7) (w6)) → ((w5) + m ≤ σ 7 l 6 + 1) → 121 - w5 < (n38 : Int) → K 38 [some (vR 2 0), some (vI l), some (vI m), some (vI w), some (vR 7 l), some (vI w7), some (vI w6), some (vI w5), none] [] σ := by
        intro n38
        induction n38 with
        | zero => intro w5 w6 w7  f_w5 f_w6 f_w7 i0_38 i1_38 hm  ; omega
        | succ n38 ih38 =>
          intro w5 w6 w7  f_w5 f_w6 f_w7 i0_38 i1_38 hm38  
          refine r_iload hC dX5_peakAt_38 rfl ?_
          refine r_iload_n hC dX5_peakAt_40 rfl ?_
          refine r_iaddE hC ((w5 + m)) dX5_peakAt_41 (by omega) (by unfold inR; omega) ?_
          refine r_aload hC dX5_peakAt_42 rfl ?_
          refine z_getI (jz := 6) hM dX5_peakAt_44 fl_RX5_154 rfl rfl rfl (fun v8 h_v8 o_v8 t_v8 => ?_)
          have w_v8 := ((t_v8 (Or.inl (by simp [Tb]))).trans (rfl)).symm
          subst w_v8
          have q_v8 : 0 ≤ (σ 7 l 6) ∧ (σ 7 l 6) ≤ 121 := o_v8.1 rfl
          refine r_icmp_gt (tgt := 86) hC dX5_peakAt_47 rfl (fun h9 => ?_) (fun h9 => ?_)
          · refine r_iload hC dX5_peakAt_86 rfl ?_
            refine y_iret hK rfl dX5_peakAt_88 ?_
            have hA : paA σ l m w w7 := by
              exact ⟨fun z => absurd (by unfold pkC lwC opV; omega) z, fun _ => BestQ.done (n := w5) i0_38 (by omega) (by omega)⟩
            exact k _ hA
          · refine r_aload_n hC dX5_peakAt_50 rfl ?_
            refine r_aload hC dX5_peakAt_51 rfl ?_
            refine r_iload hC dX5_peakAt_53 rfl ?_
            refine r_iload hC dX5_peakAt_55 rfl ?_
            refine r_iload_n hC dX5_peakAt_57 rfl ?_
            refine r_iaddE hC ((w5 + m)) dX5_peakAt_58 (by omega) (by unfold inR; omega) ?_
            refine r_iload_n hC dX5_peakAt_59 rfl ?_
            refine z_inv4 hM dX5_peakAt_60 vl_RX5_227 rfl rfl rfl (Nat.le_of_ble_eq_true rfl) (Nat.le_of_ble_eq_true rfl) ?_
            refine x_comesTo (by omega) (by omega) (by omega) ?_
            refine r_istore hC dX5_peakAt_63 rfl ?_
            refine r_rngz hC (fun g1 => ?_)
            have r8_ : -2147483648 ≤ (cm (σ 16 0) (σ 15 0) (σ 7 l 2) (fun j => σ 9 l (w5 + j)) ((w5 + m) - w5).toNat w) ∧ (cm (σ 16 0) (σ 15 0) (σ 7 l 2) (fun j => σ 9 l (w5 + j)) ((w5 + m) - w5).toNat w) ≤ 2147483647 := inR_le (g1 (vI (cm (σ 16 0) (σ 15 0) (σ 7 l 2) (fun j => σ 9 l (w5 + j)) ((w5 + m) - w5).toNat w)) (by simp))
            refine r_iload hC dX5_peakAt_65 rfl ?_
            refine r_iload hC dX5_peakAt_67 rfl ?_
            refine r_icmp_le (tgt := 80) hC dX5_peakAt_69 rfl (fun h10 => ?_) (fun h10 => ?_)
            · refine r_iincE hC ((w5 + 1)) dX5_peakAt_80 rfl rfl (by omega) (by unfold inR; omega) ?_
              refine r_goto (tgt := 38) hC dX5_peakAt_83 rfl ?_
              refine r_forget hC (ls2 := [some (vR 2 0), some (vI l), some (vI m), some (vI w), some (vR 7 l), some (vI w7), some (vI w6), some (vI (w5 + 1)), none]) (lsub_some (lsub_some (lsub_some (lsub_some (lsub_some (lsub_some (lsub_some (lsub_some (lsub_none lsub_nil))))))))) ?_
              exact ih38 ((w5 + 1)) (w6) (w7)  (by omega) (by omega) (by omega) (by first | exact Or.inl ⟨rfl, rfl, rfl⟩ | exact BestQ.no i0_38 (by show ptV σ l w5 (w5 + m) w ≤ _; unfold ptV; omega) (by show (-2147483648 : Int) ≤ ptV σ l w5 (w5 + m) w; unfold ptV; omega) | exact BestQ.yes i0_38 (by show _ < ptV σ l w5 (w5 + m) w; unfold ptV; omega)) (by omega) (by omega)  
            · refine r_iload hC dX5_peakAt_72 rfl ?_
              refine r_istore hC dX5_peakAt_74 rfl ?_
              refine r_iload hC dX5_peakAt_76 rfl ?_
              refine r_istore hC dX5_peakAt_78 rfl ?_
              refine r_iincE hC ((w5 + 1)) dX5_peakAt_80 rfl rfl (by omega) (by unfold inR; omega) ?_
              show K _ [_, _, _, _, _, _, _, _, _] _ _
              refine r_goto (tgt := 38) hC dX5_peakAt_83 rfl ?_
              refine r_forget hC (ls2 := [some (vR 2 0), some (vI l), some (vI m), some (vI w), some (vR 7 l), some (vI w5), some (vI (cm (σ 16 0) (σ 15 0) (σ 7 l 2) (fun j => σ 9 l (w5 + j)) ((w5 + m) - w5).toNat w)), some (vI (w5 + 1)), none]) (lsub_some (lsub_some (lsub_some (lsub_some (lsub_some (lsub_some (lsub_some (lsub_some (lsub_none lsub_nil))))))))) ?_
              exact ih38 ((w5 + 1)) ((cm (σ 16 0) (σ 15 0) (σ 7 l 2) (fun j => σ 9 l (w5 + j)) ((w5 + m) - w5).toNat w)) (w5)  (by omega) (by omega) (by omega) (by first | exact Or.inl ⟨rfl, rfl, rfl⟩ | exact BestQ.no i0_38 (by show ptV σ l w5 (w5 + m) w ≤ _; unfold ptV; omega) (by show (-2147483648 : Int) ≤ ptV σ l w5 (w5 + m) w; unfold ptV; omega) | exact BestQ.yes i0_38 (by show _ < ptV σ l w5 (w5 + m) w; unfold ptV; omega)) (by omega) (by omega)  
      exact L38 123 (0) ((-2147483648)) (0)  (by omega) (by omega) (by omega) (by first | exact Or.inl ⟨rfl, rfl, rfl⟩ | exact BestQ.no i0_38 (by show ptV σ l w5 (w5 + m) w ≤ _; unfold ptV; omega) (by show (-2147483648 : Int) ≤ ptV σ l w5 (w5 + m) w; unfold ptV; omega) | exact BestQ.yes i0_38 (by show _ < ptV σ l w5 (w5 + m) w; unfold ptV; omega)) (by omega) (by omega)  
    · refine r_if_ne (tgt := 28) hC dX5_peakAt_23 rfl (fun h11 => by omega) (fun h11 => ?_)
      refine r_iconst hC dX5_peakAt_26 rfl ?_
      refine y_iret hK rfl dX5_peakAt_27 ?_
      have hA : paA σ l m w (-1) := by
        exact ⟨fun _ => rfl, fun q => by unfold pkC lwC opV at q; omega⟩
      exact k _ hA
  · refine r_astoreN hC dX5_peakAt_6 rfl ?_
    refine r_aloadN hC dX5_peakAt_8 rfl ?_
    refine r_ifnullN (tgt := 26) hC dX5_peakAt_10 rfl ?_
    refine r_iconst hC dX5_peakAt_26 rfl ?_
    refine y_iret hK rfl dX5_peakAt_27 ?_
    have hA : paA σ l m w (-1) := by
      exact ⟨fun _ => rfl, fun q => by unfold pkC lwC opV at q; omega⟩
    exact k _ hA
theorem x_peak {eb : Bool} {d : Nat} {P : Option Vl → Mm → Prop} {σ : Mm} {l m w : Int}  (hG : GI σ)  (k : ∀ r : Int, pkA σ l m w r → P (some (vI r)) σ) : WT (true, false, eb) (d + 7) 79 [vR 2 0, vI l, vI m, vI w] σ P := by
  refine WT_in fun K hK => ?_
  have hK : StpY (true, false, eb) cX5_peak RX5 (some .int) (WT (true, false, eb) (d + 6)) P K := hK
  have hM := hK.1
  have hC := hK.1.1
  show K 0 [some (vR 2 0), some (vI l), some (vI m), some (vI w), none] [] σ
  refine r_rngz hC (fun g0 => ?_)
  have r_l : -2147483648 ≤ l ∧ l ≤ 2147483647 := inR_le (g0 (vI l) (by simp))
  have r_m : -2147483648 ≤ m ∧ m ≤ 2147483647 := inR_le (g0 (vI m) (by simp))
  have r_w : -2147483648 ≤ w ∧ w ≤ 2147483647 := inR_le (g0 (vI w) (by simp))
  have hcl := hG.2.1.2.2.2.2.2.2.2
  have hrow := hG.2.1.2.2.1
  refine r_aload_n hC dX5_peak_0 rfl ?_
  refine r_iload_n hC dX5_peak_1 rfl ?_
  refine r_iload_n hC dX5_peak_2 rfl ?_
  refine r_iload_n hC dX5_peak_3 rfl ?_
  refine z_inv3 hM dX5_peak_4 vl_RX5_262 rfl rfl rfl (Nat.le_of_ble_eq_true rfl) (Nat.le_of_ble_eq_true rfl) ?_
  refine x_peakAt hG (fun a1 hA_a1 => ?_)
  have hB : a1 = -1 ∨ ((opV σ l ∧ 0 ≤ w ∧ w < numF (σ 7 l 2)) ∧ (1 ≤ m ∧ m ≤ σ 7 l 6) ∧ 0 ≤ a1 ∧ a1 ≤ σ 7 l 6 - m) := by
    by_cases c : pkC σ l m w
    · exact Or.inr ⟨c.1, c.2, (hA_a1.2 c).1⟩
    · exact Or.inl (hA_a1.1 c)
  unfold opV at hB
  have n_b := numF_rng (σ 7 l 2)
  have h6b : 0 ≤ l → l ≤ 3 → 0 ≤ σ 7 l 6 ∧ σ 7 l 6 ≤ 120 := fun a b => hG.1.h7 (l := l) a (by omega)
  have hrg : -1 ≤ a1 ∧ a1 ≤ 120 := by omega
  refine r_istore hC dX5_peak_7 rfl ?_
  refine r_iload hC dX5_peak_9 rfl ?_
  refine r_iconst hC dX5_peak_11 rfl ?_
  refine r_icmp_ne (tgt := 20) hC dX5_peak_12 rfl (fun h2 => ?_) (fun h2 => ?_)
  · refine r_aload_n hC dX5_peak_20 rfl ?_
    refine r_aload_n hC dX5_peak_21 rfl ?_
    refine z_getR hM dX5_peak_22 fl_RX5_13 rfl rfl (vld_of (n := 1) rfl (by omega) (by omega)) ?_
    refine r_iload_n hC dX5_peak_25 rfl ?_
    have hl3 : 0 ≤ l ∧ l ≤ 3 := by omega
    have hm120 : 1 ≤ m ∧ m ≤ 120 := by have := h6b (by omega) (by omega); omega
    refine z_aald hM dX5_peak_26 rfl (by decide) (by omega) (by omega) (vld_of (n := 7) rfl (by omega) (by omega)) ?_
    refine r_iload hC dX5_peak_27 rfl ?_
    refine r_iload hC dX5_peak_29 rfl ?_
    refine r_iload_n hC dX5_peak_31 rfl ?_
    refine r_iaddE hC ((a1 + m)) dX5_peak_32 (by omega) (by unfold inR; omega) ?_
    refine r_iload_n hC dX5_peak_33 rfl ?_
    refine z_inv4 hM dX5_peak_34 vl_RX5_227 rfl rfl rfl (Nat.le_of_ble_eq_true rfl) (Nat.le_of_ble_eq_true rfl) ?_
    refine x_comesTo (by omega) (by omega) (by omega) ?_
    refine y_iret hK rfl dX5_peak_37 ?_
    have hA : pkA σ l m w (cm (σ 16 0) (σ 15 0) (σ 7 l 2) (fun j => σ 9 l (a1 + j)) ((a1 + m) - a1).toNat w) := by
      refine ⟨a1, hA_a1, ?_⟩
      first | (rw [if_pos (by omega)]; done) | (rw [if_neg (by omega)]; rfl) | (rw [if_neg (by omega)])
    exact k _ hA
  · refine r_ldc hC dX5_peak_15 co_RX5_175 rfl ?_
    refine r_goto (tgt := 37) hC dX5_peak_17 rfl ?_
    refine y_iret hK rfl dX5_peak_37 ?_
    have hA : pkA σ l m w (-2147483648) := by
      refine ⟨a1, hA_a1, ?_⟩
      first | (rw [if_pos (by omega)]; done) | (rw [if_neg (by omega)]; rfl) | (rw [if_neg (by omega)])
    exact k _ hA
theorem x_spare {eb : Bool} {d : Nat} {P : Option Vl → Mm → Prop} {σ : Mm} {l w : Int}  (hG : GI σ)  (k : ∀ r : Int, spA σ l w r → P (some (vI r)) σ) : WT (true, false, eb) (d + 6) 82 [vR 2 0, vI l, vI w] σ P := by
  refine WT_in fun K hK => ?_
  have hK : StpY (true, false, eb) cX5_spare RX5 (some .int) (WT (true, false, eb) (d + 5)) P K := hK
  have hM := hK.1
  have hC := hK.1.1
  show K 0 [some (vR 2 0), some (vI l), some (vI w), none, none, none, none, none] [] σ
  refine r_rngz hC (fun g0 => ?_)
  have r_l : -2147483648 ≤ l ∧ l ≤ 2147483647 := inR_le (g0 (vI l) (by simp))
  have r_w : -2147483648 ≤ w ∧ w ≤ 2147483647 := inR_le (g0 (vI w) (by simp))
  have hcl := hG.2.1.2.2.2.2.2.2.2
  have hrow := hG.2.1.2.2.1
  refine r_aload_n hC dX5_spare_0 rfl ?_
  refine r_iload_n hC dX5_spare_1 rfl ?_
  refine r_iload_n hC dX5_spare_2 rfl ?_
  refine z_inv2 hM dX5_spare_3 vl_RX5_248 rfl rfl rfl (Nat.le_of_ble_eq_true rfl) (Nat.le_of_ble_eq_true rfl) ?_
  refine x_laneWith (fun hl_3 => ?_) (fun hl_3 => ?_)
  · have h6_3 := hG.1.h7 (l := l) (by omega) (by omega)
    have hN_3 := numF_rng (σ 7 l 2)
    have hO_3 := (hG.2.1.2.2.2.1 l (by omega) (by omega)).2
    refine r_astore_n hC dX5_spare_6 rfl ?_
    refine r_aload_n hC dX5_spare_7 rfl ?_
    refine r_ifnullR hC dX5_spare_8 ?_
    refine r_aload_n hC dX5_spare_11 rfl ?_
    refine z_getI (jz := 6) hM dX5_spare_12 fl_RX5_154 rfl rfl rfl (fun v1 h_v1 o_v1 t_v1 => ?_)
    have w_v1 := ((t_v1 (Or.inl (by simp [Tb]))).trans (rfl)).symm
    subst w_v1
    have q_v1 : 0 ≤ (σ 7 l 6) ∧ (σ 7 l 6) ≤ 121 := o_v1.1 rfl
    refine r_iconst hC dX5_spare_15 rfl ?_
    refine r_icmp_ge (tgt := 21) hC dX5_spare_16 rfl (fun h2 => ?_) (fun h2 => ?_)
    · refine r_iconst hC dX5_spare_21 rfl ?_
      refine r_istore hC dX5_spare_22 rfl ?_
      refine r_ldc hC dX5_spare_24 co_RX5_175 rfl ?_
      refine r_istore hC dX5_spare_26 rfl ?_
      refine r_iconst hC dX5_spare_28 rfl ?_
      refine r_istore hC dX5_spare_29 rfl ?_
      have L31 : ∀ (n31 : Nat) (w3 w4 w5 : Int), 0 ≤ w3 ∧ w3 ≤ 121 → -2147483648 ≤ w4 ∧ w4 ≤ 2147483647 → 0 ≤ w5 ∧ w5 ≤ 120 → (BestQ (fun i => woV σ l i w) (w3) (w5) (w4)) → ((w3) ≤ σ 7 l 6) → 121 - w3 < (n31 : Int) → K 31 [some (vR 2 0), some (vI l), some (vI w), some (vR 7 l), some (vI w5), some (vI w4), some (vI w3), none] [] σ := by
        intro n31
        induction n31 with
        | zero => intro w3 w4 w5  f_w3 f_w4 f_w5 i0_31 i1_31 hm  ; omega
        | succ n31 ih31 =>
          intro w3 w4 w5  f_w3 f_w4 f_w5 i0_31 i1_31 hm31  
          refine r_iload hC dX5_spare_31 rfl ?_
          refine r_aload_n hC dX5_spare_33 rfl ?_
          refine z_getI (jz := 6) hM dX5_spare_34 fl_RX5_154 rfl rfl rfl (fun v6 h_v6 o_v6 t_v6 => ?_)
          have w_v6 := ((t_v6 (Or.inl (by simp [Tb]))).trans (rfl)).symm
          subst w_v6
          have q_v6 : 0 ≤ (σ 7 l 6) ∧ (σ 7 l 6) ≤ 121 := o_v6.1 rfl
          refine r_icmp_ge (tgt := 71) hC dX5_spare_37 rfl (fun h7 => ?_) (fun h7 => ?_)
          · refine r_iload hC dX5_spare_71 rfl ?_
            refine y_iret hK rfl dX5_spare_73 ?_
            have hA : spA σ l w w5 := by
              exact ⟨fun z => absurd (by unfold spC lwC opV; omega) z, fun _ => BestQ.done (n := w3) i0_31 (by omega) (by omega)⟩
            exact k _ hA
          · refine r_aload_n hC dX5_spare_40 rfl ?_
            refine r_aload_n hC dX5_spare_41 rfl ?_
            refine r_iload hC dX5_spare_42 rfl ?_
            refine r_iload_n hC dX5_spare_44 rfl ?_
            refine z_inv3 hM dX5_spare_45 vl_RX5_269 rfl rfl rfl (Nat.le_of_ble_eq_true rfl) (Nat.le_of_ble_eq_true rfl) ?_
            refine x_comesToWithout (by omega) (by omega) (by omega) hG ?_
            refine r_istore hC dX5_spare_48 rfl ?_
            refine r_rngz hC (fun g1 => ?_)
            have r8_ : -2147483648 ≤ (woV σ l w3 w) ∧ (woV σ l w3 w) ≤ 2147483647 := inR_le (g1 (vI (woV σ l w3 w)) (by simp))
            refine r_iload hC dX5_spare_50 rfl ?_
            refine r_iload hC dX5_spare_52 rfl ?_
            refine r_icmp_le (tgt := 65) hC dX5_spare_54 rfl (fun h8 => ?_) (fun h8 => ?_)
            · refine r_iincE hC ((w3 + 1)) dX5_spare_65 rfl rfl (by omega) (by unfold inR; omega) ?_
              refine r_goto (tgt := 31) hC dX5_spare_68 rfl ?_
              refine r_forget hC (ls2 := [some (vR 2 0), some (vI l), some (vI w), some (vR 7 l), some (vI w5), some (vI w4), some (vI (w3 + 1)), none]) (lsub_some (lsub_some (lsub_some (lsub_some (lsub_some (lsub_some (lsub_some (lsub_none lsub_nil)))))))) ?_
              exact ih31 ((w3 + 1)) (w4) (w5)  (by omega) (by omega) (by omega) (by first | exact Or.inl ⟨rfl, rfl, rfl⟩ | exact BestQ.no i0_31 (by show woV σ l w3 w ≤ _; omega) (by show (-2147483648 : Int) ≤ woV σ l w3 w; omega) | exact BestQ.yes i0_31 (by show _ < woV σ l w3 w; omega)) (by omega) (by omega)  
            · refine r_iload hC dX5_spare_57 rfl ?_
              refine r_istore hC dX5_spare_59 rfl ?_
              refine r_iload hC dX5_spare_61 rfl ?_
              refine r_istore hC dX5_spare_63 rfl ?_
              refine r_iincE hC ((w3 + 1)) dX5_spare_65 rfl rfl (by omega) (by unfold inR; omega) ?_
              show K _ [_, _, _, _, _, _, _, _] _ _
              refine r_goto (tgt := 31) hC dX5_spare_68 rfl ?_
              refine r_forget hC (ls2 := [some (vR 2 0), some (vI l), some (vI w), some (vR 7 l), some (vI w3), some (vI (woV σ l w3 w)), some (vI (w3 + 1)), none]) (lsub_some (lsub_some (lsub_some (lsub_some (lsub_some (lsub_some (lsub_some (lsub_none lsub_nil)))))))) ?_
              exact ih31 ((w3 + 1)) ((woV σ l w3 w)) (w3)  (by omega) (by omega) (by omega) (by first | exact Or.inl ⟨rfl, rfl, rfl⟩ | exact BestQ.no i0_31 (by show woV σ l w3 w ≤ _; omega) (by show (-2147483648 : Int) ≤ woV σ l w3 w; omega) | exact BestQ.yes i0_31 (by show _ < woV σ l w3 w; omega)) (by omega) (by omega)  
      exact L31 123 (0) ((-2147483648)) (0)  (by omega) (by omega) (by omega) (by first | exact Or.inl ⟨rfl, rfl, rfl⟩ | exact BestQ.no i0_31 (by show woV σ l w3 w ≤ _; omega) (by show (-2147483648 : Int) ≤ woV σ l w3 w; omega) | exact BestQ.yes i0_31 (by show _ < woV σ l w3 w; omega)) (by omega) (by omega)  
    · refine r_iconst hC dX5_spare_19 rfl ?_
      refine y_iret hK rfl dX5_spare_20 ?_
      have hA : spA σ l w (-1) := by
        exact ⟨fun _ => rfl, fun q => by unfold spC lwC opV at q; omega⟩
      exact k _ hA
  · refine r_astoreN_n hC dX5_spare_6 rfl ?_
    refine r_aloadN_n hC dX5_spare_7 rfl ?_
    refine r_ifnullN (tgt := 19) hC dX5_spare_8 rfl ?_
    refine r_iconst hC dX5_spare_19 rfl ?_
    refine y_iret hK rfl dX5_spare_20 ?_
    have hA : spA σ l w (-1) := by
      exact ⟨fun _ => rfl, fun q => by unfold spC lwC opV at q; omega⟩
    exact k _ hA
theorem x_without {eb : Bool} {d : Nat} {P : Option Vl → Mm → Prop} {σ : Mm} {l x w : Int}  (hG : GI σ)  (k : P (some (vI (woR σ l x w))) σ) : WT (true, false, eb) (d + 6) 81 [vR 2 0, vI l, vI x, vI w] σ P := by
  refine WT_in fun K hK => ?_
  have hK : StpY (true, false, eb) cX5_without RX5 (some .int) (WT (true, false, eb) (d + 5)) P K := hK
  have hM := hK.1
  have hC := hK.1.1
  show K 0 [some (vR 2 0), some (vI l), some (vI x), some (vI w), none] [] σ
  refine r_rngz hC (fun g0 => ?_)
  have r_l : -2147483648 ≤ l ∧ l ≤ 2147483647 := inR_le (g0 (vI l) (by simp))
  have r_x : -2147483648 ≤ x ∧ x ≤ 2147483647 := inR_le (g0 (vI x) (by simp))
  have r_w : -2147483648 ≤ w ∧ w ≤ 2147483647 := inR_le (g0 (vI w) (by simp))
  have hcl := hG.2.1.2.2.2.2.2.2.2
  have hrow := hG.2.1.2.2.1
  refine r_aload_n hC dX5_without_0 rfl ?_
  refine r_iload_n hC dX5_without_1 rfl ?_
  refine r_iload_n hC dX5_without_2 rfl ?_
  refine z_inv2 hM dX5_without_3 vl_RX5_171 rfl rfl rfl (Nat.le_of_ble_eq_true rfl) (Nat.le_of_ble_eq_true rfl) ?_
  refine x_laneHolding (fun hl_3 => ?_) (fun hl_3 => ?_)
  · have h6_3 := hG.1.h7 (l := l) (by omega) (by omega)
    have hN_3 := numF_rng (σ 7 l 2)
    have hO_3 := (hG.2.1.2.2.2.1 l (by omega) (by omega)).2
    refine r_astore hC dX5_without_6 rfl ?_
    refine r_aload hC dX5_without_8 rfl ?_
    refine r_ifnullR hC dX5_without_10 ?_
    refine r_aload hC dX5_without_13 rfl ?_
    refine r_iload_n hC dX5_without_15 rfl ?_
    refine z_inv1 hM dX5_without_16 vl_RX5_266 rfl rfl rfl (Nat.le_of_ble_eq_true rfl) (Nat.le_of_ble_eq_true rfl) ?_
    refine x_hasNumber (by omega) (fun h1 => ?_) (fun h1 => ?_)
    · refine r_if_ne (tgt := 27) hC dX5_without_19 rfl (fun h2 => ?_) (fun h2 => by omega)
      refine r_aload_n hC dX5_without_27 rfl ?_
      refine r_aload hC dX5_without_28 rfl ?_
      refine r_iload_n hC dX5_without_30 rfl ?_
      refine r_iload_n hC dX5_without_31 rfl ?_
      refine z_inv3 hM dX5_without_32 vl_RX5_269 rfl rfl rfl (Nat.le_of_ble_eq_true rfl) (Nat.le_of_ble_eq_true rfl) ?_
      refine x_comesToWithout (by omega) (by omega) (by omega) hG ?_
      refine y_iret hK rfl dX5_without_35 ?_
      have hR : woR σ l x w = (woV σ l x w) := by
        unfold woR
        first | exact if_pos (by unfold lwC opV; omega) | exact if_neg (by unfold lwC opV; omega)
      rw [hR] at k
      exact k
    · refine r_if_ne (tgt := 27) hC dX5_without_19 rfl (fun h3 => by omega) (fun h3 => ?_)
      refine r_ldc hC dX5_without_22 co_RX5_175 rfl ?_
      refine r_goto (tgt := 35) hC dX5_without_24 rfl ?_
      refine y_iret hK rfl dX5_without_35 ?_
      have hR : woR σ l x w = (-2147483648) := by
        unfold woR
        first | exact if_pos (by unfold lwC opV; omega) | exact if_neg (by unfold lwC opV; omega)
      rw [hR] at k
      exact k
  · refine r_astoreN hC dX5_without_6 rfl ?_
    refine r_aloadN hC dX5_without_8 rfl ?_
    refine r_ifnullN (tgt := 22) hC dX5_without_10 rfl ?_
    refine r_ldc hC dX5_without_22 co_RX5_175 rfl ?_
    refine r_goto (tgt := 35) hC dX5_without_24 rfl ?_
    refine y_iret hK rfl dX5_without_35 ?_
    have hR : woR σ l x w = (-2147483648) := by
      unfold woR
      first | exact if_pos (by unfold lwC opV; omega) | exact if_neg (by unfold lwC opV; omega)
    rw [hR] at k
    exact k
theorem x_panes {eb : Bool} {d : Nat} {P : Option Vl → Mm → Prop} {σ : Mm} {l w : Int}  (hG : GI σ)  (k : P (some (vI (pnR σ l w))) σ) : WT (true, false, eb) (d + 4) 89 [vR 2 0, vI l, vI w] σ P := by
  refine WT_in fun K hK => ?_
  have hK : StpY (true, false, eb) cX5_panes RX5 (some .int) (WT (true, false, eb) (d + 3)) P K := hK
  have hM := hK.1
  have hC := hK.1.1
  show K 0 [some (vR 2 0), some (vI l), some (vI w), none, none, none, none, none] [] σ
  refine r_rngz hC (fun g0 => ?_)
  have r_l : -2147483648 ≤ l ∧ l ≤ 2147483647 := inR_le (g0 (vI l) (by simp))
  have r_w : -2147483648 ≤ w ∧ w ≤ 2147483647 := inR_le (g0 (vI w) (by simp))
  have hcl := hG.2.1.2.2.2.2.2.2.2
  have hrow := hG.2.1.2.2.1
  refine r_aload_n hC dX5_panes_0 rfl ?_
  refine r_iload_n hC dX5_panes_1 rfl ?_
  refine z_inv1 hM dX5_panes_2 vl_RX5_123 rfl rfl rfl (Nat.le_of_ble_eq_true rfl) (Nat.le_of_ble_eq_true rfl) ?_
  refine x_openLane (fun hl_2 => ?_) (fun hl_2 => ?_)
  · have h6_2 := hG.1.h7 (l := l) (by omega) (by omega)
    have hN_2 := numF_rng (σ 7 l 2)
    have hO_2 := (hG.2.1.2.2.2.1 l (by omega) (by omega)).2
    refine r_astore_n hC dX5_panes_5 rfl ?_
    refine r_aload_n hC dX5_panes_6 rfl ?_
    refine r_ifnullR hC dX5_panes_7 ?_
    refine r_iload_n hC dX5_panes_10 rfl ?_
    refine r_iconst hC dX5_panes_11 rfl ?_
    refine r_ldcw hC dX5_panes_12 co_RX5_284 rfl ?_
    refine z_ins3 hM dX5_panes_15 tl_RX5_59 rfl (Nat.le_of_ble_eq_true rfl) (Nat.le_of_ble_eq_true rfl) ?_
    refine s_within (fun h2 => ?_) (fun h2 => ?_)
    · refine r_if_ne (tgt := 23) hC dX5_panes_18 rfl (fun h3 => ?_) (fun h3 => by omega)
      refine r_iconst hC dX5_panes_23 rfl ?_
      refine r_istore hC dX5_panes_24 rfl ?_
      refine r_iconst hC dX5_panes_26 rfl ?_
      refine r_istore hC dX5_panes_27 rfl ?_
      refine r_iconst hC dX5_panes_29 rfl ?_
      refine r_istore hC dX5_panes_30 rfl ?_
      have L32 : ∀ (n32 : Nat) (w4 w5 w6 : Int), 0 ≤ w4 ∧ w4 ≤ 121 → -1 ≤ w5 ∧ w5 ≤ 100000 → 0 ≤ w6 ∧ w6 ≤ 121 → ((w4) = pnN (σ 8 l) w ((w6)).toNat) → (((w6) = 0 ∧ (w5) = -1) ∨ (1 ≤ (w6) ∧ (w5) = σ 8 l ((w6) - 1) / w)) → ((w4) ≤ (w6)) → ((w6) ≤ σ 7 l 6) → 121 - w6 < (n32 : Int) → K 32 [some (vR 2 0), some (vI l), some (vI w), some (vR 7 l), some (vI w4), some (vI w5), some (vI w6), none] [] σ := by
        intro n32
        induction n32 with
        | zero => intro w4 w5 w6  f_w4 f_w5 f_w6 i0_32 i1_32 i2_32 i3_32 hm  ; omega
        | succ n32 ih32 =>
          intro w4 w5 w6  f_w4 f_w5 f_w6 i0_32 i1_32 i2_32 i3_32 hm32  
          refine r_iload hC dX5_panes_32 rfl ?_
          refine r_aload_n hC dX5_panes_34 rfl ?_
          refine z_getI (jz := 6) hM dX5_panes_35 fl_RX5_154 rfl rfl rfl (fun v7 h_v7 o_v7 t_v7 => ?_)
          have w_v7 := ((t_v7 (Or.inl (by simp [Tb]))).trans (rfl)).symm
          subst w_v7
          have q_v7 : 0 ≤ (σ 7 l 6) ∧ (σ 7 l 6) ≤ 121 := o_v7.1 rfl
          refine r_icmp_ge (tgt := 79) hC dX5_panes_38 rfl (fun h8 => ?_) (fun h8 => ?_)
          · refine r_iload hC dX5_panes_79 rfl ?_
            refine y_iret hK rfl dX5_panes_81 ?_
            have hR : pnR σ l w = w4 := by
              unfold pnR
              rw [if_pos (by unfold pnC opV; omega), show (σ 7 l 6).toNat = (w6).toNat from by omega]
              exact i0_32.symm
            rw [hR] at k
            exact k
          · refine r_aload_n hC dX5_panes_41 rfl ?_
            refine z_getR hM dX5_panes_42 fl_RX5_198 rfl rfl (vld_of (n := 7) rfl (by omega) (by omega)) ?_
            refine r_iload hC dX5_panes_45 rfl ?_
            refine z_iald hM dX5_panes_47 rfl (by omega) (by omega) (fun v9 h_v9 o_v9 t_v9 => ?_)
            have w_v9 := ((t_v9 (Or.inl (by simp [Tb]))).trans (rfl)).symm
            subst w_v9
            have ht_ := (hrow l w6 (by omega) (by omega) (by omega) (by omega)).1
            refine r_iload_n hC dX5_panes_48 rfl ?_
            refine r_idivN hC dX5_panes_49 (by omega) (by omega) ?_
            have f_v10 := idiv_fr (a := (σ 8 l w6)) (b := w) (by omega) (by omega)
            refine r_istore hC dX5_panes_50 rfl ?_
            refine r_iload hC dX5_panes_52 rfl ?_
            refine r_iload hC dX5_panes_54 rfl ?_
            refine r_iload hC dX5_panes_56 rfl ?_
            refine r_icmp_eq (tgt := 65) hC dX5_panes_58 rfl (fun h11 => ?_) (fun h11 => ?_)
            · refine r_iconst hC dX5_panes_65 rfl ?_
              refine r_iaddE hC (w4) dX5_panes_66 (by omega) (by unfold inR; omega) ?_
              refine r_istore hC dX5_panes_67 rfl ?_
              refine r_iload hC dX5_panes_69 rfl ?_
              refine r_istore hC dX5_panes_71 rfl ?_
              refine r_iincE hC ((w6 + 1)) dX5_panes_73 rfl rfl (by omega) (by unfold inR; omega) ?_
              show K _ [_, _, _, _, _, _, _, _] _ _
              refine r_goto (tgt := 32) hC dX5_panes_76 rfl ?_
              refine r_forget hC (ls2 := [some (vR 2 0), some (vI l), some (vI w), some (vR 7 l), some (vI w4), some (vI ((σ 8 l w6) / w)), some (vI (w6 + 1)), none]) (lsub_some (lsub_some (lsub_some (lsub_some (lsub_some (lsub_some (lsub_some (lsub_none lsub_nil)))))))) ?_
              exact ih32 (w4) (((σ 8 l w6) / w)) ((w6 + 1))  (by omega) (by omega) (by omega) (by first | rfl | (rw [pnN_I (by omega), ← i0_32]; first | (rw [if_pos (by omega)]; done) | (rw [if_neg (by omega)]; done) | (rw [if_pos (by omega)]; omega) | (rw [if_neg (by omega)]; omega))) (by first | exact Or.inl ⟨rfl, rfl⟩ | exact Or.inr ⟨by omega, by rw [show (w6 + 1 - 1 : Int) = w6 from by omega]⟩) (by omega) (by omega) (by omega)  
            · refine r_iconst hC dX5_panes_61 rfl ?_
              refine r_goto (tgt := 66) hC dX5_panes_62 rfl ?_
              refine r_iaddE hC ((w4 + 1)) dX5_panes_66 (by omega) (by unfold inR; omega) ?_
              refine r_istore hC dX5_panes_67 rfl ?_
              refine r_iload hC dX5_panes_69 rfl ?_
              refine r_istore hC dX5_panes_71 rfl ?_
              refine r_iincE hC ((w6 + 1)) dX5_panes_73 rfl rfl (by omega) (by unfold inR; omega) ?_
              show K _ [_, _, _, _, _, _, _, _] _ _
              refine r_goto (tgt := 32) hC dX5_panes_76 rfl ?_
              refine r_forget hC (ls2 := [some (vR 2 0), some (vI l), some (vI w), some (vR 7 l), some (vI (w4 + 1)), some (vI ((σ 8 l w6) / w)), some (vI (w6 + 1)), none]) (lsub_some (lsub_some (lsub_some (lsub_some (lsub_some (lsub_some (lsub_some (lsub_none lsub_nil)))))))) ?_
              exact ih32 ((w4 + 1)) (((σ 8 l w6) / w)) ((w6 + 1))  (by omega) (by omega) (by omega) (by first | rfl | (rw [pnN_I (by omega), ← i0_32]; first | (rw [if_pos (by omega)]; done) | (rw [if_neg (by omega)]; done) | (rw [if_pos (by omega)]; omega) | (rw [if_neg (by omega)]; omega))) (by first | exact Or.inl ⟨rfl, rfl⟩ | exact Or.inr ⟨by omega, by rw [show (w6 + 1 - 1 : Int) = w6 from by omega]⟩) (by omega) (by omega) (by omega)  
      exact L32 123 (0) ((-1)) (0)  (by omega) (by omega) (by omega) (by first | rfl | (rw [pnN_I (by omega), ← i0_32]; first | (rw [if_pos (by omega)]; done) | (rw [if_neg (by omega)]; done) | (rw [if_pos (by omega)]; omega) | (rw [if_neg (by omega)]; omega))) (by first | exact Or.inl ⟨rfl, rfl⟩ | exact Or.inr ⟨by omega, by rw [show (w6 + 1 - 1 : Int) = w6 from by omega]⟩) (by omega) (by omega) (by omega)  
    · refine r_if_ne (tgt := 23) hC dX5_panes_18 rfl (fun h12 => by omega) (fun h12 => ?_)
      refine r_iconst hC dX5_panes_21 rfl ?_
      refine y_iret hK rfl dX5_panes_22 ?_
      have hR : pnR σ l w = (-1) := by
        exact if_neg (by unfold pnC opV; omega)
      rw [hR] at k
      exact k
  · refine r_astoreN_n hC dX5_panes_5 rfl ?_
    refine r_aloadN_n hC dX5_panes_6 rfl ?_
    refine r_ifnullN (tgt := 21) hC dX5_panes_7 rfl ?_
    refine r_iconst hC dX5_panes_21 rfl ?_
    refine y_iret hK rfl dX5_panes_22 ?_
    have hR : pnR σ l w = (-1) := by
      exact if_neg (by unfold pnC opV; omega)
    rw [hR] at k
    exact k
theorem x_fullest {eb : Bool} {d : Nat} {P : Option Vl → Mm → Prop} {σ : Mm} {l w : Int}  (hG : GI σ)  (k : P (some (vI (flR σ l w))) σ) : WT (true, false, eb) (d + 4) 90 [vR 2 0, vI l, vI w] σ P := by
  refine WT_in fun K hK => ?_
  have hK : StpY (true, false, eb) cX5_fullest RX5 (some .int) (WT (true, false, eb) (d + 3)) P K := hK
  have hM := hK.1
  have hC := hK.1.1
  show K 0 [some (vR 2 0), some (vI l), some (vI w), none, none, none, none, none, none, none] [] σ
  refine r_rngz hC (fun g0 => ?_)
  have r_l : -2147483648 ≤ l ∧ l ≤ 2147483647 := inR_le (g0 (vI l) (by simp))
  have r_w : -2147483648 ≤ w ∧ w ≤ 2147483647 := inR_le (g0 (vI w) (by simp))
  have hcl := hG.2.1.2.2.2.2.2.2.2
  have hrow := hG.2.1.2.2.1
  refine r_aload_n hC dX5_fullest_0 rfl ?_
  refine r_iload_n hC dX5_fullest_1 rfl ?_
  refine z_inv1 hM dX5_fullest_2 vl_RX5_123 rfl rfl rfl (Nat.le_of_ble_eq_true rfl) (Nat.le_of_ble_eq_true rfl) ?_
  refine x_openLane (fun hl_2 => ?_) (fun hl_2 => ?_)
  · have h6_2 := hG.1.h7 (l := l) (by omega) (by omega)
    have hN_2 := numF_rng (σ 7 l 2)
    have hO_2 := (hG.2.1.2.2.2.1 l (by omega) (by omega)).2
    refine r_astore_n hC dX5_fullest_5 rfl ?_
    refine r_aload_n hC dX5_fullest_6 rfl ?_
    refine r_ifnullR hC dX5_fullest_7 ?_
    refine r_iload_n hC dX5_fullest_10 rfl ?_
    refine r_iconst hC dX5_fullest_11 rfl ?_
    refine r_ldcw hC dX5_fullest_12 co_RX5_284 rfl ?_
    refine z_ins3 hM dX5_fullest_15 tl_RX5_59 rfl (Nat.le_of_ble_eq_true rfl) (Nat.le_of_ble_eq_true rfl) ?_
    refine s_within (fun h2 => ?_) (fun h2 => ?_)
    · refine r_if_ne (tgt := 23) hC dX5_fullest_18 rfl (fun h3 => ?_) (fun h3 => by omega)
      refine r_iconst hC dX5_fullest_23 rfl ?_
      refine r_istore hC dX5_fullest_24 rfl ?_
      refine r_iconst hC dX5_fullest_26 rfl ?_
      refine r_istore hC dX5_fullest_27 rfl ?_
      refine r_iconst hC dX5_fullest_29 rfl ?_
      refine r_istore hC dX5_fullest_30 rfl ?_
      show K _ [_, _, _, _, _, _, _, _, _, _] _ _
      refine r_iconst hC dX5_fullest_32 rfl ?_
      refine r_istore hC dX5_fullest_33 rfl ?_
      refine r_iconst hC dX5_fullest_35 rfl ?_
      refine r_istore hC dX5_fullest_36 rfl ?_
      have L38 : ∀ (n38 : Nat) (w4 w5 w6 w7 w8 : Int), -1 ≤ w4 ∧ w4 ≤ 100000 → 0 ≤ w5 ∧ w5 ≤ 121 → -1 ≤ w6 ∧ w6 ≤ 100000 → 0 ≤ w7 ∧ w7 ≤ 121 → 0 ≤ w8 ∧ w8 ≤ 121 → ((w7) = (flN (σ 8 l) w ((w8)).toNat).1) → ((w5) = (flN (σ 8 l) w ((w8)).toNat).2.1) → ((w4) = (flN (σ 8 l) w ((w8)).toNat).2.2) → (((w8) = 0 ∧ (w6) = -1) ∨ (1 ≤ (w8) ∧ (w6) = σ 8 l ((w8) - 1) / w)) → ((w7) ≤ (w8)) → ((w5) ≤ (w8)) → ((w8) ≤ σ 7 l 6) → 121 - w8 < (n38 : Int) → K 38 [some (vR 2 0), some (vI l), some (vI w), some (vR 7 l), some (vI w4), some (vI w5), some (vI w6), some (vI w7), some (vI w8), none] [] σ := by
        intro n38
        induction n38 with
        | zero => intro w4 w5 w6 w7 w8  f_w4 f_w5 f_w6 f_w7 f_w8 i0_38 i1_38 i2_38 i3_38 i4_38 i5_38 i6_38 hm  ; omega
        | succ n38 ih38 =>
          intro w4 w5 w6 w7 w8  f_w4 f_w5 f_w6 f_w7 f_w8 i0_38 i1_38 i2_38 i3_38 i4_38 i5_38 i6_38 hm38  
          refine r_iload hC dX5_fullest_38 rfl ?_
          refine r_aload_n hC dX5_fullest_40 rfl ?_
          refine z_getI (jz := 6) hM dX5_fullest_41 fl_RX5_154 rfl rfl rfl (fun v9 h_v9 o_v9 t_v9 => ?_)
          have w_v9 := ((t_v9 (Or.inl (by simp [Tb]))).trans (rfl)).symm
          subst w_v9
          have q_v9 : 0 ≤ (σ 7 l 6) ∧ (σ 7 l 6) ≤ 121 := o_v9.1 rfl
          refine r_icmp_ge (tgt := 100) hC dX5_fullest_44 rfl (fun h10 => ?_) (fun h10 => ?_)
          · refine r_iload hC dX5_fullest_100 rfl ?_
            refine y_iret hK rfl dX5_fullest_102 ?_
            have hR : flR σ l w = w4 := by
              unfold flR
              rw [if_pos (by unfold pnC opV; omega), show (σ 7 l 6).toNat = (w8).toNat from by omega]
              exact i2_38.symm
            rw [hR] at k
            exact k
          · refine r_aload_n hC dX5_fullest_47 rfl ?_
            refine z_getR hM dX5_fullest_48 fl_RX5_198 rfl rfl (vld_of (n := 7) rfl (by omega) (by omega)) ?_
            refine r_iload hC dX5_fullest_51 rfl ?_
            refine z_iald hM dX5_fullest_53 rfl (by omega) (by omega) (fun v11 h_v11 o_v11 t_v11 => ?_)
            have w_v11 := ((t_v11 (Or.inl (by simp [Tb]))).trans (rfl)).symm
            subst w_v11
            have ht_ := (hrow l w8 (by omega) (by omega) (by omega) (by omega)).1
            refine r_iload_n hC dX5_fullest_54 rfl ?_
            refine r_idivN hC dX5_fullest_55 (by omega) (by omega) ?_
            have f_v12 := idiv_fr (a := (σ 8 l w8)) (b := w) (by omega) (by omega)
            refine r_istore hC dX5_fullest_56 rfl ?_
            refine r_iload hC dX5_fullest_58 rfl ?_
            refine r_iload hC dX5_fullest_60 rfl ?_
            refine r_icmp_ne (tgt := 72) hC dX5_fullest_62 rfl (fun h13 => ?_) (fun h13 => ?_)
            · refine r_iconst hC dX5_fullest_72 rfl ?_
              refine r_istore hC dX5_fullest_73 rfl ?_
              refine r_iload hC dX5_fullest_75 rfl ?_
              refine r_istore hC dX5_fullest_77 rfl ?_
              refine r_iload hC dX5_fullest_79 rfl ?_
              refine r_iload hC dX5_fullest_81 rfl ?_
              refine r_icmp_le (tgt := 94) hC dX5_fullest_83 rfl (fun h14 => ?_) (fun h14 => ?_)
              · refine r_iincE hC ((w8 + 1)) dX5_fullest_94 rfl rfl (by omega) (by unfold inR; omega) ?_
                refine r_goto (tgt := 38) hC dX5_fullest_97 rfl ?_
                refine r_forget hC (ls2 := [some (vR 2 0), some (vI l), some (vI w), some (vR 7 l), some (vI w4), some (vI w5), some (vI ((σ 8 l w8) / w)), some (vI 1), some (vI (w8 + 1)), none]) (lsub_some (lsub_some (lsub_some (lsub_some (lsub_some (lsub_some (lsub_some (lsub_some (lsub_some (lsub_none lsub_nil)))))))))) ?_
                exact ih38 (w4) (w5) (((σ 8 l w8) / w)) (1) ((w8 + 1))  (by omega) (by omega) (by omega) (by omega) (by omega) (by first | rfl | (rw [flN_I (by omega)]; dsimp only; simp only [← i0_38, ← i1_38, ← i2_38]; (repeat' split) <;> first | rfl | omega)) (by first | rfl | (rw [flN_I (by omega)]; dsimp only; simp only [← i0_38, ← i1_38, ← i2_38]; (repeat' split) <;> first | rfl | omega)) (by first | rfl | (rw [flN_I (by omega)]; dsimp only; simp only [← i0_38, ← i1_38, ← i2_38]; (repeat' split) <;> first | rfl | omega)) (by first | exact Or.inl ⟨rfl, rfl⟩ | exact Or.inr ⟨by omega, by rw [show (w8 + 1 - 1 : Int) = w8 from by omega]⟩) (by omega) (by omega) (by omega) (by omega)  
              · refine r_iload hC dX5_fullest_86 rfl ?_
                refine r_istore hC dX5_fullest_88 rfl ?_
                refine r_iload hC dX5_fullest_90 rfl ?_
                refine r_istore hC dX5_fullest_92 rfl ?_
                refine r_iincE hC ((w8 + 1)) dX5_fullest_94 rfl rfl (by omega) (by unfold inR; omega) ?_
                show K _ [_, _, _, _, _, _, _, _, _, _] _ _
                refine r_goto (tgt := 38) hC dX5_fullest_97 rfl ?_
                refine r_forget hC (ls2 := [some (vR 2 0), some (vI l), some (vI w), some (vR 7 l), some (vI ((σ 8 l w8) / w)), some (vI 1), some (vI ((σ 8 l w8) / w)), some (vI 1), some (vI (w8 + 1)), none]) (lsub_some (lsub_some (lsub_some (lsub_some (lsub_some (lsub_some (lsub_some (lsub_some (lsub_some (lsub_none lsub_nil)))))))))) ?_
                exact ih38 (((σ 8 l w8) / w)) (1) (((σ 8 l w8) / w)) (1) ((w8 + 1))  (by omega) (by omega) (by omega) (by omega) (by omega) (by first | rfl | (rw [flN_I (by omega)]; dsimp only; simp only [← i0_38, ← i1_38, ← i2_38]; (repeat' split) <;> first | rfl | omega)) (by first | rfl | (rw [flN_I (by omega)]; dsimp only; simp only [← i0_38, ← i1_38, ← i2_38]; (repeat' split) <;> first | rfl | omega)) (by first | rfl | (rw [flN_I (by omega)]; dsimp only; simp only [← i0_38, ← i1_38, ← i2_38]; (repeat' split) <;> first | rfl | omega)) (by first | exact Or.inl ⟨rfl, rfl⟩ | exact Or.inr ⟨by omega, by rw [show (w8 + 1 - 1 : Int) = w8 from by omega]⟩) (by omega) (by omega) (by omega) (by omega)  
            · refine r_iload hC dX5_fullest_65 rfl ?_
              refine r_iconst hC dX5_fullest_67 rfl ?_
              refine r_iaddE hC ((w7 + 1)) dX5_fullest_68 (by omega) (by unfold inR; omega) ?_
              refine r_goto (tgt := 73) hC dX5_fullest_69 rfl ?_
              refine r_istore hC dX5_fullest_73 rfl ?_
              refine r_iload hC dX5_fullest_75 rfl ?_
              refine r_istore hC dX5_fullest_77 rfl ?_
              refine r_iload hC dX5_fullest_79 rfl ?_
              refine r_iload hC dX5_fullest_81 rfl ?_
              refine r_icmp_le (tgt := 94) hC dX5_fullest_83 rfl (fun h15 => ?_) (fun h15 => ?_)
              · refine r_iincE hC ((w8 + 1)) dX5_fullest_94 rfl rfl (by omega) (by unfold inR; omega) ?_
                refine r_goto (tgt := 38) hC dX5_fullest_97 rfl ?_
                refine r_forget hC (ls2 := [some (vR 2 0), some (vI l), some (vI w), some (vR 7 l), some (vI w4), some (vI w5), some (vI ((σ 8 l w8) / w)), some (vI (w7 + 1)), some (vI (w8 + 1)), none]) (lsub_some (lsub_some (lsub_some (lsub_some (lsub_some (lsub_some (lsub_some (lsub_some (lsub_some (lsub_none lsub_nil)))))))))) ?_
                exact ih38 (w4) (w5) (((σ 8 l w8) / w)) ((w7 + 1)) ((w8 + 1))  (by omega) (by omega) (by omega) (by omega) (by omega) (by first | rfl | (rw [flN_I (by omega)]; dsimp only; simp only [← i0_38, ← i1_38, ← i2_38]; (repeat' split) <;> first | rfl | omega)) (by first | rfl | (rw [flN_I (by omega)]; dsimp only; simp only [← i0_38, ← i1_38, ← i2_38]; (repeat' split) <;> first | rfl | omega)) (by first | rfl | (rw [flN_I (by omega)]; dsimp only; simp only [← i0_38, ← i1_38, ← i2_38]; (repeat' split) <;> first | rfl | omega)) (by first | exact Or.inl ⟨rfl, rfl⟩ | exact Or.inr ⟨by omega, by rw [show (w8 + 1 - 1 : Int) = w8 from by omega]⟩) (by omega) (by omega) (by omega) (by omega)  
              · refine r_iload hC dX5_fullest_86 rfl ?_
                refine r_istore hC dX5_fullest_88 rfl ?_
                refine r_iload hC dX5_fullest_90 rfl ?_
                refine r_istore hC dX5_fullest_92 rfl ?_
                refine r_iincE hC ((w8 + 1)) dX5_fullest_94 rfl rfl (by omega) (by unfold inR; omega) ?_
                show K _ [_, _, _, _, _, _, _, _, _, _] _ _
                refine r_goto (tgt := 38) hC dX5_fullest_97 rfl ?_
                refine r_forget hC (ls2 := [some (vR 2 0), some (vI l), some (vI w), some (vR 7 l), some (vI ((σ 8 l w8) / w)), some (vI (w7 + 1)), some (vI ((σ 8 l w8) / w)), some (vI (w7 + 1)), some (vI (w8 + 1)), none]) (lsub_some (lsub_some (lsub_some (lsub_some (lsub_some (lsub_some (lsub_some (lsub_some (lsub_some (lsub_none lsub_nil)))))))))) ?_
                exact ih38 (((σ 8 l w8) / w)) ((w7 + 1)) (((σ 8 l w8) / w)) ((w7 + 1)) ((w8 + 1))  (by omega) (by omega) (by omega) (by omega) (by omega) (by first | rfl | (rw [flN_I (by omega)]; dsimp only; simp only [← i0_38, ← i1_38, ← i2_38]; (repeat' split) <;> first | rfl | omega)) (by first | rfl | (rw [flN_I (by omega)]; dsimp only; simp only [← i0_38, ← i1_38, ← i2_38]; (repeat' split) <;> first | rfl | omega)) (by first | rfl | (rw [flN_I (by omega)]; dsimp only; simp only [← i0_38, ← i1_38, ← i2_38]; (repeat' split) <;> first | rfl | omega)) (by first | exact Or.inl ⟨rfl, rfl⟩ | exact Or.inr ⟨by omega, by rw [show (w8 + 1 - 1 : Int) = w8 from by omega]⟩) (by omega) (by omega) (by omega) (by omega)  
      exact L38 123 ((-1)) (0) ((-1)) (0) (0)  (by omega) (by omega) (by omega) (by omega) (by omega) (by first | rfl | (rw [flN_I (by omega)]; dsimp only; simp only [← i0_38, ← i1_38, ← i2_38]; (repeat' split) <;> first | rfl | omega)) (by first | rfl | (rw [flN_I (by omega)]; dsimp only; simp only [← i0_38, ← i1_38, ← i2_38]; (repeat' split) <;> first | rfl | omega)) (by first | rfl | (rw [flN_I (by omega)]; dsimp only; simp only [← i0_38, ← i1_38, ← i2_38]; (repeat' split) <;> first | rfl | omega)) (by first | exact Or.inl ⟨rfl, rfl⟩ | exact Or.inr ⟨by omega, by rw [show (w8 + 1 - 1 : Int) = w8 from by omega]⟩) (by omega) (by omega) (by omega) (by omega)  
    · refine r_if_ne (tgt := 23) hC dX5_fullest_18 rfl (fun h16 => by omega) (fun h16 => ?_)
      refine r_iconst hC dX5_fullest_21 rfl ?_
      refine y_iret hK rfl dX5_fullest_22 ?_
      have hR : flR σ l w = (-1) := by
        exact if_neg (by unfold pnC opV; omega)
      rw [hR] at k
      exact k
  · refine r_astoreN_n hC dX5_fullest_5 rfl ?_
    refine r_aloadN_n hC dX5_fullest_6 rfl ?_
    refine r_ifnullN (tgt := 21) hC dX5_fullest_7 rfl ?_
    refine r_iconst hC dX5_fullest_21 rfl ?_
    refine y_iret hK rfl dX5_fullest_22 ?_
    have hR : flR σ l w = (-1) := by
      exact if_neg (by unfold pnC opV; omega)
    rw [hR] at k
    exact k
theorem x_sessions {eb : Bool} {d : Nat} {P : Option Vl → Mm → Prop} {σ : Mm} {l g : Int}  (hG : GI σ)  (k : P (some (vI (ssR σ l g))) σ) : WT (true, false, eb) (d + 4) 91 [vR 2 0, vI l, vI g] σ P := by
  refine WT_in fun K hK => ?_
  have hK : StpY (true, false, eb) cX5_sessions RX5 (some .int) (WT (true, false, eb) (d + 3)) P K := hK
  have hM := hK.1
  have hC := hK.1.1
  show K 0 [some (vR 2 0), some (vI l), some (vI g), none, none, none] [] σ
  refine r_rngz hC (fun g0 => ?_)
  have r_l : -2147483648 ≤ l ∧ l ≤ 2147483647 := inR_le (g0 (vI l) (by simp))
  have r_g : -2147483648 ≤ g ∧ g ≤ 2147483647 := inR_le (g0 (vI g) (by simp))
  have hcl := hG.2.1.2.2.2.2.2.2.2
  have hrow := hG.2.1.2.2.1
  refine r_aload_n hC dX5_sessions_0 rfl ?_
  refine r_iload_n hC dX5_sessions_1 rfl ?_
  refine z_inv1 hM dX5_sessions_2 vl_RX5_123 rfl rfl rfl (Nat.le_of_ble_eq_true rfl) (Nat.le_of_ble_eq_true rfl) ?_
  refine x_openLane (fun hl_2 => ?_) (fun hl_2 => ?_)
  · have h6_2 := hG.1.h7 (l := l) (by omega) (by omega)
    have hN_2 := numF_rng (σ 7 l 2)
    have hO_2 := (hG.2.1.2.2.2.1 l (by omega) (by omega)).2
    refine r_astore_n hC dX5_sessions_5 rfl ?_
    refine r_aload_n hC dX5_sessions_6 rfl ?_
    refine r_ifnullR hC dX5_sessions_7 ?_
    refine r_iload_n hC dX5_sessions_10 rfl ?_
    refine z_ins1 hM dX5_sessions_11 tl_RX5_285 rfl (Nat.le_of_ble_eq_true rfl) (Nat.le_of_ble_eq_true rfl) ?_
    refine s_isGap (fun h2 => ?_) (fun h2 => ?_)
    · refine r_if_ne (tgt := 19) hC dX5_sessions_14 rfl (fun h3 => ?_) (fun h3 => by omega)
      refine r_iconst hC dX5_sessions_19 rfl ?_
      refine r_istore hC dX5_sessions_20 rfl ?_
      refine r_iconst hC dX5_sessions_22 rfl ?_
      refine r_istore hC dX5_sessions_23 rfl ?_
      have L25 : ∀ (n25 : Nat) (w4 w5 : Int), 0 ≤ w4 ∧ w4 ≤ 121 → 0 ≤ w5 ∧ w5 ≤ 121 → ((w4) = ssN (σ 8 l) g ((w5)).toNat) → ((w4) ≤ (w5)) → ((w5) ≤ σ 7 l 6) → 121 - w5 < (n25 : Int) → K 25 [some (vR 2 0), some (vI l), some (vI g), some (vR 7 l), some (vI w4), some (vI w5)] [] σ := by
        intro n25
        induction n25 with
        | zero => intro w4 w5  f_w4 f_w5 i0_25 i1_25 i2_25 hm  ; omega
        | succ n25 ih25 =>
          intro w4 w5  f_w4 f_w5 i0_25 i1_25 i2_25 hm25  
          refine r_iload hC dX5_sessions_25 rfl ?_
          refine r_aload_n hC dX5_sessions_27 rfl ?_
          refine z_getI (jz := 6) hM dX5_sessions_28 fl_RX5_154 rfl rfl rfl (fun v6 h_v6 o_v6 t_v6 => ?_)
          have w_v6 := ((t_v6 (Or.inl (by simp [Tb]))).trans (rfl)).symm
          subst w_v6
          have q_v6 : 0 ≤ (σ 7 l 6) ∧ (σ 7 l 6) ≤ 121 := o_v6.1 rfl
          refine r_icmp_ge (tgt := 60) hC dX5_sessions_31 rfl (fun h7 => ?_) (fun h7 => ?_)
          · refine r_iload hC dX5_sessions_60 rfl ?_
            refine y_iret hK rfl dX5_sessions_62 ?_
            have hR : ssR σ l g = w4 := by
              unfold ssR
              rw [if_pos (by unfold gaC opV; omega), show (σ 7 l 6).toNat = (w5).toNat from by omega]
              exact i0_25.symm
            rw [hR] at k
            exact k
          · refine r_iload hC dX5_sessions_34 rfl ?_
            refine r_aload_n hC dX5_sessions_36 rfl ?_
            refine r_iload hC dX5_sessions_37 rfl ?_
            refine r_iload_n hC dX5_sessions_39 rfl ?_
            refine z_inv2 hM dX5_sessions_40 vl_RX5_221 rfl rfl rfl (Nat.le_of_ble_eq_true rfl) (Nat.le_of_ble_eq_true rfl) ?_
            refine x_startsSession (by omega) (by omega) (fun h8 => ?_) (fun h8 => ?_)
            · refine r_if_eq (tgt := 50) hC dX5_sessions_43 rfl (fun h9 => by omega) (fun h9 => ?_)
              refine r_iconst hC dX5_sessions_46 rfl ?_
              refine r_goto (tgt := 51) hC dX5_sessions_47 rfl ?_
              refine r_iaddE hC ((w4 + 1)) dX5_sessions_51 (by omega) (by unfold inR; omega) ?_
              refine r_istore hC dX5_sessions_52 rfl ?_
              refine r_iincE hC ((w5 + 1)) dX5_sessions_54 rfl rfl (by omega) (by unfold inR; omega) ?_
              refine r_goto (tgt := 25) hC dX5_sessions_57 rfl ?_
              exact ih25 ((w4 + 1)) ((w5 + 1))  (by omega) (by omega) (by first | rfl | (rw [ssN_I (by omega), ← i0_25]; first | (rw [if_pos (by omega)]; done) | (rw [if_neg (by omega)]; done) | (rw [if_pos (by omega)]; omega) | (rw [if_neg (by omega)]; omega))) (by omega) (by omega) (by omega)  
            · refine r_if_eq (tgt := 50) hC dX5_sessions_43 rfl (fun h10 => ?_) (fun h10 => by omega)
              refine r_iconst hC dX5_sessions_50 rfl ?_
              refine r_iaddE hC (w4) dX5_sessions_51 (by omega) (by unfold inR; omega) ?_
              refine r_istore hC dX5_sessions_52 rfl ?_
              refine r_iincE hC ((w5 + 1)) dX5_sessions_54 rfl rfl (by omega) (by unfold inR; omega) ?_
              refine r_goto (tgt := 25) hC dX5_sessions_57 rfl ?_
              exact ih25 (w4) ((w5 + 1))  (by omega) (by omega) (by first | rfl | (rw [ssN_I (by omega), ← i0_25]; first | (rw [if_pos (by omega)]; done) | (rw [if_neg (by omega)]; done) | (rw [if_pos (by omega)]; omega) | (rw [if_neg (by omega)]; omega))) (by omega) (by omega) (by omega)  
      exact L25 123 (0) (0)  (by omega) (by omega) (by first | rfl | (rw [ssN_I (by omega), ← i0_25]; first | (rw [if_pos (by omega)]; done) | (rw [if_neg (by omega)]; done) | (rw [if_pos (by omega)]; omega) | (rw [if_neg (by omega)]; omega))) (by omega) (by omega) (by omega)  
    · refine r_if_ne (tgt := 19) hC dX5_sessions_14 rfl (fun h11 => by omega) (fun h11 => ?_)
      refine r_iconst hC dX5_sessions_17 rfl ?_
      refine y_iret hK rfl dX5_sessions_18 ?_
      have hR : ssR σ l g = (-1) := by
        exact if_neg (by unfold gaC opV; omega)
      rw [hR] at k
      exact k
  · refine r_astoreN_n hC dX5_sessions_5 rfl ?_
    refine r_aloadN_n hC dX5_sessions_6 rfl ?_
    refine r_ifnullN (tgt := 17) hC dX5_sessions_7 rfl ?_
    refine r_iconst hC dX5_sessions_17 rfl ?_
    refine y_iret hK rfl dX5_sessions_18 ?_
    have hR : ssR σ l g = (-1) := by
      exact if_neg (by unfold gaC opV; omega)
    rw [hR] at k
    exact k
theorem x_longest {eb : Bool} {d : Nat} {P : Option Vl → Mm → Prop} {σ : Mm} {l g : Int}  (hG : GI σ)  (k : P (some (vI (loR σ l g))) σ) : WT (true, false, eb) (d + 4) 93 [vR 2 0, vI l, vI g] σ P := by
  refine WT_in fun K hK => ?_
  have hK : StpY (true, false, eb) cX5_longest RX5 (some .int) (WT (true, false, eb) (d + 3)) P K := hK
  have hM := hK.1
  have hC := hK.1.1
  show K 0 [some (vR 2 0), some (vI l), some (vI g), none, none, none, none, none, none, none] [] σ
  refine r_rngz hC (fun g0 => ?_)
  have r_l : -2147483648 ≤ l ∧ l ≤ 2147483647 := inR_le (g0 (vI l) (by simp))
  have r_g : -2147483648 ≤ g ∧ g ≤ 2147483647 := inR_le (g0 (vI g) (by simp))
  have hcl := hG.2.1.2.2.2.2.2.2.2
  have hrow := hG.2.1.2.2.1
  refine r_aload_n hC dX5_longest_0 rfl ?_
  refine r_iload_n hC dX5_longest_1 rfl ?_
  refine z_inv1 hM dX5_longest_2 vl_RX5_123 rfl rfl rfl (Nat.le_of_ble_eq_true rfl) (Nat.le_of_ble_eq_true rfl) ?_
  refine x_openLane (fun hl_2 => ?_) (fun hl_2 => ?_)
  · have h6_2 := hG.1.h7 (l := l) (by omega) (by omega)
    have hN_2 := numF_rng (σ 7 l 2)
    have hO_2 := (hG.2.1.2.2.2.1 l (by omega) (by omega)).2
    refine r_astore_n hC dX5_longest_5 rfl ?_
    refine r_aload_n hC dX5_longest_6 rfl ?_
    refine r_ifnullR hC dX5_longest_7 ?_
    refine r_iload_n hC dX5_longest_10 rfl ?_
    refine z_ins1 hM dX5_longest_11 tl_RX5_285 rfl (Nat.le_of_ble_eq_true rfl) (Nat.le_of_ble_eq_true rfl) ?_
    refine s_isGap (fun h2 => ?_) (fun h2 => ?_)
    · refine r_if_ne (tgt := 19) hC dX5_longest_14 rfl (fun h3 => ?_) (fun h3 => by omega)
      refine r_iconst hC dX5_longest_19 rfl ?_
      refine r_istore hC dX5_longest_20 rfl ?_
      refine r_iconst hC dX5_longest_22 rfl ?_
      refine r_istore hC dX5_longest_23 rfl ?_
      refine r_iconst hC dX5_longest_25 rfl ?_
      refine r_istore hC dX5_longest_26 rfl ?_
      show K _ [_, _, _, _, _, _, _, _, _, _] _ _
      refine r_iconst hC dX5_longest_28 rfl ?_
      refine r_istore hC dX5_longest_29 rfl ?_
      refine r_iconst hC dX5_longest_31 rfl ?_
      refine r_istore hC dX5_longest_32 rfl ?_
      have L34 : ∀ (n34 : Nat) (w4 w5 w6 w7 w8 : Int), -1 ≤ w4 ∧ w4 ≤ 121 → 0 ≤ w5 ∧ w5 ≤ 121 → -1 ≤ w6 ∧ w6 ≤ 120 → 0 ≤ w7 ∧ w7 ≤ 121 → 0 ≤ w8 ∧ w8 ≤ 121 → ((w6) = (loN (σ 8 l) g ((w8)).toNat).1 - 1) → ((w7) = (loN (σ 8 l) g ((w8)).toNat).2.1) → ((w5) = (loN (σ 8 l) g ((w8)).toNat).2.2.1) → ((w4) = (loN (σ 8 l) g ((w8)).toNat).2.2.2) → ((w6) + 1 ≤ (w8)) → ((w7) ≤ (w8)) → ((w5) ≤ (w8)) → ((w4) ≤ (w6)) → ((w8) ≤ σ 7 l 6) → 121 - w8 < (n34 : Int) → K 34 [some (vR 2 0), some (vI l), some (vI g), some (vR 7 l), some (vI w4), some (vI w5), some (vI w6), some (vI w7), some (vI w8), none] [] σ := by
        intro n34
        induction n34 with
        | zero => intro w4 w5 w6 w7 w8  f_w4 f_w5 f_w6 f_w7 f_w8 i0_34 i1_34 i2_34 i3_34 i4_34 i5_34 i6_34 i7_34 i8_34 hm  ; omega
        | succ n34 ih34 =>
          intro w4 w5 w6 w7 w8  f_w4 f_w5 f_w6 f_w7 f_w8 i0_34 i1_34 i2_34 i3_34 i4_34 i5_34 i6_34 i7_34 i8_34 hm34  
          refine r_iload hC dX5_longest_34 rfl ?_
          refine r_aload_n hC dX5_longest_36 rfl ?_
          refine z_getI (jz := 6) hM dX5_longest_37 fl_RX5_154 rfl rfl rfl (fun v9 h_v9 o_v9 t_v9 => ?_)
          have w_v9 := ((t_v9 (Or.inl (by simp [Tb]))).trans (rfl)).symm
          subst w_v9
          have q_v9 : 0 ≤ (σ 7 l 6) ∧ (σ 7 l 6) ≤ 121 := o_v9.1 rfl
          refine r_icmp_ge (tgt := 103) hC dX5_longest_40 rfl (fun h10 => ?_) (fun h10 => ?_)
          · refine r_iload hC dX5_longest_103 rfl ?_
            refine y_iret hK rfl dX5_longest_105 ?_
            have hR : loR σ l g = w4 := by
              unfold loR
              rw [if_pos (by unfold gaC opV; omega), show (σ 7 l 6).toNat = (w8).toNat from by omega]
              exact i3_34.symm
            rw [hR] at k
            exact k
          · refine r_aload_n hC dX5_longest_43 rfl ?_
            refine r_iload hC dX5_longest_44 rfl ?_
            refine r_iload_n hC dX5_longest_46 rfl ?_
            refine z_inv2 hM dX5_longest_47 vl_RX5_221 rfl rfl rfl (Nat.le_of_ble_eq_true rfl) (Nat.le_of_ble_eq_true rfl) ?_
            refine x_startsSession (by omega) (by omega) (fun h11 => ?_) (fun h11 => ?_)
            · refine r_istore hC dX5_longest_50 rfl ?_
              refine r_iload hC dX5_longest_52 rfl ?_
              refine r_iload hC dX5_longest_54 rfl ?_
              refine r_if_eq (tgt := 63) hC dX5_longest_56 rfl (fun h12 => by omega) (fun h12 => ?_)
              refine r_iconst hC dX5_longest_59 rfl ?_
              refine r_goto (tgt := 64) hC dX5_longest_60 rfl ?_
              refine r_iaddE hC ((w6 + 1)) dX5_longest_64 (by omega) (by unfold inR; omega) ?_
              refine r_istore hC dX5_longest_65 rfl ?_
              refine r_iload hC dX5_longest_67 rfl ?_
              refine r_if_eq (tgt := 76) hC dX5_longest_69 rfl (fun h13 => by omega) (fun h13 => ?_)
              refine r_iconst hC dX5_longest_72 rfl ?_
              refine r_goto (tgt := 80) hC dX5_longest_73 rfl ?_
              refine r_istore hC dX5_longest_80 rfl ?_
              show K _ [_, _, _, _, _, _, _, _, _, _] _ _
              refine r_iload hC dX5_longest_82 rfl ?_
              refine r_iload hC dX5_longest_84 rfl ?_
              refine r_icmp_le (tgt := 97) hC dX5_longest_86 rfl (fun h14 => ?_) (fun h14 => ?_)
              · refine r_iincE hC ((w8 + 1)) dX5_longest_97 rfl rfl (by omega) (by unfold inR; omega) ?_
                refine r_goto (tgt := 34) hC dX5_longest_100 rfl ?_
                refine r_forget hC (ls2 := [some (vR 2 0), some (vI l), some (vI g), some (vR 7 l), some (vI w4), some (vI w5), some (vI (w6 + 1)), some (vI 1), some (vI (w8 + 1)), none]) (lsub_some (lsub_some (lsub_some (lsub_some (lsub_some (lsub_some (lsub_some (lsub_some (lsub_some (lsub_none lsub_nil)))))))))) ?_
                exact ih34 (w4) (w5) ((w6 + 1)) (1) ((w8 + 1))  (by omega) (by omega) (by omega) (by omega) (by omega) (by first | rfl | (rw [loN_I (by omega)]; dsimp only; simp only [show (loN (σ 8 l) g (w8).toNat).1 = w6 + 1 from by omega, ← i1_34, ← i2_34, ← i3_34]; (repeat' split) <;> first | rfl | omega)) (by first | rfl | (rw [loN_I (by omega)]; dsimp only; simp only [show (loN (σ 8 l) g (w8).toNat).1 = w6 + 1 from by omega, ← i1_34, ← i2_34, ← i3_34]; (repeat' split) <;> first | rfl | omega)) (by first | rfl | (rw [loN_I (by omega)]; dsimp only; simp only [show (loN (σ 8 l) g (w8).toNat).1 = w6 + 1 from by omega, ← i1_34, ← i2_34, ← i3_34]; (repeat' split) <;> first | rfl | omega)) (by first | rfl | (rw [loN_I (by omega)]; dsimp only; simp only [show (loN (σ 8 l) g (w8).toNat).1 = w6 + 1 from by omega, ← i1_34, ← i2_34, ← i3_34]; (repeat' split) <;> first | rfl | omega)) (by omega) (by omega) (by omega) (by omega) (by omega) (by omega)  
              · refine r_iload hC dX5_longest_89 rfl ?_
                refine r_istore hC dX5_longest_91 rfl ?_
                refine r_iload hC dX5_longest_93 rfl ?_
                refine r_istore hC dX5_longest_95 rfl ?_
                refine r_iincE hC ((w8 + 1)) dX5_longest_97 rfl rfl (by omega) (by unfold inR; omega) ?_
                show K _ [_, _, _, _, _, _, _, _, _, _] _ _
                refine r_goto (tgt := 34) hC dX5_longest_100 rfl ?_
                refine r_forget hC (ls2 := [some (vR 2 0), some (vI l), some (vI g), some (vR 7 l), some (vI (w6 + 1)), some (vI 1), some (vI (w6 + 1)), some (vI 1), some (vI (w8 + 1)), none]) (lsub_some (lsub_some (lsub_some (lsub_some (lsub_some (lsub_some (lsub_some (lsub_some (lsub_some (lsub_none lsub_nil)))))))))) ?_
                exact ih34 ((w6 + 1)) (1) ((w6 + 1)) (1) ((w8 + 1))  (by omega) (by omega) (by omega) (by omega) (by omega) (by first | rfl | (rw [loN_I (by omega)]; dsimp only; simp only [show (loN (σ 8 l) g (w8).toNat).1 = w6 + 1 from by omega, ← i1_34, ← i2_34, ← i3_34]; (repeat' split) <;> first | rfl | omega)) (by first | rfl | (rw [loN_I (by omega)]; dsimp only; simp only [show (loN (σ 8 l) g (w8).toNat).1 = w6 + 1 from by omega, ← i1_34, ← i2_34, ← i3_34]; (repeat' split) <;> first | rfl | omega)) (by first | rfl | (rw [loN_I (by omega)]; dsimp only; simp only [show (loN (σ 8 l) g (w8).toNat).1 = w6 + 1 from by omega, ← i1_34, ← i2_34, ← i3_34]; (repeat' split) <;> first | rfl | omega)) (by first | rfl | (rw [loN_I (by omega)]; dsimp only; simp only [show (loN (σ 8 l) g (w8).toNat).1 = w6 + 1 from by omega, ← i1_34, ← i2_34, ← i3_34]; (repeat' split) <;> first | rfl | omega)) (by omega) (by omega) (by omega) (by omega) (by omega) (by omega)  
            · refine r_istore hC dX5_longest_50 rfl ?_
              refine r_iload hC dX5_longest_52 rfl ?_
              refine r_iload hC dX5_longest_54 rfl ?_
              refine r_if_eq (tgt := 63) hC dX5_longest_56 rfl (fun h15 => ?_) (fun h15 => by omega)
              refine r_iconst hC dX5_longest_63 rfl ?_
              refine r_iaddE hC (w6) dX5_longest_64 (by omega) (by unfold inR; omega) ?_
              refine r_istore hC dX5_longest_65 rfl ?_
              refine r_iload hC dX5_longest_67 rfl ?_
              refine r_if_eq (tgt := 76) hC dX5_longest_69 rfl (fun h16 => ?_) (fun h16 => by omega)
              refine r_iload hC dX5_longest_76 rfl ?_
              refine r_iconst hC dX5_longest_78 rfl ?_
              refine r_iaddE hC ((w7 + 1)) dX5_longest_79 (by omega) (by unfold inR; omega) ?_
              refine r_istore hC dX5_longest_80 rfl ?_
              show K _ [_, _, _, _, _, _, _, _, _, _] _ _
              refine r_iload hC dX5_longest_82 rfl ?_
              refine r_iload hC dX5_longest_84 rfl ?_
              refine r_icmp_le (tgt := 97) hC dX5_longest_86 rfl (fun h17 => ?_) (fun h17 => ?_)
              · refine r_iincE hC ((w8 + 1)) dX5_longest_97 rfl rfl (by omega) (by unfold inR; omega) ?_
                refine r_goto (tgt := 34) hC dX5_longest_100 rfl ?_
                refine r_forget hC (ls2 := [some (vR 2 0), some (vI l), some (vI g), some (vR 7 l), some (vI w4), some (vI w5), some (vI w6), some (vI (w7 + 1)), some (vI (w8 + 1)), none]) (lsub_some (lsub_some (lsub_some (lsub_some (lsub_some (lsub_some (lsub_some (lsub_some (lsub_some (lsub_none lsub_nil)))))))))) ?_
                exact ih34 (w4) (w5) (w6) ((w7 + 1)) ((w8 + 1))  (by omega) (by omega) (by omega) (by omega) (by omega) (by first | rfl | (rw [loN_I (by omega)]; dsimp only; simp only [show (loN (σ 8 l) g (w8).toNat).1 = w6 + 1 from by omega, ← i1_34, ← i2_34, ← i3_34]; (repeat' split) <;> first | rfl | omega)) (by first | rfl | (rw [loN_I (by omega)]; dsimp only; simp only [show (loN (σ 8 l) g (w8).toNat).1 = w6 + 1 from by omega, ← i1_34, ← i2_34, ← i3_34]; (repeat' split) <;> first | rfl | omega)) (by first | rfl | (rw [loN_I (by omega)]; dsimp only; simp only [show (loN (σ 8 l) g (w8).toNat).1 = w6 + 1 from by omega, ← i1_34, ← i2_34, ← i3_34]; (repeat' split) <;> first | rfl | omega)) (by first | rfl | (rw [loN_I (by omega)]; dsimp only; simp only [show (loN (σ 8 l) g (w8).toNat).1 = w6 + 1 from by omega, ← i1_34, ← i2_34, ← i3_34]; (repeat' split) <;> first | rfl | omega)) (by omega) (by omega) (by omega) (by omega) (by omega) (by omega)  
              · refine r_iload hC dX5_longest_89 rfl ?_
                refine r_istore hC dX5_longest_91 rfl ?_
                refine r_iload hC dX5_longest_93 rfl ?_
                refine r_istore hC dX5_longest_95 rfl ?_
                refine r_iincE hC ((w8 + 1)) dX5_longest_97 rfl rfl (by omega) (by unfold inR; omega) ?_
                show K _ [_, _, _, _, _, _, _, _, _, _] _ _
                refine r_goto (tgt := 34) hC dX5_longest_100 rfl ?_
                refine r_forget hC (ls2 := [some (vR 2 0), some (vI l), some (vI g), some (vR 7 l), some (vI w6), some (vI (w7 + 1)), some (vI w6), some (vI (w7 + 1)), some (vI (w8 + 1)), none]) (lsub_some (lsub_some (lsub_some (lsub_some (lsub_some (lsub_some (lsub_some (lsub_some (lsub_some (lsub_none lsub_nil)))))))))) ?_
                exact ih34 (w6) ((w7 + 1)) (w6) ((w7 + 1)) ((w8 + 1))  (by omega) (by omega) (by omega) (by omega) (by omega) (by first | rfl | (rw [loN_I (by omega)]; dsimp only; simp only [show (loN (σ 8 l) g (w8).toNat).1 = w6 + 1 from by omega, ← i1_34, ← i2_34, ← i3_34]; (repeat' split) <;> first | rfl | omega)) (by first | rfl | (rw [loN_I (by omega)]; dsimp only; simp only [show (loN (σ 8 l) g (w8).toNat).1 = w6 + 1 from by omega, ← i1_34, ← i2_34, ← i3_34]; (repeat' split) <;> first | rfl | omega)) (by first | rfl | (rw [loN_I (by omega)]; dsimp only; simp only [show (loN (σ 8 l) g (w8).toNat).1 = w6 + 1 from by omega, ← i1_34, ← i2_34, ← i3_34]; (repeat' split) <;> first | rfl | omega)) (by first | rfl | (rw [loN_I (by omega)]; dsimp only; simp only [show (loN (σ 8 l) g (w8).toNat).1 = w6 + 1 from by omega, ← i1_34, ← i2_34, ← i3_34]; (repeat' split) <;> first | rfl | omega)) (by omega) (by omega) (by omega) (by omega) (by omega) (by omega)  
      exact L34 123 ((-1)) (0) ((-1)) (0) (0)  (by omega) (by omega) (by omega) (by omega) (by omega) (by first | rfl | (rw [loN_I (by omega)]; dsimp only; simp only [show (loN (σ 8 l) g (w8).toNat).1 = w6 + 1 from by omega, ← i1_34, ← i2_34, ← i3_34]; (repeat' split) <;> first | rfl | omega)) (by first | rfl | (rw [loN_I (by omega)]; dsimp only; simp only [show (loN (σ 8 l) g (w8).toNat).1 = w6 + 1 from by omega, ← i1_34, ← i2_34, ← i3_34]; (repeat' split) <;> first | rfl | omega)) (by first | rfl | (rw [loN_I (by omega)]; dsimp only; simp only [show (loN (σ 8 l) g (w8).toNat).1 = w6 + 1 from by omega, ← i1_34, ← i2_34, ← i3_34]; (repeat' split) <;> first | rfl | omega)) (by first | rfl | (rw [loN_I (by omega)]; dsimp only; simp only [show (loN (σ 8 l) g (w8).toNat).1 = w6 + 1 from by omega, ← i1_34, ← i2_34, ← i3_34]; (repeat' split) <;> first | rfl | omega)) (by omega) (by omega) (by omega) (by omega) (by omega) (by omega)  
    · refine r_if_ne (tgt := 19) hC dX5_longest_14 rfl (fun h18 => by omega) (fun h18 => ?_)
      refine r_iconst hC dX5_longest_17 rfl ?_
      refine y_iret hK rfl dX5_longest_18 ?_
      have hR : loR σ l g = (-1) := by
        exact if_neg (by unfold gaC opV; omega)
      rw [hR] at k
      exact k
  · refine r_astoreN_n hC dX5_longest_5 rfl ?_
    refine r_aloadN_n hC dX5_longest_6 rfl ?_
    refine r_ifnullN (tgt := 17) hC dX5_longest_7 rfl ?_
    refine r_iconst hC dX5_longest_17 rfl ?_
    refine y_iret hK rfl dX5_longest_18 ?_
    have hR : loR σ l g = (-1) := by
      exact if_neg (by unfold gaC opV; omega)
    rw [hR] at k
    exact k
theorem x_heldInAll {eb : Bool} {d : Nat} {P : Option Vl → Mm → Prop} {σ : Mm}  (hG : GI σ)  (k : P (some (vI (htN σ 4))) σ) : WT (true, false, eb) (d + 1) 118 [vR 2 0] σ P := by
  refine WT_in fun K hK => ?_
  have hK : StpY (true, false, eb) cX5_heldInAll RX5 (some .int) (WT (true, false, eb) (d + 0)) P K := hK
  have hM := hK.1
  have hC := hK.1.1
  show K 0 [some (vR 2 0), none, none] [] σ
  refine r_iconst hC dX5_heldInAll_0 rfl ?_
  refine r_istore_n hC dX5_heldInAll_1 rfl ?_
  refine r_iconst hC dX5_heldInAll_2 rfl ?_
  refine r_istore_n hC dX5_heldInAll_3 rfl ?_
  have L4 : ∀ (n4 : Nat) (w1 w2 : Int), 0 ≤ w1 ∧ w1 ≤ 4 → 0 ≤ w2 ∧ w2 ≤ 484 → ((w2) = htN σ ((w1)).toNat) → ((w2) ≤ 121 * (w1)) → 4 - w1 < (n4 : Int) → K 4 [some (vR 2 0), some (vI w2), some (vI w1)] [] σ := by
    intro n4
    induction n4 with
    | zero => intro w1 w2  f_w1 f_w2 i0_4 i1_4 hm  ; omega
    | succ n4 ih4 =>
      intro w1 w2  f_w1 f_w2 i0_4 i1_4 hm4  
      refine r_iload_n hC dX5_heldInAll_4 rfl ?_
      refine r_iconst hC dX5_heldInAll_5 rfl ?_
      refine r_icmp_ge (tgt := 43) hC dX5_heldInAll_6 rfl (fun h3 => ?_) (fun h3 => ?_)
      · refine r_iload_n hC dX5_heldInAll_43 rfl ?_
        refine y_iret hK rfl dX5_heldInAll_44 ?_
        have e_ : (w1).toNat = 4 := by omega
        rw [← e_, ← i0_4] at k
        exact k
      · refine r_iload_n hC dX5_heldInAll_9 rfl ?_
        refine r_aload_n hC dX5_heldInAll_10 rfl ?_
        refine z_getR hM dX5_heldInAll_11 fl_RX5_13 rfl rfl (vld_of (n := 1) rfl (by omega) (by omega)) ?_
        refine r_iload_n hC dX5_heldInAll_14 rfl ?_
        refine z_aald hM dX5_heldInAll_15 rfl (by decide) (by omega) (by omega) (vld_of (n := 7) rfl (by omega) (by omega)) ?_
        refine z_getI (jz := 1) hM dX5_heldInAll_16 fl_RX5_94 rfl rfl rfl (fun v4 h_v4 o_v4 t_v4 => ?_)
        have w_v4 := ((t_v4 (Or.inl (by simp [Tb]))).trans (rfl)).symm
        subst w_v4
        have q_v4 : 0 ≤ (σ 7 w1 1) ∧ (σ 7 w1 1) ≤ 1 := by have := o_v4.2.1 rfl; omega
        refine r_if_eq (tgt := 34) hC dX5_heldInAll_19 rfl (fun h5 => ?_) (fun h5 => ?_)
        · refine r_iconst hC dX5_heldInAll_34 rfl ?_
          refine r_iaddE hC (w2) dX5_heldInAll_35 (by omega) (by unfold inR; omega) ?_
          refine r_istore_n hC dX5_heldInAll_36 rfl ?_
          refine r_iincE hC ((w1 + 1)) dX5_heldInAll_37 rfl rfl (by omega) (by unfold inR; omega) ?_
          refine r_goto (tgt := 4) hC dX5_heldInAll_40 rfl ?_
          exact ih4 ((w1 + 1)) (w2)  (by omega) (by omega) (by first | rfl | (rw [htN_I (by omega), ← i0_4]; first | (rw [if_pos (by omega)]; done) | (rw [if_neg (by omega)]; done) | (rw [if_pos (by omega)]; omega) | (rw [if_neg (by omega)]; omega))) (by omega) (by omega)  
        · refine r_aload_n hC dX5_heldInAll_22 rfl ?_
          refine z_getR hM dX5_heldInAll_23 fl_RX5_13 rfl rfl (vld_of (n := 1) rfl (by omega) (by omega)) ?_
          refine r_iload_n hC dX5_heldInAll_26 rfl ?_
          refine z_aald hM dX5_heldInAll_27 rfl (by decide) (by omega) (by omega) (vld_of (n := 7) rfl (by omega) (by omega)) ?_
          refine z_getI (jz := 6) hM dX5_heldInAll_28 fl_RX5_154 rfl rfl rfl (fun v6 h_v6 o_v6 t_v6 => ?_)
          have w_v6 := ((t_v6 (Or.inl (by simp [Tb]))).trans (rfl)).symm
          subst w_v6
          have q_v6 : 0 ≤ (σ 7 w1 6) ∧ (σ 7 w1 6) ≤ 121 := o_v6.1 rfl
          refine r_goto (tgt := 35) hC dX5_heldInAll_31 rfl ?_
          refine r_iaddE hC ((w2 + (σ 7 w1 6))) dX5_heldInAll_35 (by omega) (by unfold inR; omega) ?_
          refine r_istore_n hC dX5_heldInAll_36 rfl ?_
          refine r_iincE hC ((w1 + 1)) dX5_heldInAll_37 rfl rfl (by omega) (by unfold inR; omega) ?_
          refine r_goto (tgt := 4) hC dX5_heldInAll_40 rfl ?_
          exact ih4 ((w1 + 1)) ((w2 + (σ 7 w1 6)))  (by omega) (by omega) (by first | rfl | (rw [htN_I (by omega), ← i0_4]; first | (rw [if_pos (by omega)]; done) | (rw [if_neg (by omega)]; done) | (rw [if_pos (by omega)]; omega) | (rw [if_neg (by omega)]; omega))) (by omega) (by omega)  
  exact L4 6 (0) (0)  (by omega) (by omega) (by first | rfl | (rw [htN_I (by omega), ← i0_4]; first | (rw [if_pos (by omega)]; done) | (rw [if_neg (by omega)]; done) | (rw [if_pos (by omega)]; omega) | (rw [if_neg (by omega)]; omega))) (by omega) (by omega)  
theorem x_spentInAll {eb : Bool} {d : Nat} {P : Option Vl → Mm → Prop} {σ : Mm}  (hG : GI σ)  (k : P (some (vI (spN σ 4))) σ) : WT (true, false, eb) (d + 1) 119 [vR 2 0] σ P := by
  refine WT_in fun K hK => ?_
  have hK : StpY (true, false, eb) cX5_spentInAll RX5 (some .int) (WT (true, false, eb) (d + 0)) P K := hK
  have hM := hK.1
  have hC := hK.1.1
  show K 0 [some (vR 2 0), none, none] [] σ
  refine r_iconst hC dX5_spentInAll_0 rfl ?_
  refine r_istore_n hC dX5_spentInAll_1 rfl ?_
  refine r_iconst hC dX5_spentInAll_2 rfl ?_
  refine r_istore_n hC dX5_spentInAll_3 rfl ?_
  have L4 : ∀ (n4 : Nat) (w1 w2 : Int), 0 ≤ w1 ∧ w1 ≤ 4 → -2147483648 ≤ w2 ∧ w2 ≤ 2147483647 → ((w2) = spN σ ((w1)).toNat) → 4 - w1 < (n4 : Int) → K 4 [some (vR 2 0), some (vI w2), some (vI w1)] [] σ := by
    intro n4
    induction n4 with
    | zero => intro w1 w2  f_w1 f_w2 i0_4 hm  ; omega
    | succ n4 ih4 =>
      intro w1 w2  f_w1 f_w2 i0_4 hm4  
      refine r_iload_n hC dX5_spentInAll_4 rfl ?_
      refine r_iconst hC dX5_spentInAll_5 rfl ?_
      refine r_icmp_ge (tgt := 46) hC dX5_spentInAll_6 rfl (fun h3 => ?_) (fun h3 => ?_)
      · refine r_iload_n hC dX5_spentInAll_46 rfl ?_
        refine y_iret hK rfl dX5_spentInAll_47 ?_
        have e_ : (w1).toNat = 4 := by omega
        rw [← e_, ← i0_4] at k
        exact k
      · refine r_iload_n hC dX5_spentInAll_9 rfl ?_
        refine r_aload_n hC dX5_spentInAll_10 rfl ?_
        refine z_getR hM dX5_spentInAll_11 fl_RX5_13 rfl rfl (vld_of (n := 1) rfl (by omega) (by omega)) ?_
        refine r_iload_n hC dX5_spentInAll_14 rfl ?_
        refine z_aald hM dX5_spentInAll_15 rfl (by decide) (by omega) (by omega) (vld_of (n := 7) rfl (by omega) (by omega)) ?_
        refine z_getI (jz := 1) hM dX5_spentInAll_16 fl_RX5_94 rfl rfl rfl (fun v4 h_v4 o_v4 t_v4 => ?_)
        have w_v4 := ((t_v4 (Or.inl (by simp [Tb]))).trans (rfl)).symm
        subst w_v4
        have q_v4 : 0 ≤ (σ 7 w1 1) ∧ (σ 7 w1 1) ≤ 1 := by have := o_v4.2.1 rfl; omega
        refine r_if_eq (tgt := 37) hC dX5_spentInAll_19 rfl (fun h5 => ?_) (fun h5 => ?_)
        · refine r_iconst hC dX5_spentInAll_37 rfl ?_
          refine r_iaddE hC (w2) dX5_spentInAll_38 (by omega) (by unfold inR; omega) ?_
          refine r_istore_n hC dX5_spentInAll_39 rfl ?_
          refine r_iincE hC ((w1 + 1)) dX5_spentInAll_40 rfl rfl (by omega) (by unfold inR; omega) ?_
          refine r_goto (tgt := 4) hC dX5_spentInAll_43 rfl ?_
          exact ih4 ((w1 + 1)) (w2)  (by omega) (by omega) (by first | rfl | (rw [spN_I (by omega), ← i0_4]; first | (rw [if_pos (by omega)]; done) | (rw [if_neg (by omega)]; done) | (rw [if_pos (by omega)]; omega) | (rw [if_neg (by omega)]; omega))) (by omega)  
        · refine r_aload_n hC dX5_spentInAll_22 rfl ?_
          refine z_getR hM dX5_spentInAll_23 fl_RX5_13 rfl rfl (vld_of (n := 1) rfl (by omega) (by omega)) ?_
          refine r_iload_n hC dX5_spentInAll_26 rfl ?_
          refine z_aald hM dX5_spentInAll_27 rfl (by decide) (by omega) (by omega) (vld_of (n := 7) rfl (by omega) (by omega)) ?_
          refine z_getR hM dX5_spentInAll_28 fl_RX5_189 rfl rfl (vld_of (n := 8) rfl (by omega) (by omega)) ?_
          refine z_getI (jz := 5) hM dX5_spentInAll_31 fl_RX5_304 rfl rfl rfl (fun v6 h_v6 o_v6 t_v6 => ?_)
          have w_v6 := ((t_v6 (Or.inl (by simp [Tb]))).trans (rfl)).symm
          subst w_v6
          refine r_goto (tgt := 38) hC dX5_spentInAll_34 rfl ?_
          refine r_iadd hC dX5_spentInAll_38 ?_
          have f7 := inR_le (inR_wr (w2 + (σ 11 w1 5)))
          refine r_istore_n hC dX5_spentInAll_39 rfl ?_
          refine r_iincE hC ((w1 + 1)) dX5_spentInAll_40 rfl rfl (by omega) (by unfold inR; omega) ?_
          refine r_goto (tgt := 4) hC dX5_spentInAll_43 rfl ?_
          exact ih4 ((w1 + 1)) ((wr (w2 + (σ 11 w1 5))))  (by omega) (by omega) (by first | rfl | (rw [spN_I (by omega), ← i0_4]; first | (rw [if_pos (by omega)]; done) | (rw [if_neg (by omega)]; done) | (rw [if_pos (by omega)]; omega) | (rw [if_neg (by omega)]; omega))) (by omega)  
  exact L4 6 (0) (0)  (by omega) (by omega) (by first | rfl | (rw [spN_I (by omega), ← i0_4]; first | (rw [if_pos (by omega)]; done) | (rw [if_neg (by omega)]; done) | (rw [if_pos (by omega)]; omega) | (rw [if_neg (by omega)]; omega))) (by omega)  
theorem x_toldWatches {eb : Bool} {d : Nat} {P : Option Vl → Mm → Prop} {σ : Mm}  (hG : GI σ)  (k : P (some (vI (wcN σ 8))) σ) : WT (true, false, eb) (d + 3) 120 [vR 2 0] σ P := by
  refine WT_in fun K hK => ?_
  have hK : StpY (true, false, eb) cX5_toldWatches RX5 (some .int) (WT (true, false, eb) (d + 2)) P K := hK
  have hM := hK.1
  have hC := hK.1.1
  show K 0 [some (vR 2 0), none, none] [] σ
  refine r_iconst hC dX5_toldWatches_0 rfl ?_
  refine r_istore_n hC dX5_toldWatches_1 rfl ?_
  refine r_iconst hC dX5_toldWatches_2 rfl ?_
  refine r_istore_n hC dX5_toldWatches_3 rfl ?_
  have L4 : ∀ (n4 : Nat) (w1 w2 : Int), 0 ≤ w1 ∧ w1 ≤ 8 → 0 ≤ w2 ∧ w2 ≤ 8 → ((w1) = wcN σ ((w2)).toNat) → ((w1) ≤ (w2)) → 8 - w2 < (n4 : Int) → K 4 [some (vR 2 0), some (vI w1), some (vI w2)] [] σ := by
    intro n4
    induction n4 with
    | zero => intro w1 w2  f_w1 f_w2 i0_4 i1_4 hm  ; omega
    | succ n4 ih4 =>
      intro w1 w2  f_w1 f_w2 i0_4 i1_4 hm4  
      refine r_iload_n hC dX5_toldWatches_4 rfl ?_
      refine r_bipush hC dX5_toldWatches_5 rfl ?_
      refine r_icmp_ge (tgt := 32) hC dX5_toldWatches_7 rfl (fun h3 => ?_) (fun h3 => ?_)
      · refine r_iload_n hC dX5_toldWatches_32 rfl ?_
        refine y_iret hK rfl dX5_toldWatches_33 ?_
        have e_ : (w2).toNat = 8 := by omega
        rw [← e_, ← i0_4] at k
        exact k
      · refine r_iload_n hC dX5_toldWatches_10 rfl ?_
        refine r_aload_n hC dX5_toldWatches_11 rfl ?_
        refine r_iload_n hC dX5_toldWatches_12 rfl ?_
        refine z_inv1 hM dX5_toldWatches_13 vl_RX5_312 rfl rfl rfl (Nat.le_of_ble_eq_true rfl) (Nat.le_of_ble_eq_true rfl) ?_
        refine x_isTold (fun h4 => ?_) (fun h4 => ?_)
        · refine r_if_eq (tgt := 23) hC dX5_toldWatches_16 rfl (fun h5 => by omega) (fun h5 => ?_)
          refine r_iconst hC dX5_toldWatches_19 rfl ?_
          refine r_goto (tgt := 24) hC dX5_toldWatches_20 rfl ?_
          refine r_iaddE hC ((w1 + 1)) dX5_toldWatches_24 (by omega) (by unfold inR; omega) ?_
          refine r_istore_n hC dX5_toldWatches_25 rfl ?_
          refine r_iincE hC ((w2 + 1)) dX5_toldWatches_26 rfl rfl (by omega) (by unfold inR; omega) ?_
          refine r_goto (tgt := 4) hC dX5_toldWatches_29 rfl ?_
          exact ih4 ((w1 + 1)) ((w2 + 1))  (by omega) (by omega) (by first | rfl | (rw [wcN_I (by omega), ← i0_4]; first | (rw [if_pos (by omega)]; done) | (rw [if_neg (by omega)]; done) | (rw [if_pos (by omega)]; omega) | (rw [if_neg (by omega)]; omega))) (by omega) (by omega)  
        · refine r_if_eq (tgt := 23) hC dX5_toldWatches_16 rfl (fun h6 => ?_) (fun h6 => by omega)
          refine r_iconst hC dX5_toldWatches_23 rfl ?_
          refine r_iaddE hC (w1) dX5_toldWatches_24 (by omega) (by unfold inR; omega) ?_
          refine r_istore_n hC dX5_toldWatches_25 rfl ?_
          refine r_iincE hC ((w2 + 1)) dX5_toldWatches_26 rfl rfl (by omega) (by unfold inR; omega) ?_
          refine r_goto (tgt := 4) hC dX5_toldWatches_29 rfl ?_
          exact ih4 (w1) ((w2 + 1))  (by omega) (by omega) (by first | rfl | (rw [wcN_I (by omega), ← i0_4]; first | (rw [if_pos (by omega)]; done) | (rw [if_neg (by omega)]; done) | (rw [if_pos (by omega)]; omega) | (rw [if_neg (by omega)]; omega))) (by omega) (by omega)  
  exact L4 10 (0) (0)  (by omega) (by omega) (by first | rfl | (rw [wcN_I (by omega), ← i0_4]; first | (rw [if_pos (by omega)]; done) | (rw [if_neg (by omega)]; done) | (rw [if_pos (by omega)]; omega) | (rw [if_neg (by omega)]; omega))) (by omega) (by omega)  
theorem x_fullBoxes {eb : Bool} {d : Nat} {P : Option Vl → Mm → Prop} {σ : Mm}  (hG : GI σ)  (k : P (some (vI (bxN σ 3))) σ) : WT (true, false, eb) (d + 1) 121 [vR 2 0] σ P := by
  refine WT_in fun K hK => ?_
  have hK : StpY (true, false, eb) cX5_fullBoxes RX5 (some .int) (WT (true, false, eb) (d + 0)) P K := hK
  have hM := hK.1
  have hC := hK.1.1
  show K 0 [some (vR 2 0), none, none] [] σ
  refine r_iconst hC dX5_fullBoxes_0 rfl ?_
  refine r_istore_n hC dX5_fullBoxes_1 rfl ?_
  refine r_iconst hC dX5_fullBoxes_2 rfl ?_
  refine r_istore_n hC dX5_fullBoxes_3 rfl ?_
  have L4 : ∀ (n4 : Nat) (w1 w2 : Int), 0 ≤ w1 ∧ w1 ≤ 3 → 0 ≤ w2 ∧ w2 ≤ 3 → ((w2) = bxN σ ((w1)).toNat) → ((w2) ≤ (w1)) → 3 - w1 < (n4 : Int) → K 4 [some (vR 2 0), some (vI w2), some (vI w1)] [] σ := by
    intro n4
    induction n4 with
    | zero => intro w1 w2  f_w1 f_w2 i0_4 i1_4 hm  ; omega
    | succ n4 ih4 =>
      intro w1 w2  f_w1 f_w2 i0_4 i1_4 hm4  
      refine r_iload_n hC dX5_fullBoxes_4 rfl ?_
      refine r_iconst hC dX5_fullBoxes_5 rfl ?_
      refine r_icmp_ge (tgt := 35) hC dX5_fullBoxes_6 rfl (fun h3 => ?_) (fun h3 => ?_)
      · refine r_iload_n hC dX5_fullBoxes_35 rfl ?_
        refine y_iret hK rfl dX5_fullBoxes_36 ?_
        have e_ : (w1).toNat = 3 := by omega
        rw [← e_, ← i0_4] at k
        exact k
      · refine r_iload_n hC dX5_fullBoxes_9 rfl ?_
        refine r_aload_n hC dX5_fullBoxes_10 rfl ?_
        refine z_getR hM dX5_fullBoxes_11 fl_RX5_27 rfl rfl (vld_of (n := 1) rfl (by omega) (by omega)) ?_
        refine r_iload_n hC dX5_fullBoxes_14 rfl ?_
        refine z_aald hM dX5_fullBoxes_15 rfl (by decide) (by omega) (by omega) (vld_of (n := 7) rfl (by omega) (by omega)) ?_
        rw [show rfa 4 w1 = (7, (w1 + 4)) from by simp [rfa]; try omega]
        refine z_getI (jz := 1) hM dX5_fullBoxes_16 fl_RX5_94 rfl rfl rfl (fun v4 h_v4 o_v4 t_v4 => ?_)
        have w_v4 := ((t_v4 (Or.inl (by simp [Tb]))).trans (rfl)).symm
        subst w_v4
        have q_v4 : 0 ≤ (σ 7 (w1 + 4) 1) ∧ (σ 7 (w1 + 4) 1) ≤ 1 := by have := o_v4.2.1 rfl; omega
        refine r_if_eq (tgt := 26) hC dX5_fullBoxes_19 rfl (fun h5 => ?_) (fun h5 => ?_)
        · refine r_iconst hC dX5_fullBoxes_26 rfl ?_
          refine r_iaddE hC (w2) dX5_fullBoxes_27 (by omega) (by unfold inR; omega) ?_
          refine r_istore_n hC dX5_fullBoxes_28 rfl ?_
          refine r_iincE hC ((w1 + 1)) dX5_fullBoxes_29 rfl rfl (by omega) (by unfold inR; omega) ?_
          refine r_goto (tgt := 4) hC dX5_fullBoxes_32 rfl ?_
          exact ih4 ((w1 + 1)) (w2)  (by omega) (by omega) (by first | rfl | (rw [bxN_I (by omega), ← i0_4]; first | (rw [if_pos (by omega)]; done) | (rw [if_neg (by omega)]; done) | (rw [if_pos (by omega)]; omega) | (rw [if_neg (by omega)]; omega))) (by omega) (by omega)  
        · refine r_iconst hC dX5_fullBoxes_22 rfl ?_
          refine r_goto (tgt := 27) hC dX5_fullBoxes_23 rfl ?_
          refine r_iaddE hC ((w2 + 1)) dX5_fullBoxes_27 (by omega) (by unfold inR; omega) ?_
          refine r_istore_n hC dX5_fullBoxes_28 rfl ?_
          refine r_iincE hC ((w1 + 1)) dX5_fullBoxes_29 rfl rfl (by omega) (by unfold inR; omega) ?_
          refine r_goto (tgt := 4) hC dX5_fullBoxes_32 rfl ?_
          exact ih4 ((w1 + 1)) ((w2 + 1))  (by omega) (by omega) (by first | rfl | (rw [bxN_I (by omega), ← i0_4]; first | (rw [if_pos (by omega)]; done) | (rw [if_neg (by omega)]; done) | (rw [if_pos (by omega)]; omega) | (rw [if_neg (by omega)]; omega))) (by omega) (by omega)  
  exact L4 5 (0) (0)  (by omega) (by omega) (by first | rfl | (rw [bxN_I (by omega), ← i0_4]; first | (rw [if_pos (by omega)]; done) | (rw [if_neg (by omega)]; done) | (rw [if_pos (by omega)]; omega) | (rw [if_neg (by omega)]; omega))) (by omega) (by omega)  
theorem x_ringsInAll {eb : Bool} {d : Nat} {P : Option Vl → Mm → Prop} {σ : Mm}  (hG : GI σ)  (k : P (some (vI (rgN σ 8))) σ) : WT (true, false, eb) (d + 3) 122 [vR 2 0] σ P := by
  refine WT_in fun K hK => ?_
  have hK : StpY (true, false, eb) cX5_ringsInAll RX5 (some .int) (WT (true, false, eb) (d + 2)) P K := hK
  have hM := hK.1
  have hC := hK.1.1
  show K 0 [some (vR 2 0), none, none] [] σ
  refine r_iconst hC dX5_ringsInAll_0 rfl ?_
  refine r_istore_n hC dX5_ringsInAll_1 rfl ?_
  refine r_iconst hC dX5_ringsInAll_2 rfl ?_
  refine r_istore_n hC dX5_ringsInAll_3 rfl ?_
  have L4 : ∀ (n4 : Nat) (w1 w2 : Int), -2147483648 ≤ w1 ∧ w1 ≤ 2147483647 → 0 ≤ w2 ∧ w2 ≤ 8 → ((w1) = rgN σ ((w2)).toNat) → 8 - w2 < (n4 : Int) → K 4 [some (vR 2 0), some (vI w1), some (vI w2)] [] σ := by
    intro n4
    induction n4 with
    | zero => intro w1 w2  f_w1 f_w2 i0_4 hm  ; omega
    | succ n4 ih4 =>
      intro w1 w2  f_w1 f_w2 i0_4 hm4  
      refine r_iload_n hC dX5_ringsInAll_4 rfl ?_
      refine r_bipush hC dX5_ringsInAll_5 rfl ?_
      refine r_icmp_ge (tgt := 40) hC dX5_ringsInAll_7 rfl (fun h3 => ?_) (fun h3 => ?_)
      · refine r_iload_n hC dX5_ringsInAll_40 rfl ?_
        refine y_iret hK rfl dX5_ringsInAll_41 ?_
        have e_ : (w2).toNat = 8 := by omega
        rw [← e_, ← i0_4] at k
        exact k
      · refine r_iload_n hC dX5_ringsInAll_10 rfl ?_
        refine r_aload_n hC dX5_ringsInAll_11 rfl ?_
        refine r_iload_n hC dX5_ringsInAll_12 rfl ?_
        refine z_inv1 hM dX5_ringsInAll_13 vl_RX5_312 rfl rfl rfl (Nat.le_of_ble_eq_true rfl) (Nat.le_of_ble_eq_true rfl) ?_
        refine x_isTold (fun h4 => ?_) (fun h4 => ?_)
        · refine r_if_eq (tgt := 31) hC dX5_ringsInAll_16 rfl (fun h5 => by omega) (fun h5 => ?_)
          refine r_aload_n hC dX5_ringsInAll_19 rfl ?_
          refine z_getR hM dX5_ringsInAll_20 fl_RX5_32 rfl rfl (vld_of (n := 1) rfl (by omega) (by omega)) ?_
          refine r_iload_n hC dX5_ringsInAll_23 rfl ?_
          refine z_aald hM dX5_ringsInAll_24 rfl (by decide) (by omega) (by omega) (vld_of (n := 8) rfl (by omega) (by omega)) ?_
          refine z_getI (jz := 4) hM dX5_ringsInAll_25 fl_RX5_315 rfl rfl rfl (fun v6 h_v6 o_v6 t_v6 => ?_)
          have w_v6 := ((t_v6 (Or.inl (by simp [Tb]))).trans (rfl)).symm
          subst w_v6
          refine r_goto (tgt := 32) hC dX5_ringsInAll_28 rfl ?_
          refine r_iadd hC dX5_ringsInAll_32 ?_
          have f7 := inR_le (inR_wr (w1 + (σ 12 w2 4)))
          refine r_istore_n hC dX5_ringsInAll_33 rfl ?_
          refine r_iincE hC ((w2 + 1)) dX5_ringsInAll_34 rfl rfl (by omega) (by unfold inR; omega) ?_
          refine r_goto (tgt := 4) hC dX5_ringsInAll_37 rfl ?_
          exact ih4 ((wr (w1 + (σ 12 w2 4)))) ((w2 + 1))  (by omega) (by omega) (by first | rfl | (rw [rgN_I (by omega), ← i0_4]; first | (rw [if_pos (by omega)]; done) | (rw [if_neg (by omega)]; done) | (rw [if_pos (by omega)]; omega) | (rw [if_neg (by omega)]; omega))) (by omega)  
        · refine r_if_eq (tgt := 31) hC dX5_ringsInAll_16 rfl (fun h8 => ?_) (fun h8 => by omega)
          refine r_iconst hC dX5_ringsInAll_31 rfl ?_
          refine r_iaddE hC (w1) dX5_ringsInAll_32 (by omega) (by unfold inR; omega) ?_
          refine r_istore_n hC dX5_ringsInAll_33 rfl ?_
          refine r_iincE hC ((w2 + 1)) dX5_ringsInAll_34 rfl rfl (by omega) (by unfold inR; omega) ?_
          refine r_goto (tgt := 4) hC dX5_ringsInAll_37 rfl ?_
          exact ih4 (w1) ((w2 + 1))  (by omega) (by omega) (by first | rfl | (rw [rgN_I (by omega), ← i0_4]; first | (rw [if_pos (by omega)]; done) | (rw [if_neg (by omega)]; done) | (rw [if_pos (by omega)]; omega) | (rw [if_neg (by omega)]; omega))) (by omega)  
  exact L4 10 (0) (0)  (by omega) (by omega) (by first | rfl | (rw [rgN_I (by omega), ← i0_4]; first | (rw [if_pos (by omega)]; done) | (rw [if_neg (by omega)]; done) | (rw [if_pos (by omega)]; omega) | (rw [if_neg (by omega)]; omega))) (by omega)  
theorem x_linksInAll {eb : Bool} {d : Nat} {P : Option Vl → Mm → Prop} {σ : Mm}  (hG : GI σ)  (k : P (some (vI (lnN σ 4))) σ) : WT (true, false, eb) (d + 1) 123 [vR 2 0] σ P := by
  refine WT_in fun K hK => ?_
  have hK : StpY (true, false, eb) cX5_linksInAll RX5 (some .int) (WT (true, false, eb) (d + 0)) P K := hK
  have hM := hK.1
  have hC := hK.1.1
  show K 0 [some (vR 2 0), none, none] [] σ
  refine r_iconst hC dX5_linksInAll_0 rfl ?_
  refine r_istore_n hC dX5_linksInAll_1 rfl ?_
  refine r_iconst hC dX5_linksInAll_2 rfl ?_
  refine r_istore_n hC dX5_linksInAll_3 rfl ?_
  have L4 : ∀ (n4 : Nat) (w1 w2 : Int), 0 ≤ w1 ∧ w1 ≤ 4 → 0 ≤ w2 ∧ w2 ≤ 4 → ((w2) = lnN σ ((w1)).toNat) → ((w2) ≤ (w1)) → 4 - w1 < (n4 : Int) → K 4 [some (vR 2 0), some (vI w2), some (vI w1)] [] σ := by
    intro n4
    induction n4 with
    | zero => intro w1 w2  f_w1 f_w2 i0_4 i1_4 hm  ; omega
    | succ n4 ih4 =>
      intro w1 w2  f_w1 f_w2 i0_4 i1_4 hm4  
      refine r_iload_n hC dX5_linksInAll_4 rfl ?_
      refine r_iconst hC dX5_linksInAll_5 rfl ?_
      refine r_icmp_ge (tgt := 36) hC dX5_linksInAll_6 rfl (fun h3 => ?_) (fun h3 => ?_)
      · refine r_iload_n hC dX5_linksInAll_36 rfl ?_
        refine y_iret hK rfl dX5_linksInAll_37 ?_
        have e_ : (w1).toNat = 4 := by omega
        rw [← e_, ← i0_4] at k
        exact k
      · refine r_iload_n hC dX5_linksInAll_9 rfl ?_
        refine r_aload_n hC dX5_linksInAll_10 rfl ?_
        refine z_getR hM dX5_linksInAll_11 fl_RX5_19 rfl rfl (vld_of (n := 1) rfl (by omega) (by omega)) ?_
        refine r_iload_n hC dX5_linksInAll_14 rfl ?_
        refine z_aald hM dX5_linksInAll_15 rfl (by decide) (by omega) (by omega) (vld_of (n := 4) rfl (by omega) (by omega)) ?_
        refine z_getI (jz := 0) hM dX5_linksInAll_16 fl_RX5_215 rfl rfl rfl (fun v4 h_v4 o_v4 t_v4 => ?_)
        have w_v4 := ((t_v4 (Or.inl (by simp [Tb]))).trans (rfl)).symm
        subst w_v4
        refine r_iconst hC dX5_linksInAll_19 rfl ?_
        refine r_icmp_eq (tgt := 27) hC dX5_linksInAll_20 rfl (fun h5 => ?_) (fun h5 => ?_)
        · refine r_iconst hC dX5_linksInAll_27 rfl ?_
          refine r_iaddE hC (w2) dX5_linksInAll_28 (by omega) (by unfold inR; omega) ?_
          refine r_istore_n hC dX5_linksInAll_29 rfl ?_
          refine r_iincE hC ((w1 + 1)) dX5_linksInAll_30 rfl rfl (by omega) (by unfold inR; omega) ?_
          refine r_goto (tgt := 4) hC dX5_linksInAll_33 rfl ?_
          exact ih4 ((w1 + 1)) (w2)  (by omega) (by omega) (by first | rfl | (rw [lnN_I (by omega), ← i0_4]; first | (rw [if_pos (by omega)]; done) | (rw [if_neg (by omega)]; done) | (rw [if_pos (by omega)]; omega) | (rw [if_neg (by omega)]; omega))) (by omega) (by omega)  
        · refine r_iconst hC dX5_linksInAll_23 rfl ?_
          refine r_goto (tgt := 28) hC dX5_linksInAll_24 rfl ?_
          refine r_iaddE hC ((w2 + 1)) dX5_linksInAll_28 (by omega) (by unfold inR; omega) ?_
          refine r_istore_n hC dX5_linksInAll_29 rfl ?_
          refine r_iincE hC ((w1 + 1)) dX5_linksInAll_30 rfl rfl (by omega) (by unfold inR; omega) ?_
          refine r_goto (tgt := 4) hC dX5_linksInAll_33 rfl ?_
          exact ih4 ((w1 + 1)) ((w2 + 1))  (by omega) (by omega) (by first | rfl | (rw [lnN_I (by omega), ← i0_4]; first | (rw [if_pos (by omega)]; done) | (rw [if_neg (by omega)]; done) | (rw [if_pos (by omega)]; omega) | (rw [if_neg (by omega)]; omega))) (by omega) (by omega)  
  exact L4 6 (0) (0)  (by omega) (by omega) (by first | rfl | (rw [lnN_I (by omega), ← i0_4]; first | (rw [if_pos (by omega)]; done) | (rw [if_neg (by omega)]; done) | (rw [if_pos (by omega)]; omega) | (rw [if_neg (by omega)]; omega))) (by omega) (by omega)  
theorem x_about {eb : Bool} {d : Nat} {P : Option Vl → Mm → Prop} {σ : Mm} {w : Int}  (hG : GI σ)  (k : P (some (vI (abR σ w))) σ) : WT (true, false, eb) (d + 4) 116 [vR 2 0, vI w] σ P := by
  refine WT_in fun K hK => ?_
  have hK : StpY (true, false, eb) cX5_about RX5 (some .int) (WT (true, false, eb) (d + 3)) P K := hK
  have hM := hK.1
  have hC := hK.1.1
  show K 0 [some (vR 2 0), some (vI w)] [] σ
  refine r_rngz hC (fun g0 => ?_)
  have r_w : -2147483648 ≤ w ∧ w ≤ 2147483647 := inR_le (g0 (vI w) (by simp))
  have hcl := hG.2.1.2.2.2.2.2.2.2
  have hrow := hG.2.1.2.2.1
  refine r_iload_n hC dX5_about_0 rfl ?_
  rcases (by omega : (w < 0 ∨ 6 < w) ∨ w = 0 ∨ w = 1 ∨ w = 2 ∨ w = 3 ∨ w = 4 ∨ w = 5 ∨ w = 6) with h1 | h1 | h1 | h1 | h1 | h1 | h1 | h1
  · refine r_tableOut (tgt := 79) hC dX5_about_1 h1 rfl ?_
    refine r_iconst hC dX5_about_79 rfl ?_
    refine y_iret hK rfl dX5_about_80 ?_
    have hR : abR σ w = (-1) := by
      unfold abR
      (repeat' split) <;> first | rfl | omega
    rw [hR] at k
    exact k
  · refine r_tableIn (tgt := 44) (off := 43) hC dX5_about_1 (by omega) (by omega) (by rw [h1]; rfl) rfl ?_
    refine r_aload_n hC dX5_about_44 rfl ?_
    refine z_inv0 hM dX5_about_45 vl_RX5_120 rfl rfl rfl (Nat.le_of_ble_eq_true rfl) (Nat.le_of_ble_eq_true rfl) ?_
    refine x_openLanes ?_
    refine y_iret hK rfl dX5_about_48 ?_
    have hR : abR σ w = (cntO σ) := by
      unfold abR
      (repeat' split) <;> first | rfl | omega
    rw [hR] at k
    exact k
  · refine r_tableIn (tgt := 49) (off := 48) hC dX5_about_1 (by omega) (by omega) (by rw [h1]; rfl) rfl ?_
    refine r_aload_n hC dX5_about_49 rfl ?_
    refine z_inv0 hM dX5_about_50 vl_RX5_351 rfl rfl rfl (Nat.le_of_ble_eq_true rfl) (Nat.le_of_ble_eq_true rfl) ?_
    refine x_heldInAll hG ?_
    refine y_iret hK rfl dX5_about_53 ?_
    have hR : abR σ w = (htN σ 4) := by
      unfold abR
      (repeat' split) <;> first | rfl | omega
    rw [hR] at k
    exact k
  · refine r_tableIn (tgt := 54) (off := 53) hC dX5_about_1 (by omega) (by omega) (by rw [h1]; rfl) rfl ?_
    refine r_aload_n hC dX5_about_54 rfl ?_
    refine z_inv0 hM dX5_about_55 vl_RX5_354 rfl rfl rfl (Nat.le_of_ble_eq_true rfl) (Nat.le_of_ble_eq_true rfl) ?_
    refine x_spentInAll hG ?_
    refine y_iret hK rfl dX5_about_58 ?_
    have hR : abR σ w = (spN σ 4) := by
      unfold abR
      (repeat' split) <;> first | rfl | omega
    rw [hR] at k
    exact k
  · refine r_tableIn (tgt := 59) (off := 58) hC dX5_about_1 (by omega) (by omega) (by rw [h1]; rfl) rfl ?_
    refine r_aload_n hC dX5_about_59 rfl ?_
    refine z_inv0 hM dX5_about_60 vl_RX5_357 rfl rfl rfl (Nat.le_of_ble_eq_true rfl) (Nat.le_of_ble_eq_true rfl) ?_
    refine x_toldWatches hG ?_
    refine y_iret hK rfl dX5_about_63 ?_
    have hR : abR σ w = (wcN σ 8) := by
      unfold abR
      (repeat' split) <;> first | rfl | omega
    rw [hR] at k
    exact k
  · refine r_tableIn (tgt := 64) (off := 63) hC dX5_about_1 (by omega) (by omega) (by rw [h1]; rfl) rfl ?_
    refine r_aload_n hC dX5_about_64 rfl ?_
    refine z_inv0 hM dX5_about_65 vl_RX5_360 rfl rfl rfl (Nat.le_of_ble_eq_true rfl) (Nat.le_of_ble_eq_true rfl) ?_
    refine x_fullBoxes hG ?_
    refine y_iret hK rfl dX5_about_68 ?_
    have hR : abR σ w = (bxN σ 3) := by
      unfold abR
      (repeat' split) <;> first | rfl | omega
    rw [hR] at k
    exact k
  · refine r_tableIn (tgt := 69) (off := 68) hC dX5_about_1 (by omega) (by omega) (by rw [h1]; rfl) rfl ?_
    refine r_aload_n hC dX5_about_69 rfl ?_
    refine z_inv0 hM dX5_about_70 vl_RX5_363 rfl rfl rfl (Nat.le_of_ble_eq_true rfl) (Nat.le_of_ble_eq_true rfl) ?_
    refine x_ringsInAll hG ?_
    refine y_iret hK rfl dX5_about_73 ?_
    have hR : abR σ w = (rgN σ 8) := by
      unfold abR
      (repeat' split) <;> first | rfl | omega
    rw [hR] at k
    exact k
  · refine r_tableIn (tgt := 74) (off := 73) hC dX5_about_1 (by omega) (by omega) (by rw [h1]; rfl) rfl ?_
    refine r_aload_n hC dX5_about_74 rfl ?_
    refine z_inv0 hM dX5_about_75 vl_RX5_366 rfl rfl rfl (Nat.le_of_ble_eq_true rfl) (Nat.le_of_ble_eq_true rfl) ?_
    refine x_linksInAll hG ?_
    refine y_iret hK rfl dX5_about_78 ?_
    have hR : abR σ w = (lnN σ 4) := by
      unfold abR
      (repeat' split) <;> first | rfl | omega
    rw [hR] at k
    exact k
