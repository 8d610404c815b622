-- B: the class: what is asked with a fold
theorem GI.fo {σ ρ : Mm} (h : GI σ) (e : ∀ c : Nat, ¬ Fo c → ρ c = σ c) : GI ρ := by
  refine ⟨h.1.to fun c x y q => by rw [e c (by omega)], h.2.1.to fun c x y q => by rw [e c (by omega)], fun l a b => ?_⟩
  rw [e 7 (by decide)]
  exact h.2.2 l a b
theorem x_reach_S {eb : Bool} {d : Nat} {P : Option Vl → Mm → Prop} {σ : Mm} {l w b : Int}  (hI : InF σ) (hG : GI σ)  (k : ∀ (r : Int) (ρ : Mm), reA σ l w b r → (∀ (c : Nat) (x y : Int), ¬ Fo c → ρ c x y = σ c x y) → InF ρ → P (some (vI r)) ρ) : WT (true, true, eb) (d + 5) 77 [vR 2 0, vI l, vI w, vI b] σ P := by
  refine WT_in fun K hK => ?_
  have hK : StpY (true, true, eb) cX5_reach RX5 (some .int) (WT (true, true, eb) (d + 4)) P K := hK
  have hM := hK.1
  have hC := hK.1.1
  show K 0 [some (vR 2 0), some (vI l), some (vI w), some (vI b), none, none] [] σ
  refine z_ok hM (fun hok => ?_)
  refine r_rngz hC (fun g0 => ?_)
  have r_l : -2147483648 ≤ l ∧ l ≤ 2147483647 := inR_le (g0 (vI l) (by simp))
  have r_w : -2147483648 ≤ w ∧ w ≤ 2147483647 := inR_le (g0 (vI w) (by simp))
  have r_b : -2147483648 ≤ b ∧ b ≤ 2147483647 := inR_le (g0 (vI b) (by simp))
  have hcl := hG.2.1.2.2.2.2.2.2.2
  have hrow := hG.2.1.2.2.1
  refine r_aload_n hC dX5_reach_0 rfl ?_
  refine r_iload_n hC dX5_reach_1 rfl ?_
  refine r_iload_n hC dX5_reach_2 rfl ?_
  refine z_inv2 hM dX5_reach_3 vl_RX5_248 rfl rfl rfl (Nat.le_of_ble_eq_true rfl) (Nat.le_of_ble_eq_true rfl) ?_
  refine x_laneWith (fun hl_3 => ?_) (fun hl_3 => ?_)
  · have h6_3 := hG.1.h7 (l := l) (by omega) (by omega)
    have hN_3 := numF_rng (σ 7 l 2)
    have hO_3 := (hG.2.1.2.2.2.1 l (by omega) (by omega)).2
    refine r_astore hC dX5_reach_6 rfl ?_
    refine r_aload hC dX5_reach_8 rfl ?_
    refine r_ifnonnullR (tgt := 15) hC dX5_reach_10 rfl ?_
    refine r_aload_n hC dX5_reach_15 rfl ?_
    refine z_getR hM dX5_reach_16 fl_RX5_40 rfl rfl (vld_of (n := 1) rfl (by omega) (by omega)) ?_
    refine r_aload hC dX5_reach_19 rfl ?_
    refine z_getI (jz := 2) hM dX5_reach_21 fl_RX5_98 rfl rfl rfl (fun v1 h_v1 o_v1 t_v1 => ?_)
    have w_v1 := ((t_v1 (Or.inl (by simp [Tb]))).trans (rfl)).symm
    subst w_v1
    have q_v1 : 0 ≤ (σ 7 l 2) ∧ (σ 7 l 2) ≤ 9 := o_v1.2.2 rfl
    refine z_inv1 hM dX5_reach_24 vl_RX5_251 rfl rfl rfl (Nat.le_of_ble_eq_true rfl) (Nat.le_of_ble_eq_true rfl) ?_
    refine x_begin (by omega) rfl rfl rfl rfl rfl rfl rfl rfl rfl rfl (fun ρ2 g_ρ2 z_ρ2 => ?_)
    have t_ρ2 : ∀ (c : Nat) (p q : Int), ¬ Fo c → ρ2 c p q = σ c p q := fun c p q hc => (g_ρ2 c p q (by omega)).trans ((fun _ _ _ _ => rfl) c p q hc)
    refine r_iconst hC dX5_reach_27 rfl ?_
    refine r_istore hC dX5_reach_28 rfl ?_
    have L30 : ∀ (n30 : Nat) (w3 : Int) (ρ4 : Mm), 0 ≤ w3 ∧ w3 ≤ 121 → ((w3) ≤ σ 7 l 6) → (∀ n : Int, 1 ≤ n → n ≤ (w3) → ¬ rchV σ l 0 n w b) → 121 - w3 < (n30 : Int) → (∀ (c : Nat) (p q : Int), ¬ Fo c → ρ4 c p q = σ c p q) → (FRc ρ4 (σ 7 l 2) (fun j => σ 9 l (0 + j)) ((w3).toNat)) → K 30 [some (vR 2 0), some (vI l), some (vI w), some (vI b), some (vR 7 l), some (vI w3)] [] ρ4 := by
      intro n30
      induction n30 with
      | zero => intro w3 ρ4 f_w3 i0_30 i1_30 hm  m0_30 m1_30; omega
      | succ n30 ih30 =>
        intro w3 ρ4 f_w3 i0_30 i1_30 hm30  m0_30 m1_30
        refine r_iload hC dX5_reach_30 rfl ?_
        refine r_aload hC dX5_reach_32 rfl ?_
        refine z_getI (jz := 6) hM dX5_reach_34 fl_RX5_154 rfl rfl rfl (fun v5 h_v5 o_v5 t_v5 => ?_)
        have w_v5 := ((t_v5 (Or.inl (by simp [Tb]))).trans (m0_30 7 l 6 (by decide))).symm
        subst w_v5
        have q_v5 : 0 ≤ (σ 7 l 6) ∧ (σ 7 l 6) ≤ 121 := o_v5.1 rfl
        refine r_icmp_ge (tgt := 78) hC dX5_reach_37 rfl (fun h6 => ?_) (fun h6 => ?_)
        · refine r_iconst hC dX5_reach_78 rfl ?_
          refine y_iret hK rfl dX5_reach_79 ?_
          have hA : reA σ l w b (-1) := by
            exact ⟨fun _ => rfl, fun _ => Or.inl ⟨rfl, fun n n0 n1 => i1_30 n n0 (by omega)⟩⟩
          exact k _ _ hA (m0_30) (FRc.inF m1_30 (fun j h0 h1 => by rw [m0_30 15 0 j (by decide)]; exact hcl j h0 h1))
        · refine r_aload_n hC dX5_reach_40 rfl ?_
          refine z_getR hM dX5_reach_41 fl_RX5_40 rfl rfl (vld_of (n := 1) rfl (by omega) (by omega)) ?_
          refine r_aload hC dX5_reach_44 rfl ?_
          refine z_getR hM dX5_reach_46 fl_RX5_176 rfl rfl (vld_of (n := 7) rfl (by omega) (by omega)) ?_
          refine r_iload hC dX5_reach_49 rfl ?_
          refine z_iald hM dX5_reach_51 rfl (by omega) (by omega) (fun v7 h_v7 o_v7 t_v7 => ?_)
          have w_v7 := ((t_v7 (Or.inl (by simp [Tb]))).trans (m0_30 9 l w3 (by decide))).symm
          subst w_v7
          have q_v7 : -1000 ≤ (σ 9 l w3) ∧ (σ 9 l w3) ≤ 1000 := o_v7
          refine z_inv1 hM dX5_reach_52 vl_RX5_253 rfl rfl rfl (Nat.le_of_ble_eq_true rfl) (Nat.le_of_ble_eq_true rfl) ?_
          refine x_append2 (u := (fun j => σ 9 l (0 + j))) (n := (w3).toNat) (show (σ 9 l w3) = σ 9 l (0 + (((w3).toNat : Nat) : Int)) from congrArg (σ 9 l) (by omega)) (by omega) (by omega) (by omega) (fun j h0 h1 => (hrow l (0 + j) (by omega) (by omega) (by omega) (by omega)).2) m1_30 (fun j h0 h1 => by rw [m0_30 15 0 j (by decide)]; exact hcl j h0 h1) (fun ρ8 g_ρ8 r_ρ8 => ?_)
          have t_ρ8 : ∀ (c : Nat) (p q : Int), ¬ Fo c → ρ8 c p q = σ c p q := fun c p q hc => (g_ρ8 c p q (by omega)).trans (m0_30 c p q hc)
          refine r_aload_n hC dX5_reach_55 rfl ?_
          refine z_getR hM dX5_reach_56 fl_RX5_40 rfl rfl (vld_of (n := 1) rfl (by omega) (by omega)) ?_
          refine r_iload_n hC dX5_reach_59 rfl ?_
          refine r_iload_n hC dX5_reach_60 rfl ?_
          refine z_inv2 hM dX5_reach_61 vl_RX5_256 rfl rfl rfl (Nat.le_of_ble_eq_true rfl) (Nat.le_of_ble_eq_true rfl) ?_
          refine x_reaches (o := (σ 7 l 2)) (u := (fun j => σ 9 l (0 + j))) (n := ((w3).toNat + 1)) (by omega) (by omega) r_ρ8 (fun hr_61 => ?_) (fun hr_61 => ?_)
          · rw [show ρ8 16 0 = σ 16 0 from funext fun y => t_ρ8 16 0 y (by decide), show ρ8 15 0 = σ 15 0 from funext fun y => t_ρ8 15 0 y (by decide)] at hr_61
            refine r_if_eq (tgt := 72) hC dX5_reach_64 rfl (fun h9 => by omega) (fun h9 => ?_)
            refine r_iload hC dX5_reach_67 rfl ?_
            refine r_iconst hC dX5_reach_69 rfl ?_
            refine r_iaddE hC ((w3 + 1)) dX5_reach_70 (by omega) (by unfold inR; omega) ?_
            refine y_iret hK rfl dX5_reach_71 ?_
            have hA : reA σ l w b (w3 + 1) := by
              refine ⟨fun q => absurd ⟨by unfold opV; omega, by omega, by omega⟩ q, fun _ => Or.inr ⟨by omega, ?_, fun n n0 n1 => i1_30 n n0 (by omega)⟩⟩
              have q := hr_61
              rw [show (w3).toNat + 1 = ((w3 + 1) - 0).toNat from by omega] at q
              exact q
            exact k _ _ hA (t_ρ8) (FRc.inF r_ρ8 (fun j h0 h1 => by rw [t_ρ8 15 0 j (by decide)]; exact hcl j h0 h1))
          · rw [show ρ8 16 0 = σ 16 0 from funext fun y => t_ρ8 16 0 y (by decide), show ρ8 15 0 = σ 15 0 from funext fun y => t_ρ8 15 0 y (by decide)] at hr_61
            refine r_if_eq (tgt := 72) hC dX5_reach_64 rfl (fun h10 => ?_) (fun h10 => by omega)
            refine r_iincE hC ((w3 + 1)) dX5_reach_72 rfl rfl (by omega) (by unfold inR; omega) ?_
            refine r_goto (tgt := 30) hC dX5_reach_75 rfl ?_
            exact ih30 ((w3 + 1)) ρ8 (by omega) (by omega) (by intro n n0 n1; first | omega | (rcases (by omega : n ≤ w3 ∨ n = w3 + 1) with z | z; exact i1_30 n n0 z; subst z; have q := hr_61; rw [show (w3).toNat + 1 = ((w3 + 1) - 0).toNat from by omega] at q; exact q)) (by omega)  (t_ρ8) (by rw [show ((((w3 + 1) : Int)).toNat : Nat) = ((w3).toNat + 1) from by omega]; exact r_ρ8)
    exact L30 123 (0) ρ2 (by omega) (by omega) (by intro n n0 n1; first | omega | (rcases (by omega : n ≤ w3 ∨ n = w3 + 1) with z | z; exact i1_30 n n0 z; subst z; have q := hr_61; rw [show (w3).toNat + 1 = ((w3 + 1) - 0).toNat from by omega] at q; exact q)) (by omega)  (t_ρ2) (by rw [show (((0 : Int)).toNat : Nat) = 0 from by omega]; exact z_ρ2 (fun j => σ 9 l (0 + j)))
  · refine r_astoreN hC dX5_reach_6 rfl ?_
    refine r_aloadN hC dX5_reach_8 rfl ?_
    refine r_ifnonnullN hC dX5_reach_10 ?_
    refine r_iconst hC dX5_reach_13 rfl ?_
    refine y_iret hK rfl dX5_reach_14 ?_
    have hA : reA σ l w b (-1) := by
      exact ⟨fun _ => rfl, fun q => by unfold lwC opV at q; omega⟩
    exact k _ _ hA (fun _ _ _ _ => rfl) hI
theorem x_reach {eb : Bool} {d : Nat} {P : Option Vl → Mm → Prop} {σ : Mm} {l w b : Int} (hG : GI σ) (k : ∀ r : Int, reA σ l w b r → P (some (vI r)) σ) : WT (true, false, eb) (d + 5) 77 [vR 2 0, vI l, vI w, vI b] σ P := WT_fold fun ρ e hI => x_reach_S hI (hG.fo e) (fun r ρ2 hA gq hI2 => ⟨hI2, σ, k r (by
    have hc : reA ρ l w b r = reA σ l w b r := by (delta reA Fst rchV ptV lwC opV; simp only [e 7 (by decide), e 8 (by decide), e 9 (by decide), e 15 (by decide), e 16 (by decide)])
    rw [← hc]
    exact hA), fun c x y hc => (gq c x y hc).trans (by rw [e c hc])⟩)
theorem x_turned_S {eb : Bool} {d : Nat} {P : Option Vl → Mm → Prop} {σ : Mm} {l w : Int}  (hI : InF σ) (hG : GI σ)  (k : ∀ ρ : Mm, (∀ (c : Nat) (x y : Int), ¬ Fo c → ρ c x y = σ c x y) → InF ρ → P (some (vI (tuR σ l w))) ρ) : WT (true, true, eb) (d + 5) 83 [vR 2 0, vI l, vI w] σ P := by
  refine WT_in fun K hK => ?_
  have hK : StpY (true, true, eb) cX5_turned RX5 (some .int) (WT (true, true, eb) (d + 4)) P K := hK
  have hM := hK.1
  have hC := hK.1.1
  show K 0 [some (vR 2 0), some (vI l), some (vI w), none, none] [] σ
  refine z_ok hM (fun hok => ?_)
  refine r_rngz hC (fun g0 => ?_)
  have r_l : -2147483648 ≤ l ∧ l ≤ 2147483647 := inR_le (g0 (vI l) (by simp))
  have r_w : -2147483648 ≤ w ∧ w ≤ 2147483647 := inR_le (g0 (vI w) (by simp))
  have hcl := hG.2.1.2.2.2.2.2.2.2
  have hrow := hG.2.1.2.2.1
  refine r_aload_n hC dX5_turned_0 rfl ?_
  refine r_iload_n hC dX5_turned_1 rfl ?_
  refine r_iload_n hC dX5_turned_2 rfl ?_
  refine z_inv2 hM dX5_turned_3 vl_RX5_248 rfl rfl rfl (Nat.le_of_ble_eq_true rfl) (Nat.le_of_ble_eq_true rfl) ?_
  refine x_laneWith (fun hl_3 => ?_) (fun hl_3 => ?_)
  · have h6_3 := hG.1.h7 (l := l) (by omega) (by omega)
    have hN_3 := numF_rng (σ 7 l 2)
    have hO_3 := (hG.2.1.2.2.2.1 l (by omega) (by omega)).2
    refine r_astore_n hC dX5_turned_6 rfl ?_
    refine r_aload_n hC dX5_turned_7 rfl ?_
    refine r_ifnonnullR (tgt := 14) hC dX5_turned_8 rfl ?_
    refine r_aload_n hC dX5_turned_14 rfl ?_
    refine z_getR hM dX5_turned_15 fl_RX5_40 rfl rfl (vld_of (n := 1) rfl (by omega) (by omega)) ?_
    refine r_aload_n hC dX5_turned_18 rfl ?_
    refine z_getI (jz := 2) hM dX5_turned_19 fl_RX5_98 rfl rfl rfl (fun v1 h_v1 o_v1 t_v1 => ?_)
    have w_v1 := ((t_v1 (Or.inl (by simp [Tb]))).trans (rfl)).symm
    subst w_v1
    have q_v1 : 0 ≤ (σ 7 l 2) ∧ (σ 7 l 2) ≤ 9 := o_v1.2.2 rfl
    refine z_inv1 hM dX5_turned_22 vl_RX5_251 rfl rfl rfl (Nat.le_of_ble_eq_true rfl) (Nat.le_of_ble_eq_true rfl) ?_
    refine x_begin (by omega) rfl rfl rfl rfl rfl rfl rfl rfl rfl rfl (fun ρ2 g_ρ2 z_ρ2 => ?_)
    have t_ρ2 : ∀ (c : Nat) (p q : Int), ¬ Fo c → ρ2 c p q = σ c p q := fun c p q hc => (g_ρ2 c p q (by omega)).trans ((fun _ _ _ _ => rfl) c p q hc)
    refine r_aload_n hC dX5_turned_25 rfl ?_
    refine z_getI (jz := 6) hM dX5_turned_26 fl_RX5_154 rfl rfl rfl (fun v3 h_v3 o_v3 t_v3 => ?_)
    have w_v3 := ((t_v3 (Or.inl (by simp [Tb]))).trans (t_ρ2 7 l 6 (by decide))).symm
    subst w_v3
    have q_v3 : 0 ≤ (σ 7 l 6) ∧ (σ 7 l 6) ≤ 121 := o_v3.1 rfl
    refine r_iconst hC dX5_turned_29 rfl ?_
    refine r_isubE hC (((σ 7 l 6) - 1)) dX5_turned_30 (by omega) (by unfold inR; omega) ?_
    refine r_istore hC dX5_turned_31 rfl ?_
    have L33 : ∀ (n33 : Nat) (w4 : Int) (ρ5 : Mm), -1 ≤ w4 ∧ w4 ≤ 120 → ((w4) ≤ σ 7 l 6 - 1) → w4 + 1 < (n33 : Int) → (∀ (c : Nat) (p q : Int), ¬ Fo c → ρ5 c p q = σ c p q) → (FRc ρ5 (σ 7 l 2) (tuU σ l) ((σ 7 l 6 - 1 - w4).toNat)) → K 33 [some (vR 2 0), some (vI l), some (vI w), some (vR 7 l), some (vI w4)] [] ρ5 := by
      intro n33
      induction n33 with
      | zero => intro w4 ρ5 f_w4 i0_33 hm  m0_33 m1_33; omega
      | succ n33 ih33 =>
        intro w4 ρ5 f_w4 i0_33 hm33  m0_33 m1_33
        refine r_iload hC dX5_turned_33 rfl ?_
        refine r_if_lt (tgt := 58) hC dX5_turned_35 rfl (fun h6 => ?_) (fun h6 => ?_)
        · refine r_aload_n hC dX5_turned_58 rfl ?_
          refine z_getR hM dX5_turned_59 fl_RX5_40 rfl rfl (vld_of (n := 1) rfl (by omega) (by omega)) ?_
          refine r_iload_n hC dX5_turned_62 rfl ?_
          refine z_inv1 hM dX5_turned_63 vl_RX5_273 rfl rfl rfl (Nat.le_of_ble_eq_true rfl) (Nat.le_of_ble_eq_true rfl) ?_
          refine x_number (n := (σ 7 l 6 - 1 - w4).toNat) (by omega) m1_33.1 m1_33.2.1 (by omega) m1_33 ?_
          rw [show ρ5 16 0 = σ 16 0 from funext fun y => m0_33 16 0 y (by decide), show ρ5 15 0 = σ 15 0 from funext fun y => m0_33 15 0 y (by decide)]
          refine y_iret hK rfl dX5_turned_66 ?_
          have hR : tuR σ l w = (cm (σ 16 0) (σ 15 0) (σ 7 l 2) (tuU σ l) (σ 7 l 6 - 1 - w4).toNat w) := by
            unfold tuR
            rw [if_pos (by unfold lwC opV; omega), show (σ 7 l 6).toNat = (σ 7 l 6 - 1 - w4).toNat from by omega]
          rw [hR] at k
          exact k _ (m0_33) (FRc.inF m1_33 (fun j h0 h1 => by rw [m0_33 15 0 j (by decide)]; exact hcl j h0 h1))
        · refine r_aload_n hC dX5_turned_38 rfl ?_
          refine z_getR hM dX5_turned_39 fl_RX5_40 rfl rfl (vld_of (n := 1) rfl (by omega) (by omega)) ?_
          refine r_aload_n hC dX5_turned_42 rfl ?_
          refine z_getR hM dX5_turned_43 fl_RX5_176 rfl rfl (vld_of (n := 7) rfl (by omega) (by omega)) ?_
          refine r_iload hC dX5_turned_46 rfl ?_
          refine z_iald hM dX5_turned_48 rfl (by omega) (by omega) (fun v7 h_v7 o_v7 t_v7 => ?_)
          have w_v7 := ((t_v7 (Or.inl (by simp [Tb]))).trans (m0_33 9 l w4 (by decide))).symm
          subst w_v7
          have q_v7 : -1000 ≤ (σ 9 l w4) ∧ (σ 9 l w4) ≤ 1000 := o_v7
          refine z_inv1 hM dX5_turned_49 vl_RX5_253 rfl rfl rfl (Nat.le_of_ble_eq_true rfl) (Nat.le_of_ble_eq_true rfl) ?_
          refine x_append2 (u := (tuU σ l)) (n := (σ 7 l 6 - 1 - w4).toNat) (show (σ 9 l w4) = σ 9 l (σ 7 l 6 - 1 - (((σ 7 l 6 - 1 - w4).toNat : Nat) : Int)) from congrArg (σ 9 l) (by omega)) (by omega) (by omega) (by omega) (fun j h0 h1 => (hrow l (σ 7 l 6 - 1 - j) (by omega) (by omega) (by omega) (by omega)).2) m1_33 (fun j h0 h1 => by rw [m0_33 15 0 j (by decide)]; exact hcl j h0 h1) (fun ρ8 g_ρ8 r_ρ8 => ?_)
          have t_ρ8 : ∀ (c : Nat) (p q : Int), ¬ Fo c → ρ8 c p q = σ c p q := fun c p q hc => (g_ρ8 c p q (by omega)).trans (m0_33 c p q hc)
          refine r_iincE hC ((w4 - 1)) dX5_turned_52 rfl rfl (by omega) (by unfold inR; omega) ?_
          refine r_goto (tgt := 33) hC dX5_turned_55 rfl ?_
          exact ih33 ((w4 - 1)) ρ8 (by omega) (by omega) (by omega)  (t_ρ8) (by rw [show (((σ 7 l 6 - 1 - (w4 - 1) : Int)).toNat : Nat) = ((σ 7 l 6 - 1 - w4).toNat + 1) from by omega]; exact r_ρ8)
    exact L33 123 (((σ 7 l 6) - 1)) ρ2 (by omega) (by omega) (by omega)  (t_ρ2) (by rw [show (((σ 7 l 6 - 1 - ((σ 7 l 6) - 1) : Int)).toNat : Nat) = 0 from by omega]; exact z_ρ2 (tuU σ l))
  · refine r_astoreN_n hC dX5_turned_6 rfl ?_
    refine r_aloadN_n hC dX5_turned_7 rfl ?_
    refine r_ifnonnullN hC dX5_turned_8 ?_
    refine r_ldc hC dX5_turned_11 co_RX5_175 rfl ?_
    refine y_iret hK rfl dX5_turned_13 ?_
    have hR : tuR σ l w = (-2147483648) := by
      exact if_neg (by unfold lwC opV; omega)
    rw [hR] at k
    exact k _ (fun _ _ _ _ => rfl) hI
theorem x_turned {eb : Bool} {d : Nat} {P : Option Vl → Mm → Prop} {σ : Mm} {l w : Int} (hG : GI σ) (k : P (some (vI (tuR σ l w))) σ) : WT (true, false, eb) (d + 5) 83 [vR 2 0, vI l, vI w] σ P := WT_fold fun ρ e hI => x_turned_S hI (hG.fo e) (fun ρ2 gq hI2 => ⟨hI2, σ, by
    have hc : tuR ρ l w = tuR σ l w := by (delta tuR tuU lwC opV; simp only [e 7 (by decide), e 8 (by decide), e 9 (by decide), e 15 (by decide), e 16 (by decide)])
    rw [hc]
    exact k, fun c x y hc => (gq c x y hc).trans (by rw [e c hc])⟩)
theorem x_reachBack_S {eb : Bool} {d : Nat} {P : Option Vl → Mm → Prop} {σ : Mm} {l w b : Int}  (hI : InF σ) (hG : GI σ)  (k : ∀ (r : Int) (ρ : Mm), rbA σ l w b r → (∀ (c : Nat) (x y : Int), ¬ Fo c → ρ c x y = σ c x y) → InF ρ → P (some (vI r)) ρ) : WT (true, true, eb) (d + 5) 78 [vR 2 0, vI l, vI w, vI b] σ P := by
  refine WT_in fun K hK => ?_
  have hK : StpY (true, true, eb) cX5_reachBack RX5 (some .int) (WT (true, true, eb) (d + 4)) P K := hK
  have hM := hK.1
  have hC := hK.1.1
  show K 0 [some (vR 2 0), some (vI l), some (vI w), some (vI b), none, none] [] σ
  refine z_ok hM (fun hok => ?_)
  refine r_rngz hC (fun g0 => ?_)
  have r_l : -2147483648 ≤ l ∧ l ≤ 2147483647 := inR_le (g0 (vI l) (by simp))
  have r_w : -2147483648 ≤ w ∧ w ≤ 2147483647 := inR_le (g0 (vI w) (by simp))
  have r_b : -2147483648 ≤ b ∧ b ≤ 2147483647 := inR_le (g0 (vI b) (by simp))
  have hcl := hG.2.1.2.2.2.2.2.2.2
  have hrow := hG.2.1.2.2.1
  refine r_aload_n hC dX5_reachBack_0 rfl ?_
  refine r_iload_n hC dX5_reachBack_1 rfl ?_
  refine r_iload_n hC dX5_reachBack_2 rfl ?_
  refine z_inv2 hM dX5_reachBack_3 vl_RX5_248 rfl rfl rfl (Nat.le_of_ble_eq_true rfl) (Nat.le_of_ble_eq_true rfl) ?_
  refine x_laneWith (fun hl_3 => ?_) (fun hl_3 => ?_)
  · have h6_3 := hG.1.h7 (l := l) (by omega) (by omega)
    have hN_3 := numF_rng (σ 7 l 2)
    have hO_3 := (hG.2.1.2.2.2.1 l (by omega) (by omega)).2
    refine r_astore hC dX5_reachBack_6 rfl ?_
    refine r_aload hC dX5_reachBack_8 rfl ?_
    refine r_ifnonnullR (tgt := 15) hC dX5_reachBack_10 rfl ?_
    refine r_iconst hC dX5_reachBack_15 rfl ?_
    refine r_istore hC dX5_reachBack_16 rfl ?_
    have L18 : ∀ (n18 : Nat) (w1 : Int) (ρ2 : Mm), 1 ≤ w1 ∧ w1 ≤ 122 → (∀ n : Int, 1 ≤ n → n < (w1) → ¬ rchV σ l (σ 7 l 6 - n) (σ 7 l 6) w b) → 122 - w1 < (n18 : Int) → (∀ (c : Nat) (p q : Int), ¬ Fo c → ρ2 c p q = σ c p q) → (InF ρ2) → K 18 [some (vR 2 0), some (vI l), some (vI w), some (vI b), some (vR 7 l), some (vI w1)] [] ρ2 := by
      intro n18
      induction n18 with
      | zero => intro w1 ρ2 f_w1 i0_18 hm  m0_18 m1_18; omega
      | succ n18 ih18 =>
        intro w1 ρ2 f_w1 i0_18 hm18  m0_18 m1_18
        refine r_iload hC dX5_reachBack_18 rfl ?_
        refine r_aload hC dX5_reachBack_20 rfl ?_
        refine z_getI (jz := 6) hM dX5_reachBack_22 fl_RX5_154 rfl rfl rfl (fun v3 h_v3 o_v3 t_v3 => ?_)
        have w_v3 := ((t_v3 (Or.inl (by simp [Tb]))).trans (m0_18 7 l 6 (by decide))).symm
        subst w_v3
        have q_v3 : 0 ≤ (σ 7 l 6) ∧ (σ 7 l 6) ≤ 121 := o_v3.1 rfl
        refine r_icmp_gt (tgt := 68) hC dX5_reachBack_25 rfl (fun h4 => ?_) (fun h4 => ?_)
        · refine r_iconst hC dX5_reachBack_68 rfl ?_
          refine y_iret hK rfl dX5_reachBack_69 ?_
          have hA : rbA σ l w b (-1) := by
            exact ⟨fun _ => rfl, fun _ => Or.inl ⟨rfl, fun n n0 n1 => i0_18 n n0 (by omega)⟩⟩
          exact k _ _ hA (m0_18) m1_18
        · refine r_aload_n hC dX5_reachBack_28 rfl ?_
          refine r_aload hC dX5_reachBack_29 rfl ?_
          refine r_aload hC dX5_reachBack_31 rfl ?_
          refine z_getI (jz := 6) hM dX5_reachBack_33 fl_RX5_154 rfl rfl rfl (fun v5 h_v5 o_v5 t_v5 => ?_)
          have w_v5 := ((t_v5 (Or.inl (by simp [Tb]))).trans (m0_18 7 l 6 (by decide))).symm
          subst w_v5
          have q_v5 : 0 ≤ (σ 7 l 6) ∧ (σ 7 l 6) ≤ 121 := o_v5.1 rfl
          refine r_iload hC dX5_reachBack_36 rfl ?_
          refine r_isubE hC (((σ 7 l 6) - w1)) dX5_reachBack_38 (by omega) (by unfold inR; omega) ?_
          refine r_aload hC dX5_reachBack_39 rfl ?_
          refine z_getI (jz := 6) hM dX5_reachBack_41 fl_RX5_154 rfl rfl rfl (fun v6 h_v6 o_v6 t_v6 => ?_)
          have w_v6 := ((t_v6 (Or.inl (by simp [Tb]))).trans (m0_18 7 l 6 (by decide))).symm
          subst w_v6
          have q_v6 : 0 ≤ (σ 7 l 6) ∧ (σ 7 l 6) ≤ 121 := o_v6.1 rfl
          refine z_inv3 hM dX5_reachBack_44 vl_RX5_259 rfl rfl rfl (Nat.le_of_ble_eq_true rfl) (Nat.le_of_ble_eq_true rfl) ?_
          refine x_foldPart (i := l) (f := ((σ 7 l 6) - w1)) (z := (σ 7 l 6)) (by omega) (by omega) (by omega) (fun ρ7 g_ρ7 r_ρ7 => ?_)
          have t_ρ7 : ∀ (c : Nat) (p q : Int), ¬ Fo c → ρ7 c p q = σ c p q := fun c p q hc => (g_ρ7 c p q (by omega)).trans (m0_18 c p q hc)
          rw [show ρ2 7 l 2 = σ 7 l 2 from m0_18 7 l 2 (by decide), show ρ2 9 l = σ 9 l from funext fun y => m0_18 9 l y (by decide)] at r_ρ7
          refine r_aload_n hC dX5_reachBack_47 rfl ?_
          refine z_getR hM dX5_reachBack_48 fl_RX5_40 rfl rfl (vld_of (n := 1) rfl (by omega) (by omega)) ?_
          refine r_iload_n hC dX5_reachBack_51 rfl ?_
          refine r_iload_n hC dX5_reachBack_52 rfl ?_
          refine z_inv2 hM dX5_reachBack_53 vl_RX5_256 rfl rfl rfl (Nat.le_of_ble_eq_true rfl) (Nat.le_of_ble_eq_true rfl) ?_
          refine x_reaches (o := (σ 7 l 2)) (u := (fun j => σ 9 l (((σ 7 l 6) - w1) + j))) (n := ((σ 7 l 6) - ((σ 7 l 6) - w1)).toNat) (by omega) (by omega) r_ρ7 (fun hr_53 => ?_) (fun hr_53 => ?_)
          · rw [show ρ7 16 0 = σ 16 0 from funext fun y => t_ρ7 16 0 y (by decide), show ρ7 15 0 = σ 15 0 from funext fun y => t_ρ7 15 0 y (by decide)] at hr_53
            refine r_if_eq (tgt := 62) hC dX5_reachBack_56 rfl (fun h8 => by omega) (fun h8 => ?_)
            refine r_iload hC dX5_reachBack_59 rfl ?_
            refine y_iret hK rfl dX5_reachBack_61 ?_
            have hA : rbA σ l w b w1 := by
              exact ⟨fun q => absurd ⟨by unfold opV; omega, by omega, by omega⟩ q, fun _ => Or.inr ⟨by omega, hr_53, fun n n0 n1 => i0_18 n n0 (by omega)⟩⟩
            exact k _ _ hA (t_ρ7) (FRc.inF r_ρ7 (fun j h0 h1 => by rw [t_ρ7 15 0 j (by decide)]; exact hcl j h0 h1))
          · rw [show ρ7 16 0 = σ 16 0 from funext fun y => t_ρ7 16 0 y (by decide), show ρ7 15 0 = σ 15 0 from funext fun y => t_ρ7 15 0 y (by decide)] at hr_53
            refine r_if_eq (tgt := 62) hC dX5_reachBack_56 rfl (fun h9 => ?_) (fun h9 => by omega)
            refine r_iincE hC ((w1 + 1)) dX5_reachBack_62 rfl rfl (by omega) (by unfold inR; omega) ?_
            refine r_goto (tgt := 18) hC dX5_reachBack_65 rfl ?_
            exact ih18 ((w1 + 1)) ρ7 (by omega) (by intro n n0 n1; first | omega | (rcases (by omega : n < w1 ∨ n = w1) with z | z; exact i0_18 n n0 z; subst z; exact hr_53)) (by omega)  (t_ρ7) ((FRc.inF r_ρ7 (fun j h0 h1 => by rw [t_ρ7 15 0 j (by decide)]; exact hcl j h0 h1)))
    exact L18 124 (1) σ (by omega) (by intro n n0 n1; first | omega | (rcases (by omega : n < w1 ∨ n = w1) with z | z; exact i0_18 n n0 z; subst z; exact hr_53)) (by omega)  ((fun _ _ _ _ => rfl)) (hI)
  · refine r_astoreN hC dX5_reachBack_6 rfl ?_
    refine r_aloadN hC dX5_reachBack_8 rfl ?_
    refine r_ifnonnullN hC dX5_reachBack_10 ?_
    refine r_iconst hC dX5_reachBack_13 rfl ?_
    refine y_iret hK rfl dX5_reachBack_14 ?_
    have hA : rbA σ l w b (-1) := by
      exact ⟨fun _ => rfl, fun q => by unfold lwC opV at q; omega⟩
    exact k _ _ hA (fun _ _ _ _ => rfl) hI
theorem x_reachBack {eb : Bool} {d : Nat} {P : Option Vl → Mm → Prop} {σ : Mm} {l w b : Int} (hG : GI σ) (k : ∀ r : Int, rbA σ l w b r → P (some (vI r)) σ) : WT (true, false, eb) (d + 5) 78 [vR 2 0, vI l, vI w, vI b] σ P := WT_fold fun ρ e hI => x_reachBack_S hI (hG.fo e) (fun r ρ2 hA gq hI2 => ⟨hI2, σ, k r (by
    have hc : rbA ρ l w b r = rbA σ l w b r := by (delta rbA Fst rchV ptV lwC opV; simp only [e 7 (by decide), e 8 (by decide), e 9 (by decide), e 15 (by decide), e 16 (by decide)])
    rw [← hc]
    exact hA), fun c x y hc => (gq c x y hc).trans (by rw [e c hc])⟩)
theorem FRc.cg {ρ : Mm} {o : Int} {u v : Int → Int} {n : Nat} (h : FRc ρ o u n) (e : ∀ j : Int, 0 ≤ j → j < (n : Int) → v j = u j) : FRc ρ o v n := ⟨h.1, h.2.1, fun q => by rw [stp_c e]; exact h.2.2.1 q, fun k a b => by rw [cmN_c e]; exact h.2.2.2 k a b⟩
theorem x_joined_S {eb : Bool} {d : Nat} {P : Option Vl → Mm → Prop} {σ : Mm} {l o w : Int}  (hI : InF σ) (hG : GI σ)  (k : ∀ ρ : Mm, (∀ (c : Nat) (x y : Int), ¬ Fo c → ρ c x y = σ c x y) → InF ρ → P (some (vI (jnR σ l o w))) ρ) : WT (true, true, eb) (d + 5) 86 [vR 2 0, vI l, vI o, vI w] σ P := by
  refine WT_in fun K hK => ?_
  have hK : StpY (true, true, eb) cX5_joined RX5 (some .int) (WT (true, true, eb) (d + 4)) P K := hK
  have hM := hK.1
  have hC := hK.1.1
  show K 0 [some (vR 2 0), some (vI l), some (vI o), some (vI w), none, none, none] [] σ
  refine z_ok hM (fun hok => ?_)
  refine r_rngz hC (fun g0 => ?_)
  have r_l : -2147483648 ≤ l ∧ l ≤ 2147483647 := inR_le (g0 (vI l) (by simp))
  have r_o : -2147483648 ≤ o ∧ o ≤ 2147483647 := inR_le (g0 (vI o) (by simp))
  have r_w : -2147483648 ≤ w ∧ w ≤ 2147483647 := inR_le (g0 (vI w) (by simp))
  have hcl := hG.2.1.2.2.2.2.2.2.2
  have hrow := hG.2.1.2.2.1
  refine r_aload_n hC dX5_joined_0 rfl ?_
  refine r_iload_n hC dX5_joined_1 rfl ?_
  refine r_iload_n hC dX5_joined_2 rfl ?_
  refine z_inv2 hM dX5_joined_3 vl_RX5_248 rfl rfl rfl (Nat.le_of_ble_eq_true rfl) (Nat.le_of_ble_eq_true rfl) ?_
  refine x_laneWith (fun hl_3 => ?_) (fun hl_3 => ?_)
  · have h6_3 := hG.1.h7 (l := l) (by omega) (by omega)
    have hN_3 := numF_rng (σ 7 l 2)
    have hO_3 := (hG.2.1.2.2.2.1 l (by omega) (by omega)).2
    refine r_astore hC dX5_joined_6 rfl ?_
    refine r_aload_n hC dX5_joined_8 rfl ?_
    refine r_iload_n hC dX5_joined_9 rfl ?_
    refine z_inv1 hM dX5_joined_10 vl_RX5_123 rfl rfl rfl (Nat.le_of_ble_eq_true rfl) (Nat.le_of_ble_eq_true rfl) ?_
    refine x_openLane (fun hl_10 => ?_) (fun hl_10 => ?_)
    · have h6_10 := hG.1.h7 (l := o) (by omega) (by omega)
      have hN_10 := numF_rng (σ 7 o 2)
      have hO_10 := (hG.2.1.2.2.2.1 o (by omega) (by omega)).2
      refine r_astore hC dX5_joined_13 rfl ?_
      refine r_aload hC dX5_joined_15 rfl ?_
      refine r_ifnullR hC dX5_joined_17 ?_
      refine r_aload hC dX5_joined_20 rfl ?_
      refine r_ifnullR hC dX5_joined_22 ?_
      refine r_aload hC dX5_joined_25 rfl ?_
      refine z_getI (jz := 2) hM dX5_joined_27 fl_RX5_98 rfl rfl rfl (fun v1 h_v1 o_v1 t_v1 => ?_)
      have w_v1 := ((t_v1 (Or.inl (by simp [Tb]))).trans (rfl)).symm
      subst w_v1
      have q_v1 : 0 ≤ (σ 7 l 2) ∧ (σ 7 l 2) ≤ 9 := o_v1.2.2 rfl
      refine r_aload hC dX5_joined_30 rfl ?_
      refine z_getI (jz := 2) hM dX5_joined_32 fl_RX5_98 rfl rfl rfl (fun v2 h_v2 o_v2 t_v2 => ?_)
      have w_v2 := ((t_v2 (Or.inl (by simp [Tb]))).trans (rfl)).symm
      subst w_v2
      have q_v2 : 0 ≤ (σ 7 o 2) ∧ (σ 7 o 2) ≤ 9 := o_v2.2.2 rfl
      refine r_icmp_eq (tgt := 41) hC dX5_joined_35 rfl (fun h3 => ?_) (fun h3 => ?_)
      · refine r_aload_n hC dX5_joined_41 rfl ?_
        refine r_aload hC dX5_joined_42 rfl ?_
        refine r_iconst hC dX5_joined_44 rfl ?_
        refine r_aload hC dX5_joined_45 rfl ?_
        refine z_getI (jz := 6) hM dX5_joined_47 fl_RX5_154 rfl rfl rfl (fun v4 h_v4 o_v4 t_v4 => ?_)
        have w_v4 := ((t_v4 (Or.inl (by simp [Tb]))).trans (rfl)).symm
        subst w_v4
        have q_v4 : 0 ≤ (σ 7 l 6) ∧ (σ 7 l 6) ≤ 121 := o_v4.1 rfl
        refine z_inv3 hM dX5_joined_50 vl_RX5_259 rfl rfl rfl (Nat.le_of_ble_eq_true rfl) (Nat.le_of_ble_eq_true rfl) ?_
        refine x_foldPart (i := l) (f := 0) (z := (σ 7 l 6)) (by omega) (by omega) (by omega) (fun ρ5 g_ρ5 r_ρ5 => ?_)
        have t_ρ5 : ∀ (c : Nat) (p q : Int), ¬ Fo c → ρ5 c p q = σ c p q := fun c p q hc => (g_ρ5 c p q (by omega)).trans ((fun _ _ _ _ => rfl) c p q hc)
        refine r_iconst hC dX5_joined_53 rfl ?_
        refine r_istore hC dX5_joined_54 rfl ?_
        have L56 : ∀ (n56 : Nat) (w6 : Int) (ρ7 : Mm), 0 ≤ w6 ∧ w6 ≤ 121 → ((w6) ≤ σ 7 o 6) → 121 - w6 < (n56 : Int) → (∀ (c : Nat) (p q : Int), ¬ Fo c → ρ7 c p q = σ c p q) → (FRc ρ7 (σ 7 l 2) (jnU σ l o) ((σ 7 l 6 + w6).toNat)) → K 56 [some (vR 2 0), some (vI l), some (vI o), some (vI w), some (vR 7 l), some (vR 7 o), some (vI w6)] [] ρ7 := by
          intro n56
          induction n56 with
          | zero => intro w6 ρ7 f_w6 i0_56 hm  m0_56 m1_56; omega
          | succ n56 ih56 =>
            intro w6 ρ7 f_w6 i0_56 hm56  m0_56 m1_56
            refine r_iload hC dX5_joined_56 rfl ?_
            refine r_aload hC dX5_joined_58 rfl ?_
            refine z_getI (jz := 6) hM dX5_joined_60 fl_RX5_154 rfl rfl rfl (fun v8 h_v8 o_v8 t_v8 => ?_)
            have w_v8 := ((t_v8 (Or.inl (by simp [Tb]))).trans (m0_56 7 o 6 (by decide))).symm
            subst w_v8
            have q_v8 : 0 ≤ (σ 7 o 6) ∧ (σ 7 o 6) ≤ 121 := o_v8.1 rfl
            refine r_icmp_ge (tgt := 87) hC dX5_joined_63 rfl (fun h9 => ?_) (fun h9 => ?_)
            · refine r_aload_n hC dX5_joined_87 rfl ?_
              refine z_getR hM dX5_joined_88 fl_RX5_40 rfl rfl (vld_of (n := 1) rfl (by omega) (by omega)) ?_
              refine r_iload_n hC dX5_joined_91 rfl ?_
              refine z_inv1 hM dX5_joined_92 vl_RX5_273 rfl rfl rfl (Nat.le_of_ble_eq_true rfl) (Nat.le_of_ble_eq_true rfl) ?_
              refine x_number (n := (σ 7 l 6 + w6).toNat) (by omega) m1_56.1 m1_56.2.1 (by omega) m1_56 ?_
              rw [show ρ7 16 0 = σ 16 0 from funext fun y => m0_56 16 0 y (by decide), show ρ7 15 0 = σ 15 0 from funext fun y => m0_56 15 0 y (by decide)]
              refine y_iret hK rfl dX5_joined_95 ?_
              have hR : jnR σ l o w = (cm (σ 16 0) (σ 15 0) (σ 7 l 2) (jnU σ l o) (σ 7 l 6 + w6).toNat w) := by
                unfold jnR
                rw [if_pos (by unfold lkC2 lwC opV; omega), show (σ 7 l 6 + σ 7 o 6).toNat = (σ 7 l 6 + w6).toNat from by omega]
              rw [hR] at k
              exact k _ (m0_56) (FRc.inF m1_56 (fun j h0 h1 => by rw [m0_56 15 0 j (by decide)]; exact hcl j h0 h1))
            · refine r_aload_n hC dX5_joined_66 rfl ?_
              refine z_getR hM dX5_joined_67 fl_RX5_40 rfl rfl (vld_of (n := 1) rfl (by omega) (by omega)) ?_
              refine r_aload hC dX5_joined_70 rfl ?_
              refine z_getR hM dX5_joined_72 fl_RX5_176 rfl rfl (vld_of (n := 7) rfl (by omega) (by omega)) ?_
              refine r_iload hC dX5_joined_75 rfl ?_
              refine z_iald hM dX5_joined_77 rfl (by omega) (by omega) (fun v10 h_v10 o_v10 t_v10 => ?_)
              have w_v10 := ((t_v10 (Or.inl (by simp [Tb]))).trans (m0_56 9 o w6 (by decide))).symm
              subst w_v10
              have q_v10 : -1000 ≤ (σ 9 o w6) ∧ (σ 9 o w6) ≤ 1000 := o_v10
              refine z_inv1 hM dX5_joined_78 vl_RX5_253 rfl rfl rfl (Nat.le_of_ble_eq_true rfl) (Nat.le_of_ble_eq_true rfl) ?_
              refine x_append2 (u := (jnU σ l o)) (n := (σ 7 l 6 + w6).toNat) (by show (σ 9 o w6) = jnU σ l o (((σ 7 l 6 + w6).toNat : Nat) : Int); unfold jnU; rw [if_neg (by omega)]; exact congrArg (σ 9 o) (by omega)) (by omega) (by omega) (by omega) (fun j h0 h1 => by unfold jnU; split; exact (hrow l j (by omega) (by omega) (by omega) (by omega)).2; exact (hrow o (j - σ 7 l 6) (by omega) (by omega) (by omega) (by omega)).2) m1_56 (fun j h0 h1 => by rw [m0_56 15 0 j (by decide)]; exact hcl j h0 h1) (fun ρ11 g_ρ11 r_ρ11 => ?_)
              have t_ρ11 : ∀ (c : Nat) (p q : Int), ¬ Fo c → ρ11 c p q = σ c p q := fun c p q hc => (g_ρ11 c p q (by omega)).trans (m0_56 c p q hc)
              refine r_iincE hC ((w6 + 1)) dX5_joined_81 rfl rfl (by omega) (by unfold inR; omega) ?_
              refine r_goto (tgt := 56) hC dX5_joined_84 rfl ?_
              exact ih56 ((w6 + 1)) ρ11 (by omega) (by omega) (by omega)  (t_ρ11) (by rw [show (((σ 7 l 6 + (w6 + 1) : Int)).toNat : Nat) = ((σ 7 l 6 + w6).toNat + 1) from by omega]; exact r_ρ11)
        exact L56 123 (0) ρ5 (by omega) (by omega) (by omega)  (t_ρ5) (by rw [show (σ 7 l 6 + 0).toNat = (σ 7 l 6 - 0).toNat from by omega]; exact r_ρ5.cg (fun j a b => by show jnU σ l o j = σ 9 l (0 + j); unfold jnU; rw [if_pos (by omega), Int.zero_add]))
      · refine r_ldc hC dX5_joined_38 co_RX5_175 rfl ?_
        refine y_iret hK rfl dX5_joined_40 ?_
        have hR : jnR σ l o w = (-2147483648) := by
          exact if_neg (by unfold lkC2 lwC opV; omega)
        rw [hR] at k
        exact k _ (fun _ _ _ _ => rfl) hI
    · refine r_astoreN hC dX5_joined_13 rfl ?_
      refine r_aload hC dX5_joined_15 rfl ?_
      refine r_ifnullR hC dX5_joined_17 ?_
      refine r_aloadN hC dX5_joined_20 rfl ?_
      refine r_ifnullN (tgt := 38) hC dX5_joined_22 rfl ?_
      refine r_ldc hC dX5_joined_38 co_RX5_175 rfl ?_
      refine y_iret hK rfl dX5_joined_40 ?_
      have hR : jnR σ l o w = (-2147483648) := by
        exact if_neg (by unfold lkC2 lwC opV; omega)
      rw [hR] at k
      exact k _ (fun _ _ _ _ => rfl) hI
  · refine r_astoreN hC dX5_joined_6 rfl ?_
    refine r_aload_n hC dX5_joined_8 rfl ?_
    refine r_iload_n hC dX5_joined_9 rfl ?_
    refine z_inv1 hM dX5_joined_10 vl_RX5_123 rfl rfl rfl (Nat.le_of_ble_eq_true rfl) (Nat.le_of_ble_eq_true rfl) ?_
    refine x_openLane (fun hl_10 => ?_) (fun hl_10 => ?_)
    · have h6_10 := hG.1.h7 (l := o) (by omega) (by omega)
      have hN_10 := numF_rng (σ 7 o 2)
      have hO_10 := (hG.2.1.2.2.2.1 o (by omega) (by omega)).2
      refine r_astore hC dX5_joined_13 rfl ?_
      refine r_aloadN hC dX5_joined_15 rfl ?_
      refine r_ifnullN (tgt := 38) hC dX5_joined_17 rfl ?_
      refine r_ldc hC dX5_joined_38 co_RX5_175 rfl ?_
      refine y_iret hK rfl dX5_joined_40 ?_
      have hR : jnR σ l o w = (-2147483648) := by
        exact if_neg (by unfold lkC2 lwC opV; omega)
      rw [hR] at k
      exact k _ (fun _ _ _ _ => rfl) hI
    · refine r_astoreN hC dX5_joined_13 rfl ?_
      refine r_aloadN hC dX5_joined_15 rfl ?_
      refine r_ifnullN (tgt := 38) hC dX5_joined_17 rfl ?_
      refine r_ldc hC dX5_joined_38 co_RX5_175 rfl ?_
      refine y_iret hK rfl dX5_joined_40 ?_
      have hR : jnR σ l o w = (-2147483648) := by
        exact if_neg (by unfold lkC2 lwC opV; omega)
      rw [hR] at k
      exact k _ (fun _ _ _ _ => rfl) hI
theorem x_joined {eb : Bool} {d : Nat} {P : Option Vl → Mm → Prop} {σ : Mm} {l o w : Int} (hG : GI σ) (k : P (some (vI (jnR σ l o w))) σ) : WT (true, false, eb) (d + 5) 86 [vR 2 0, vI l, vI o, vI w] σ P := WT_fold fun ρ e hI => x_joined_S hI (hG.fo e) (fun ρ2 gq hI2 => ⟨hI2, σ, by
    have hc : jnR ρ l o w = jnR σ l o w := by (delta jnR jnU lkC2 lwC opV; simp only [e 7 (by decide), e 8 (by decide), e 9 (by decide), e 15 (by decide), e 16 (by decide)])
    rw [hc]
    exact k, fun c x y hc => (gq c x y hc).trans (by rw [e c hc])⟩)
theorem x_comesToWithout_S {eb : Bool} {d : Nat} {P : Option Vl → Mm → Prop} {σ : Mm} {l x w : Int} (b_l : 0 ≤ l ∧ l ≤ 3) (b_x : 0 ≤ x ∧ x ≤ 119) (hI : InF σ) (hG : GI σ) (hx : x < σ 7 l 6)  (k : ∀ ρ : Mm, (∀ (c : Nat) (x y : Int), ¬ Fo c → ρ c x y = σ c x y) → InF ρ → P (some (vI (woV σ l x w))) ρ) : WT (true, true, eb) (d + 5) 133 [vR 2 0, vR 7 l, vI x, vI w] σ P := by
  refine WT_in fun K hK => ?_
  have hK : StpY (true, true, eb) cX5_comesToWithout RX5 (some .int) (WT (true, true, eb) (d + 4)) P K := hK
  have hM := hK.1
  have hC := hK.1.1
  show K 0 [some (vR 2 0), some (vR 7 l), some (vI x), some (vI w), none] [] σ
  refine z_ok hM (fun hok => ?_)
  refine r_rngz hC (fun g0 => ?_)
  have r_w : -2147483648 ≤ w ∧ w ≤ 2147483647 := inR_le (g0 (vI w) (by simp))
  have hcl := hG.2.1.2.2.2.2.2.2.2
  have hrow := hG.2.1.2.2.1
  have h6_0 := hG.1.h7 (l := l) (by omega) (by omega)
  have hO_0 := (hG.2.1.2.2.2.1 l (by omega) (by omega)).2
  refine r_aload_n hC dX5_comesToWithout_0 rfl ?_
  refine r_aload_n hC dX5_comesToWithout_1 rfl ?_
  refine r_iconst hC dX5_comesToWithout_2 rfl ?_
  refine r_iload_n hC dX5_comesToWithout_3 rfl ?_
  refine z_inv3 hM dX5_comesToWithout_4 vl_RX5_259 rfl rfl rfl (Nat.le_of_ble_eq_true rfl) (Nat.le_of_ble_eq_true rfl) ?_
  refine x_foldPart (i := l) (f := 0) (z := x) (by omega) (by omega) (by omega) (fun ρ1 g_ρ1 r_ρ1 => ?_)
  have t_ρ1 : ∀ (c : Nat) (p q : Int), ¬ Fo c → ρ1 c p q = σ c p q := fun c p q hc => (g_ρ1 c p q (by omega)).trans ((fun _ _ _ _ => rfl) c p q hc)
  refine r_iload_n hC dX5_comesToWithout_7 rfl ?_
  refine r_iconst hC dX5_comesToWithout_8 rfl ?_
  refine r_iaddE hC ((x + 1)) dX5_comesToWithout_9 (by omega) (by unfold inR; omega) ?_
  refine r_istore hC dX5_comesToWithout_10 rfl ?_
  have L12 : ∀ (n12 : Nat) (w2 : Int) (ρ3 : Mm), 1 ≤ w2 ∧ w2 ≤ 121 → ((w2) ≤ σ 7 l 6) → (x + 1 ≤ (w2)) → 121 - w2 < (n12 : Int) → (∀ (c : Nat) (p q : Int), ¬ Fo c → ρ3 c p q = σ c p q) → (FRc ρ3 (σ 7 l 2) (woU σ l x) ((w2 - 1).toNat)) → K 12 [some (vR 2 0), some (vR 7 l), some (vI x), some (vI w), some (vI w2)] [] ρ3 := by
    intro n12
    induction n12 with
    | zero => intro w2 ρ3 f_w2 i0_12 i1_12 hm  m0_12 m1_12; omega
    | succ n12 ih12 =>
      intro w2 ρ3 f_w2 i0_12 i1_12 hm12  m0_12 m1_12
      refine r_iload hC dX5_comesToWithout_12 rfl ?_
      refine r_aload_n hC dX5_comesToWithout_14 rfl ?_
      refine z_getI (jz := 6) hM dX5_comesToWithout_15 fl_RX5_154 rfl rfl rfl (fun v4 h_v4 o_v4 t_v4 => ?_)
      have w_v4 := ((t_v4 (Or.inl (by simp [Tb]))).trans (m0_12 7 l 6 (by decide))).symm
      subst w_v4
      have q_v4 : 0 ≤ (σ 7 l 6) ∧ (σ 7 l 6) ≤ 121 := o_v4.1 rfl
      refine r_icmp_ge (tgt := 41) hC dX5_comesToWithout_18 rfl (fun h5 => ?_) (fun h5 => ?_)
      · refine r_aload_n hC dX5_comesToWithout_41 rfl ?_
        refine z_getR hM dX5_comesToWithout_42 fl_RX5_40 rfl rfl (vld_of (n := 1) rfl (by omega) (by omega)) ?_
        refine r_iload_n hC dX5_comesToWithout_45 rfl ?_
        refine z_inv1 hM dX5_comesToWithout_46 vl_RX5_273 rfl rfl rfl (Nat.le_of_ble_eq_true rfl) (Nat.le_of_ble_eq_true rfl) ?_
        refine x_number (n := (w2 - 1).toNat) (by omega) m1_12.1 m1_12.2.1 (by omega) m1_12 ?_
        rw [show ρ3 16 0 = σ 16 0 from funext fun y => m0_12 16 0 y (by decide), show ρ3 15 0 = σ 15 0 from funext fun y => m0_12 15 0 y (by decide)]
        refine y_iret hK rfl dX5_comesToWithout_49 ?_
        have hR : woV σ l x w = (cm (σ 16 0) (σ 15 0) (σ 7 l 2) (woU σ l x) (w2 - 1).toNat w) := by
          unfold woV
          rw [show (σ 7 l 6 - 1).toNat = (w2 - 1).toNat from by omega]
        rw [hR] at k
        exact k _ (m0_12) (FRc.inF m1_12 (fun j h0 h1 => by rw [m0_12 15 0 j (by decide)]; exact hcl j h0 h1))
      · refine r_aload_n hC dX5_comesToWithout_21 rfl ?_
        refine z_getR hM dX5_comesToWithout_22 fl_RX5_40 rfl rfl (vld_of (n := 1) rfl (by omega) (by omega)) ?_
        refine r_aload_n hC dX5_comesToWithout_25 rfl ?_
        refine z_getR hM dX5_comesToWithout_26 fl_RX5_176 rfl rfl (vld_of (n := 7) rfl (by omega) (by omega)) ?_
        refine r_iload hC dX5_comesToWithout_29 rfl ?_
        refine z_iald hM dX5_comesToWithout_31 rfl (by omega) (by omega) (fun v6 h_v6 o_v6 t_v6 => ?_)
        have w_v6 := ((t_v6 (Or.inl (by simp [Tb]))).trans (m0_12 9 l w2 (by decide))).symm
        subst w_v6
        have q_v6 : -1000 ≤ (σ 9 l w2) ∧ (σ 9 l w2) ≤ 1000 := o_v6
        refine z_inv1 hM dX5_comesToWithout_32 vl_RX5_253 rfl rfl rfl (Nat.le_of_ble_eq_true rfl) (Nat.le_of_ble_eq_true rfl) ?_
        refine x_append2 (u := (woU σ l x)) (n := (w2 - 1).toNat) (by show (σ 9 l w2) = woU σ l x (((w2 - 1).toNat : Nat) : Int); unfold woU; rw [if_neg (by omega)]; exact congrArg (σ 9 l) (by omega)) (by omega) (by omega) (by omega) (fun j h0 h1 => by unfold woU; split; exact (hrow l j (by omega) (by omega) (by omega) (by omega)).2; exact (hrow l (j + 1) (by omega) (by omega) (by omega) (by omega)).2) m1_12 (fun j h0 h1 => by rw [m0_12 15 0 j (by decide)]; exact hcl j h0 h1) (fun ρ7 g_ρ7 r_ρ7 => ?_)
        have t_ρ7 : ∀ (c : Nat) (p q : Int), ¬ Fo c → ρ7 c p q = σ c p q := fun c p q hc => (g_ρ7 c p q (by omega)).trans (m0_12 c p q hc)
        refine r_iincE hC ((w2 + 1)) dX5_comesToWithout_35 rfl rfl (by omega) (by unfold inR; omega) ?_
        refine r_goto (tgt := 12) hC dX5_comesToWithout_38 rfl ?_
        exact ih12 ((w2 + 1)) ρ7 (by omega) (by omega) (by omega) (by omega)  (t_ρ7) (by rw [show ((((w2 + 1) - 1 : Int)).toNat : Nat) = ((w2 - 1).toNat + 1) from by omega]; exact r_ρ7)
  exact L12 123 ((x + 1)) ρ1 (by omega) (by omega) (by omega) (by omega)  (t_ρ1) (by rw [show (x + 1 - 1).toNat = (x - 0).toNat from by omega]; exact r_ρ1.cg (fun j a b => by show woU σ l x j = σ 9 l (0 + j); unfold woU; rw [if_pos (by omega), Int.zero_add]))
theorem x_comesToWithout {eb : Bool} {d : Nat} {P : Option Vl → Mm → Prop} {σ : Mm} {x w l : Int} (b_l : 0 ≤ l ∧ l ≤ 3) (b_x : 0 ≤ x ∧ x ≤ 119) (hx : x < σ 7 l 6) (hG : GI σ) (k : P (some (vI (woV σ l x w))) σ) : WT (true, false, eb) (d + 5) 133 [vR 2 0, vR 7 l, vI x, vI w] σ P := WT_fold fun ρ e hI => x_comesToWithout_S b_l b_x hI (hG.fo e) (by rw [e 7 (by decide)]; exact hx) (fun ρ2 gq hI2 => ⟨hI2, σ, by
    have hc : woV ρ l x w = woV σ l x w := by (delta woV woU; simp only [e 7 (by decide), e 8 (by decide), e 9 (by decide), e 15 (by decide), e 16 (by decide)])
    rw [hc]
    exact k, fun c x y hc => (gq c x y hc).trans (by rw [e c hc])⟩)
