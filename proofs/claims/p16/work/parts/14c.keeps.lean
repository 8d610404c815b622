-- B: the reference: ties, LINKS, WATCHES, TABLE, LETTERS
theorem y_endWatches {eb : Bool} {t : Int} {V : Mm} {d : Nat} {P : Option Vl → Mm → Prop} {σ : Mm} {l : Int} (b_l : 0 ≤ l ∧ l ≤ 3) {σ0 : Mm} (ht : 6 ≤ t ∧ t ≤ 7) (hR : RS t σ0 V σ)  (k : ∀ ρ : Mm, RS t σ0 (etA V l 8) ρ → P none ρ) : WT (true, eb, true) (d + 1) 182 [vR 30 0, vI l] σ P := by
  refine WT_in fun K hK => ?_
  have hK : StpY (true, eb, true) cX6_endWatches RX6 (none) (WT (true, eb, true) (d + 0)) P K := hK
  have hM := hK.1
  have hC := hK.1.1
  show K 0 [some (vR 30 0), some (vI l), none] [] σ
  refine r_iconst hC dX6_endWatches_0 rfl ?_
  refine r_istore_n hC dX6_endWatches_1 rfl ?_
  have L2 : ∀ (n2 : Nat) (w1 : Int) (ρ2 W2 : Mm), 0 ≤ w1 ∧ w1 ≤ 8 → 8 - w1 < (n2 : Int) → (RS t σ0 W2 ρ2) → (W2 = etA V l (w1)) → K 2 [some (vR 30 0), some (vI l), some (vI w1)] [] ρ2 := by
    intro n2
    induction n2 with
    | zero => intro w1 ρ2 W2 f_w1  hm  m0_2 m1_2; omega
    | succ n2 ih2 =>
      intro w1 ρ2 W2 f_w1  hm2  m0_2 m1_2
      refine r_iload_n hC dX6_endWatches_2 rfl ?_
      refine r_bipush hC dX6_endWatches_3 rfl ?_
      refine r_icmp_ge (tgt := 31) hC dX6_endWatches_5 rfl (fun h3 => ?_) (fun h3 => ?_)
      · refine y_vret hK rfl dX6_endWatches_31 ?_
        have q := m0_2
        rw [m1_2, show w1 = (8 : Int) from by omega] at q
        exact k _ q
      · have e12 : W2 12 w1 0 = V 12 w1 0 := by rw [m1_2]; exact etA_up (by first | assumption | decide | exact xs_ (by decide) | exact xc_ (by decide) | exact x31_ (by decide) | omega)
        refine r_aload_n hC dX6_endWatches_8 rfl ?_
        refine z_getR hM dX6_endWatches_9 fl_RX6_34 rfl rfl (vld_of (n := 1) rfl (by first | assumption | decide | exact xs_ (by decide) | exact xc_ (by decide) | exact x31_ (by decide) | omega) (by first | assumption | decide | exact xs_ (by decide) | exact xc_ (by decide) | exact x31_ (by decide) | omega)) ?_
        refine r_iload_n hC dX6_endWatches_12 rfl ?_
        refine z_iald hM dX6_endWatches_13 rfl (by first | assumption | decide | exact xs_ (by decide) | exact xc_ (by decide) | exact x31_ (by decide) | omega) (by first | assumption | decide | exact xs_ (by decide) | exact xc_ (by decide) | exact x31_ (by decide) | omega) (fun v4 h_v4 o_v4 t_v4 => ?_)
        have w_v4 := ((t_v4 (Or.inl (by simp [Tb]))).trans ((m0_2.1.w0 (by first | assumption | decide | exact xs_ (by decide) | exact xc_ (by decide) | exact x31_ (by decide) | omega) (by first | assumption | decide | exact xs_ (by decide) | exact xc_ (by decide) | exact x31_ (by decide) | omega)).trans (rfl))).symm
        subst w_v4
        refine r_iload_n hC dX6_endWatches_14 rfl ?_
        refine r_icmp_ne (tgt := 25) hC dX6_endWatches_15 rfl (fun h5 => ?_) (fun h5 => ?_)
        · refine r_iincE hC ((w1 + 1)) dX6_endWatches_25 rfl rfl (by first | assumption | decide | exact xs_ (by decide) | exact xc_ (by decide) | exact x31_ (by decide) | omega) (by unfold inR; omega) ?_
          refine r_goto (tgt := 2) hC dX6_endWatches_28 rfl ?_
          exact ih2 ((w1 + 1)) ρ2 W2 (by first | assumption | decide | exact xs_ (by decide) | exact xc_ (by decide) | exact x31_ (by decide) | omega)  (by first | assumption | decide | exact xs_ (by decide) | exact xc_ (by decide) | exact x31_ (by decide) | omega)  (⟨m0_2.1, m0_2.2.1, m0_2.2.2⟩) (by rw [etA_no (by first | assumption | decide | exact xs_ (by decide) | exact xc_ (by decide) | exact x31_ (by decide) | omega)]; exact m1_2)
        · refine r_aload_n hC dX6_endWatches_18 rfl ?_
          refine z_getR hM dX6_endWatches_19 fl_RX6_34 rfl rfl (vld_of (n := 1) rfl (by first | assumption | decide | exact xs_ (by decide) | exact xc_ (by decide) | exact x31_ (by decide) | omega) (by first | assumption | decide | exact xs_ (by decide) | exact xc_ (by decide) | exact x31_ (by decide) | omega)) ?_
          refine r_iload_n hC dX6_endWatches_22 rfl ?_
          refine r_iconst hC dX6_endWatches_23 rfl ?_
          refine z_iastT hM dX6_endWatches_24 rfl (by first | assumption | decide | exact xs_ (by decide) | exact xc_ (by decide) | exact x31_ (by decide) | omega) (by first | assumption | decide | exact xs_ (by decide) | exact xc_ (by decide) | exact x31_ (by decide) | omega) ⟨Or.inr (by simp [DL]), Or.inr (by simp [DF])⟩ (by first | trivial | (simp only [Okv]; omega) | (simp [Okv]; try omega)) ?_
          obtain ⟨ρ6, e_ρ6⟩ : ∃ zz_, zz_ = mu ρ2 39 0 w1 (-1) := ⟨_, rfl⟩
          rw [← e_ρ6]
          have Sρ6 : SB t σ0 (mu W2 12 w1 0 (-1)) ρ6 := by rw [e_ρ6]; exact m0_2.1.pw0 (by first | assumption | decide | exact xs_ (by decide) | exact xc_ (by decide) | exact x31_ (by decide) | omega) (by first | assumption | decide | exact xs_ (by decide) | exact xc_ (by decide) | exact x31_ (by decide) | omega)
          have Kρ6 : KF t (mu W2 12 w1 0 (-1)) ρ6 := by rw [e_ρ6]; exact (m0_2.2.1).e (fun l a b => ⟨mu_ne (by first | assumption | decide | exact xs_ (by decide) | exact xc_ (by decide) | exact x31_ (by decide) | omega), mu_ne (by first | assumption | decide | exact xs_ (by decide) | exact xc_ (by decide) | exact x31_ (by decide) | omega)⟩) |>.v (fun l => mu_ne (by first | assumption | decide | exact xs_ (by decide) | exact xc_ (by decide) | exact x31_ (by decide) | omega))
          have Fρ6 : FB (mu W2 12 w1 0 (-1)) ρ6 := by rw [e_ρ6]; exact (m0_2.2.2).e (fun l a b => mu_ne (by first | assumption | decide | exact xs_ (by decide) | exact xc_ (by decide) | exact x31_ (by decide) | omega)) |>.v (fun l y a b c => mu_ne (by first | assumption | decide | exact xs_ (by decide) | exact xc_ (by decide) | exact x31_ (by decide) | omega))
          refine r_iincE hC ((w1 + 1)) dX6_endWatches_25 rfl rfl (by first | assumption | decide | exact xs_ (by decide) | exact xc_ (by decide) | exact x31_ (by decide) | omega) (by unfold inR; omega) ?_
          refine r_goto (tgt := 2) hC dX6_endWatches_28 rfl ?_
          exact ih2 ((w1 + 1)) ρ6 (mu W2 12 w1 0 (-1)) (by first | assumption | decide | exact xs_ (by decide) | exact xc_ (by decide) | exact x31_ (by decide) | omega)  (by first | assumption | decide | exact xs_ (by decide) | exact xc_ (by decide) | exact x31_ (by decide) | omega)  (⟨Sρ6, Kρ6, Fρ6⟩) (by rw [← etA_yes (by first | assumption | decide | exact xs_ (by decide) | exact xc_ (by decide) | exact x31_ (by decide) | omega) (by first | assumption | decide | exact xs_ (by decide) | exact xc_ (by decide) | exact x31_ (by decide) | omega), ← m1_2])
  exact L2 10 (0) σ V (by first | assumption | decide | exact xs_ (by decide) | exact xc_ (by decide) | exact x31_ (by decide) | omega)  (by first | assumption | decide | exact xs_ (by decide) | exact xc_ (by decide) | exact x31_ (by decide) | omega)  (⟨hR.1, hR.2.1, hR.2.2⟩) (etA_0.symm)
theorem y_endLinks {eb : Bool} {t : Int} {V : Mm} {d : Nat} {P : Option Vl → Mm → Prop} {σ : Mm} {l : Int} (b_l : 0 ≤ l ∧ l ≤ 3) {σ0 : Mm} (ht : 6 ≤ t ∧ t ≤ 7) (hR : RS t σ0 V σ)  (k : ∀ ρ : Mm, RS t σ0 (etB V l 4) ρ → P none ρ) : WT (true, eb, true) (d + 1) 198 [vR 30 0, vI l] σ P := by
  refine WT_in fun K hK => ?_
  have hK : StpY (true, eb, true) cX6_endLinks RX6 (none) (WT (true, eb, true) (d + 0)) P K := hK
  have hM := hK.1
  have hC := hK.1.1
  show K 0 [some (vR 30 0), some (vI l), none] [] σ
  refine r_aload_n hC dX6_endLinks_0 rfl ?_
  refine z_getR hM dX6_endLinks_1 fl_RX6_52 rfl rfl (vld_of (n := 1) rfl (by first | assumption | decide | exact xs_ (by decide) | exact xc_ (by decide) | exact x31_ (by decide) | omega) (by first | assumption | decide | exact xs_ (by decide) | exact xc_ (by decide) | exact x31_ (by decide) | omega)) ?_
  refine r_iload_n hC dX6_endLinks_4 rfl ?_
  refine r_iconst hC dX6_endLinks_5 rfl ?_
  refine z_iastT hM dX6_endLinks_6 rfl (by first | assumption | decide | exact xs_ (by decide) | exact xc_ (by decide) | exact x31_ (by decide) | omega) (by first | assumption | decide | exact xs_ (by decide) | exact xc_ (by decide) | exact x31_ (by decide) | omega) ⟨Or.inr (by simp [DL]), Or.inr (by simp [DF])⟩ (by first | trivial | (simp only [Okv]; omega) | (simp [Okv]; try omega)) ?_
  obtain ⟨ρ1, e_ρ1⟩ : ∃ zz_, zz_ = mu σ 45 0 l (-1) := ⟨_, rfl⟩
  rw [← e_ρ1]
  have Sρ1 : SB t σ0 (mu V 13 l 0 (-1)) ρ1 := by rw [e_ρ1]; exact hR.1.pk0 (by first | assumption | decide | exact xs_ (by decide) | exact xc_ (by decide) | exact x31_ (by decide) | omega) (by first | assumption | decide | exact xs_ (by decide) | exact xc_ (by decide) | exact x31_ (by decide) | omega)
  have Kρ1 : KF t (mu V 13 l 0 (-1)) ρ1 := by rw [e_ρ1]; exact (hR.2.1).e (fun l a b => ⟨mu_ne (by first | assumption | decide | exact xs_ (by decide) | exact xc_ (by decide) | exact x31_ (by decide) | omega), mu_ne (by first | assumption | decide | exact xs_ (by decide) | exact xc_ (by decide) | exact x31_ (by decide) | omega)⟩) |>.v (fun l => mu_ne (by first | assumption | decide | exact xs_ (by decide) | exact xc_ (by decide) | exact x31_ (by decide) | omega))
  have Fρ1 : FB (mu V 13 l 0 (-1)) ρ1 := by rw [e_ρ1]; exact (hR.2.2).e (fun l a b => mu_ne (by first | assumption | decide | exact xs_ (by decide) | exact xc_ (by decide) | exact x31_ (by decide) | omega)) |>.v (fun l y a b c => mu_ne (by first | assumption | decide | exact xs_ (by decide) | exact xc_ (by decide) | exact x31_ (by decide) | omega))
  refine r_iconst hC dX6_endLinks_7 rfl ?_
  refine r_istore_n hC dX6_endLinks_8 rfl ?_
  have L9 : ∀ (n9 : Nat) (w2 : Int) (ρ3 W3 : Mm), 0 ≤ w2 ∧ w2 ≤ 4 → 4 - w2 < (n9 : Int) → (RS t σ0 W3 ρ3) → (W3 = etC V l (w2)) → K 9 [some (vR 30 0), some (vI l), some (vI w2)] [] ρ3 := by
    intro n9
    induction n9 with
    | zero => intro w2 ρ3 W3 f_w2  hm  m0_9 m1_9; omega
    | succ n9 ih9 =>
      intro w2 ρ3 W3 f_w2  hm9  m0_9 m1_9
      refine r_iload_n hC dX6_endLinks_9 rfl ?_
      refine r_iconst hC dX6_endLinks_10 rfl ?_
      refine r_icmp_ge (tgt := 37) hC dX6_endLinks_11 rfl (fun h4 => ?_) (fun h4 => ?_)
      · refine y_vret hK rfl dX6_endLinks_37 ?_
        have q := m0_9
        rw [m1_9, show w2 = (4 : Int) from by omega, etC_4] at q
        exact k _ q
      · refine r_aload_n hC dX6_endLinks_14 rfl ?_
        refine z_getR hM dX6_endLinks_15 fl_RX6_52 rfl rfl (vld_of (n := 1) rfl (by first | assumption | decide | exact xs_ (by decide) | exact xc_ (by decide) | exact x31_ (by decide) | omega) (by first | assumption | decide | exact xs_ (by decide) | exact xc_ (by decide) | exact x31_ (by decide) | omega)) ?_
        refine r_iload_n hC dX6_endLinks_18 rfl ?_
        refine z_iald hM dX6_endLinks_19 rfl (by first | assumption | decide | exact xs_ (by decide) | exact xc_ (by decide) | exact x31_ (by decide) | omega) (by first | assumption | decide | exact xs_ (by decide) | exact xc_ (by decide) | exact x31_ (by decide) | omega) (fun v5 h_v5 o_v5 t_v5 => ?_)
        have w_v5 := ((t_v5 (Or.inl (by simp [Tb]))).trans ((m0_9.1.k0 (by first | assumption | decide | exact xs_ (by decide) | exact xc_ (by decide) | exact x31_ (by decide) | omega) (by first | assumption | decide | exact xs_ (by decide) | exact xc_ (by decide) | exact x31_ (by decide) | omega)).trans (rfl))).symm
        subst w_v5
        have q_v5 : -1 ≤ (W3 13 w2 0) ∧ (W3 13 w2 0) ≤ 3 := o_v5
        refine r_iload_n hC dX6_endLinks_20 rfl ?_
        refine r_icmp_ne (tgt := 31) hC dX6_endLinks_21 rfl (fun h6 => ?_) (fun h6 => ?_)
        · refine r_iincE hC ((w2 + 1)) dX6_endLinks_31 rfl rfl (by first | assumption | decide | exact xs_ (by decide) | exact xc_ (by decide) | exact x31_ (by decide) | omega) (by unfold inR; omega) ?_
          refine r_goto (tgt := 9) hC dX6_endLinks_34 rfl ?_
          exact ih9 ((w2 + 1)) ρ3 W3 (by first | assumption | decide | exact xs_ (by decide) | exact xc_ (by decide) | exact x31_ (by decide) | omega)  (by first | assumption | decide | exact xs_ (by decide) | exact xc_ (by decide) | exact x31_ (by decide) | omega)  (⟨m0_9.1, m0_9.2.1, m0_9.2.2⟩) (by rw [etC_no (by rw [← m1_9]; omega)]; exact m1_9)
        · refine r_aload_n hC dX6_endLinks_24 rfl ?_
          refine z_getR hM dX6_endLinks_25 fl_RX6_52 rfl rfl (vld_of (n := 1) rfl (by first | assumption | decide | exact xs_ (by decide) | exact xc_ (by decide) | exact x31_ (by decide) | omega) (by first | assumption | decide | exact xs_ (by decide) | exact xc_ (by decide) | exact x31_ (by decide) | omega)) ?_
          refine r_iload_n hC dX6_endLinks_28 rfl ?_
          refine r_iconst hC dX6_endLinks_29 rfl ?_
          refine z_iastT hM dX6_endLinks_30 rfl (by first | assumption | decide | exact xs_ (by decide) | exact xc_ (by decide) | exact x31_ (by decide) | omega) (by first | assumption | decide | exact xs_ (by decide) | exact xc_ (by decide) | exact x31_ (by decide) | omega) ⟨Or.inr (by simp [DL]), Or.inr (by simp [DF])⟩ (by first | trivial | (simp only [Okv]; omega) | (simp [Okv]; try omega)) ?_
          obtain ⟨ρ7, e_ρ7⟩ : ∃ zz_, zz_ = mu ρ3 45 0 w2 (-1) := ⟨_, rfl⟩
          rw [← e_ρ7]
          have Sρ7 : SB t σ0 (mu W3 13 w2 0 (-1)) ρ7 := by rw [e_ρ7]; exact m0_9.1.pk0 (by first | assumption | decide | exact xs_ (by decide) | exact xc_ (by decide) | exact x31_ (by decide) | omega) (by first | assumption | decide | exact xs_ (by decide) | exact xc_ (by decide) | exact x31_ (by decide) | omega)
          have Kρ7 : KF t (mu W3 13 w2 0 (-1)) ρ7 := by rw [e_ρ7]; exact (m0_9.2.1).e (fun l a b => ⟨mu_ne (by first | assumption | decide | exact xs_ (by decide) | exact xc_ (by decide) | exact x31_ (by decide) | omega), mu_ne (by first | assumption | decide | exact xs_ (by decide) | exact xc_ (by decide) | exact x31_ (by decide) | omega)⟩) |>.v (fun l => mu_ne (by first | assumption | decide | exact xs_ (by decide) | exact xc_ (by decide) | exact x31_ (by decide) | omega))
          have Fρ7 : FB (mu W3 13 w2 0 (-1)) ρ7 := by rw [e_ρ7]; exact (m0_9.2.2).e (fun l a b => mu_ne (by first | assumption | decide | exact xs_ (by decide) | exact xc_ (by decide) | exact x31_ (by decide) | omega)) |>.v (fun l y a b c => mu_ne (by first | assumption | decide | exact xs_ (by decide) | exact xc_ (by decide) | exact x31_ (by decide) | omega))
          refine r_iincE hC ((w2 + 1)) dX6_endLinks_31 rfl rfl (by first | assumption | decide | exact xs_ (by decide) | exact xc_ (by decide) | exact x31_ (by decide) | omega) (by unfold inR; omega) ?_
          refine r_goto (tgt := 9) hC dX6_endLinks_34 rfl ?_
          exact ih9 ((w2 + 1)) ρ7 (mu W3 13 w2 0 (-1)) (by first | assumption | decide | exact xs_ (by decide) | exact xc_ (by decide) | exact x31_ (by decide) | omega)  (by first | assumption | decide | exact xs_ (by decide) | exact xc_ (by decide) | exact x31_ (by decide) | omega)  (⟨Sρ7, Kρ7, Fρ7⟩) (by rw [← etC_yes (by first | assumption | decide | exact xs_ (by decide) | exact xc_ (by decide) | exact x31_ (by decide) | omega) (by first | assumption | decide | exact xs_ (by decide) | exact xc_ (by decide) | exact x31_ (by decide) | omega) (by first | assumption | decide | exact xs_ (by decide) | exact xc_ (by decide) | exact x31_ (by decide) | omega) (by rw [← m1_9]; omega), ← m1_9])
  exact L9 6 (0) ρ1 (mu V 13 l 0 (-1)) (by first | assumption | decide | exact xs_ (by decide) | exact xc_ (by decide) | exact x31_ (by decide) | omega)  (by first | assumption | decide | exact xs_ (by decide) | exact xc_ (by decide) | exact x31_ (by decide) | omega)  (⟨Sρ1, Kρ1, Fρ1⟩) (etC_0 (by first | assumption | decide | exact xs_ (by decide) | exact xc_ (by decide) | exact x31_ (by decide) | omega) (by first | assumption | decide | exact xs_ (by decide) | exact xc_ (by decide) | exact x31_ (by decide) | omega))
theorem y_howMany {e : Ev} {d : Nat} {P : Option Vl → Mm → Prop} {σ : Mm} {o : Int} (b_o : 0 ≤ o ∧ o ≤ 9)  (k : P (some (vI (numF o))) σ) : WT e (d + 1) 156 [vI o] σ P := by
  refine WT_in fun K hK => ?_
  have hK : StpY e cX6_howMany RX6 (some .int) (WT e (d + 0)) P K := hK
  have hM := hK.1
  have hC := hK.1.1
  show K 0 [some (vI o)] [] σ
  refine r_iload_n hC dX6_howMany_0 rfl ?_
  rcases (by omega : (o < 0 ∨ 8 < o) ∨ o = 0 ∨ o = 1 ∨ o = 2 ∨ o = 3 ∨ o = 4 ∨ o = 5 ∨ o = 6 ∨ o = 7 ∨ o = 8) with h1 | h1 | h1 | h1 | h1 | h1 | h1 | h1 | h1 | h1
  · refine r_tableOut (tgt := 71) hC dX6_howMany_1 h1 rfl ?_
    refine r_iconst hC dX6_howMany_71 rfl ?_
    refine y_iret hK rfl dX6_howMany_72 ?_
    rcases (by omega : o = 0 ∨ o = 1 ∨ o = 2 ∨ o = 3 ∨ o = 4 ∨ o = 5 ∨ o = 6 ∨ o = 7 ∨ o = 8 ∨ o = 9) with rfl | rfl | rfl | rfl | rfl | rfl | rfl | rfl | rfl | rfl <;> first | exact k | (exfalso; omega)
  · refine r_tableIn (tgt := 52) (off := 51) hC dX6_howMany_1 (by first | assumption | decide | exact xs_ (by decide) | exact xc_ (by decide) | exact x31_ (by decide) | omega) (by first | assumption | decide | exact xs_ (by decide) | exact xc_ (by decide) | exact x31_ (by decide) | omega) (by rw [h1]; rfl) rfl ?_
    refine r_iconst hC dX6_howMany_52 rfl ?_
    refine y_iret hK rfl dX6_howMany_53 ?_
    rcases (by omega : o = 0 ∨ o = 1 ∨ o = 2 ∨ o = 3 ∨ o = 4 ∨ o = 5 ∨ o = 6 ∨ o = 7 ∨ o = 8 ∨ o = 9) with rfl | rfl | rfl | rfl | rfl | rfl | rfl | rfl | rfl | rfl <;> first | exact k | (exfalso; omega)
  · refine r_tableIn (tgt := 54) (off := 53) hC dX6_howMany_1 (by first | assumption | decide | exact xs_ (by decide) | exact xc_ (by decide) | exact x31_ (by decide) | omega) (by first | assumption | decide | exact xs_ (by decide) | exact xc_ (by decide) | exact x31_ (by decide) | omega) (by rw [h1]; rfl) rfl ?_
    refine r_iconst hC dX6_howMany_54 rfl ?_
    refine y_iret hK rfl dX6_howMany_55 ?_
    rcases (by omega : o = 0 ∨ o = 1 ∨ o = 2 ∨ o = 3 ∨ o = 4 ∨ o = 5 ∨ o = 6 ∨ o = 7 ∨ o = 8 ∨ o = 9) with rfl | rfl | rfl | rfl | rfl | rfl | rfl | rfl | rfl | rfl <;> first | exact k | (exfalso; omega)
  · refine r_tableIn (tgt := 56) (off := 55) hC dX6_howMany_1 (by first | assumption | decide | exact xs_ (by decide) | exact xc_ (by decide) | exact x31_ (by decide) | omega) (by first | assumption | decide | exact xs_ (by decide) | exact xc_ (by decide) | exact x31_ (by decide) | omega) (by rw [h1]; rfl) rfl ?_
    refine r_iconst hC dX6_howMany_56 rfl ?_
    refine y_iret hK rfl dX6_howMany_57 ?_
    rcases (by omega : o = 0 ∨ o = 1 ∨ o = 2 ∨ o = 3 ∨ o = 4 ∨ o = 5 ∨ o = 6 ∨ o = 7 ∨ o = 8 ∨ o = 9) with rfl | rfl | rfl | rfl | rfl | rfl | rfl | rfl | rfl | rfl <;> first | exact k | (exfalso; omega)
  · refine r_tableIn (tgt := 58) (off := 57) hC dX6_howMany_1 (by first | assumption | decide | exact xs_ (by decide) | exact xc_ (by decide) | exact x31_ (by decide) | omega) (by first | assumption | decide | exact xs_ (by decide) | exact xc_ (by decide) | exact x31_ (by decide) | omega) (by rw [h1]; rfl) rfl ?_
    refine r_iconst hC dX6_howMany_58 rfl ?_
    refine y_iret hK rfl dX6_howMany_59 ?_
    rcases (by omega : o = 0 ∨ o = 1 ∨ o = 2 ∨ o = 3 ∨ o = 4 ∨ o = 5 ∨ o = 6 ∨ o = 7 ∨ o = 8 ∨ o = 9) with rfl | rfl | rfl | rfl | rfl | rfl | rfl | rfl | rfl | rfl <;> first | exact k | (exfalso; omega)
  · refine r_tableIn (tgt := 60) (off := 59) hC dX6_howMany_1 (by first | assumption | decide | exact xs_ (by decide) | exact xc_ (by decide) | exact x31_ (by decide) | omega) (by first | assumption | decide | exact xs_ (by decide) | exact xc_ (by decide) | exact x31_ (by decide) | omega) (by rw [h1]; rfl) rfl ?_
    refine r_iconst hC dX6_howMany_60 rfl ?_
    refine y_iret hK rfl dX6_howMany_61 ?_
    rcases (by omega : o = 0 ∨ o = 1 ∨ o = 2 ∨ o = 3 ∨ o = 4 ∨ o = 5 ∨ o = 6 ∨ o = 7 ∨ o = 8 ∨ o = 9) with rfl | rfl | rfl | rfl | rfl | rfl | rfl | rfl | rfl | rfl <;> first | exact k | (exfalso; omega)
  · refine r_tableIn (tgt := 62) (off := 61) hC dX6_howMany_1 (by first | assumption | decide | exact xs_ (by decide) | exact xc_ (by decide) | exact x31_ (by decide) | omega) (by first | assumption | decide | exact xs_ (by decide) | exact xc_ (by decide) | exact x31_ (by decide) | omega) (by rw [h1]; rfl) rfl ?_
    refine r_iconst hC dX6_howMany_62 rfl ?_
    refine y_iret hK rfl dX6_howMany_63 ?_
    rcases (by omega : o = 0 ∨ o = 1 ∨ o = 2 ∨ o = 3 ∨ o = 4 ∨ o = 5 ∨ o = 6 ∨ o = 7 ∨ o = 8 ∨ o = 9) with rfl | rfl | rfl | rfl | rfl | rfl | rfl | rfl | rfl | rfl <;> first | exact k | (exfalso; omega)
  · refine r_tableIn (tgt := 64) (off := 63) hC dX6_howMany_1 (by first | assumption | decide | exact xs_ (by decide) | exact xc_ (by decide) | exact x31_ (by decide) | omega) (by first | assumption | decide | exact xs_ (by decide) | exact xc_ (by decide) | exact x31_ (by decide) | omega) (by rw [h1]; rfl) rfl ?_
    refine r_bipush hC dX6_howMany_64 rfl ?_
    refine y_iret hK rfl dX6_howMany_66 ?_
    rcases (by omega : o = 0 ∨ o = 1 ∨ o = 2 ∨ o = 3 ∨ o = 4 ∨ o = 5 ∨ o = 6 ∨ o = 7 ∨ o = 8 ∨ o = 9) with rfl | rfl | rfl | rfl | rfl | rfl | rfl | rfl | rfl | rfl <;> first | exact k | (exfalso; omega)
  · refine r_tableIn (tgt := 67) (off := 66) hC dX6_howMany_1 (by first | assumption | decide | exact xs_ (by decide) | exact xc_ (by decide) | exact x31_ (by decide) | omega) (by first | assumption | decide | exact xs_ (by decide) | exact xc_ (by decide) | exact x31_ (by decide) | omega) (by rw [h1]; rfl) rfl ?_
    refine r_iconst hC dX6_howMany_67 rfl ?_
    refine y_iret hK rfl dX6_howMany_68 ?_
    rcases (by omega : o = 0 ∨ o = 1 ∨ o = 2 ∨ o = 3 ∨ o = 4 ∨ o = 5 ∨ o = 6 ∨ o = 7 ∨ o = 8 ∨ o = 9) with rfl | rfl | rfl | rfl | rfl | rfl | rfl | rfl | rfl | rfl <;> first | exact k | (exfalso; omega)
  · refine r_tableIn (tgt := 69) (off := 68) hC dX6_howMany_1 (by first | assumption | decide | exact xs_ (by decide) | exact xc_ (by decide) | exact x31_ (by decide) | omega) (by first | assumption | decide | exact xs_ (by decide) | exact xc_ (by decide) | exact x31_ (by decide) | omega) (by rw [h1]; rfl) rfl ?_
    refine r_iconst hC dX6_howMany_69 rfl ?_
    refine y_iret hK rfl dX6_howMany_70 ?_
    rcases (by omega : o = 0 ∨ o = 1 ∨ o = 2 ∨ o = 3 ∨ o = 4 ∨ o = 5 ∨ o = 6 ∨ o = 7 ∨ o = 8 ∨ o = 9) with rfl | rfl | rfl | rfl | rfl | rfl | rfl | rfl | rfl | rfl <;> first | exact k | (exfalso; omega)
theorem y_isNumber {eb : Bool} {t : Int} {V : Mm} {d : Nat} {P : Option Vl → Mm → Prop} {σ : Mm} {l w : Int}  {σ0 : Mm} (ht : 6 ≤ t ∧ t ≤ 7) (hR : RS t σ0 V σ) (hO : ∀ l : Int, 0 ≤ l → l ≤ 6 → 0 ≤ V 7 l 2 ∧ V 7 l 2 ≤ 9)  (k1 : lwC V l w → P (some (vI 1)) σ) (k0 : ¬ lwC V l w → P (some (vI 0)) σ) : WT (true, eb, true) (d + 3) 157 [vR 30 0, vI l, vI w] σ P := by
  refine WT_in fun K hK => ?_
  have hK : StpY (true, eb, true) cX6_isNumber RX6 (some .boolean) (WT (true, eb, true) (d + 2)) P K := hK
  have hM := hK.1
  have hC := hK.1.1
  show K 0 [some (vR 30 0), some (vI l), some (vI w)] [] σ
  refine r_rngz hC (fun g0 => ?_)
  have r_l : -2147483648 ≤ l ∧ l ≤ 2147483647 := inR_le (g0 (vI l) (by simp))
  have r_w : -2147483648 ≤ w ∧ w ≤ 2147483647 := inR_le (g0 (vI w) (by simp))
  refine r_aload_n hC dX6_isNumber_0 rfl ?_
  refine r_iload_n hC dX6_isNumber_1 rfl ?_
  refine z_inv1 hM dX6_isNumber_2 vl_RX6_124 rfl rfl rfl (Nat.le_of_ble_eq_true rfl) (Nat.le_of_ble_eq_true rfl) ?_
  refine y_isLane (V := V) ht ⟨hR.1, hR.2.1, hR.2.2⟩ (fun h1 => ?_) (fun h1 => ?_)
  · unfold opV at h1
    refine r_if_eq (tgt := 31) hC dX6_isNumber_5 rfl (fun h2 => by omega) (fun h2 => ?_)
    have hop := hO l (by first | assumption | decide | exact xs_ (by decide) | exact xc_ (by decide) | exact x31_ (by decide) | omega) (by first | assumption | decide | exact xs_ (by decide) | exact xc_ (by decide) | exact x31_ (by decide) | omega)
    refine r_iload_n hC dX6_isNumber_8 rfl ?_
    refine r_iconst hC dX6_isNumber_9 rfl ?_
    refine r_aload_n hC dX6_isNumber_10 rfl ?_
    refine r_iload_n hC dX6_isNumber_11 rfl ?_
    refine r_iconst hC dX6_isNumber_12 rfl ?_
    refine z_inv2 hM dX6_isNumber_13 vl_RX6_80 rfl rfl rfl (Nat.le_of_ble_eq_true rfl) (Nat.le_of_ble_eq_true rfl) ?_
    refine y_of (by first | assumption | decide | exact xs_ (by decide) | exact xc_ (by decide) | exact x31_ (by decide) | omega) (by first | assumption | decide | exact xs_ (by decide) | exact xc_ (by decide) | exact x31_ (by decide) | omega) (by first | assumption | decide | exact xs_ (by decide) | exact xc_ (by decide) | exact x31_ (by decide) | omega) (fun o3 => ?_)
    have e4 : σ 31 0 (22 * l + 1) = (V 7 l 2) := (hR.1.a7 (s := 2) (f := 1) (by first | assumption | decide | exact xs_ (by decide) | exact xc_ (by decide) | exact x31_ (by decide) | omega) (by first | assumption | decide | exact xs_ (by decide) | exact xc_ (by decide) | exact x31_ (by decide) | omega) (by first | assumption | decide | exact xs_ (by decide) | exact xc_ (by decide) | exact x31_ (by decide) | omega)).trans (rfl)
    rw [e4] at o3 ⊢
    refine z_ins1 hM dX6_isNumber_16 tl_RX6_127 rfl (Nat.le_of_ble_eq_true rfl) (Nat.le_of_ble_eq_true rfl) ?_
    refine y_howMany (by first | assumption | decide | exact xs_ (by decide) | exact xc_ (by decide) | exact x31_ (by decide) | omega) ?_
    have qN_16 := numF_rng (V 7 l 2)
    refine r_iconst hC dX6_isNumber_19 rfl ?_
    refine r_isubE hC (((numF (V 7 l 2)) - 1)) dX6_isNumber_20 (by first | assumption | decide | exact xs_ (by decide) | exact xc_ (by decide) | exact x31_ (by decide) | omega) (by unfold inR; omega) ?_
    refine z_ins3 hM dX6_isNumber_21 tl_RX6_76 rfl (Nat.le_of_ble_eq_true rfl) (Nat.le_of_ble_eq_true rfl) ?_
    refine m_isIn (fun h6 => ?_) (fun h6 => ?_)
    · refine r_if_eq (tgt := 31) hC dX6_isNumber_24 rfl (fun h7 => by omega) (fun h7 => ?_)
      refine r_iconst hC dX6_isNumber_27 rfl ?_
      refine r_goto (tgt := 32) hC dX6_isNumber_28 rfl ?_
      refine y_zret hK rfl dX6_isNumber_32 (by first | assumption | decide | exact xs_ (by decide) | exact xc_ (by decide) | exact x31_ (by decide) | omega) ?_
      exact k1 (by unfold lwC opV; omega)
    · refine r_if_eq (tgt := 31) hC dX6_isNumber_24 rfl (fun h8 => ?_) (fun h8 => by omega)
      refine r_iconst hC dX6_isNumber_31 rfl ?_
      refine y_zret hK rfl dX6_isNumber_32 (by first | assumption | decide | exact xs_ (by decide) | exact xc_ (by decide) | exact x31_ (by decide) | omega) ?_
      exact k0 (by unfold lwC opV; omega)
  · unfold opV at h1
    refine r_if_eq (tgt := 31) hC dX6_isNumber_5 rfl (fun h9 => ?_) (fun h9 => by omega)
    refine r_iconst hC dX6_isNumber_31 rfl ?_
    refine y_zret hK rfl dX6_isNumber_32 (by first | assumption | decide | exact xs_ (by decide) | exact xc_ (by decide) | exact x31_ (by decide) | omega) ?_
    exact k0 (by unfold lwC opV; omega)
theorem y_unlink {eb : Bool} {t : Int} {V : Mm} {d : Nat} {P : Option Vl → Mm → Prop} {σ : Mm} {l : Int}  {σ0 : Mm} (ht : 6 ≤ t ∧ t ≤ 7) (hR : RS t σ0 V σ) (hG : GI V)  (k : ∀ ρ : Mm, RS t σ0 (ulM V l) ρ → P (some (vI (ulR V l))) ρ) : WT (true, eb, true) (d + 3) 200 [vR 30 0, vI l] σ P := by
  refine WT_in fun K hK => ?_
  have hK : StpY (true, eb, true) cX6_unlink RX6 (some .boolean) (WT (true, eb, true) (d + 2)) P K := hK
  have hM := hK.1
  have hC := hK.1.1
  show K 0 [some (vR 30 0), some (vI l)] [] σ
  refine r_rngz hC (fun g0 => ?_)
  have r_l : -2147483648 ≤ l ∧ l ≤ 2147483647 := inR_le (g0 (vI l) (by simp))
  have hlkA : 0 ≤ l → l ≤ 3 → V 13 l 0 = -1 ∨ V 7 l 1 = 1 := fun a b => by rcases hG.2.1.2.2.2.2.2.1 l a b with q | q; exact Or.inl q; exact Or.inr q.1.2
  refine r_aload_n hC dX6_unlink_0 rfl ?_
  refine r_iload_n hC dX6_unlink_1 rfl ?_
  refine z_inv1 hM dX6_unlink_2 vl_RX6_124 rfl rfl rfl (Nat.le_of_ble_eq_true rfl) (Nat.le_of_ble_eq_true rfl) ?_
  refine y_isLane (V := V) ht ⟨hR.1, hR.2.1, hR.2.2⟩ (fun h1 => ?_) (fun h1 => ?_)
  · unfold opV at h1
    refine r_if_eq (tgt := 17) hC dX6_unlink_5 rfl (fun h2 => by omega) (fun h2 => ?_)
    have h6 := hG.1.h7 (l := l) (by first | assumption | decide | exact xs_ (by decide) | exact xc_ (by decide) | exact x31_ (by decide) | omega) (by first | assumption | decide | exact xs_ (by decide) | exact xc_ (by decide) | exact x31_ (by decide) | omega)
    have h10 := hG.2.1.2.1 l (by first | assumption | decide | exact xs_ (by decide) | exact xc_ (by decide) | exact x31_ (by decide) | omega) (by first | assumption | decide | exact xs_ (by decide) | exact xc_ (by decide) | exact x31_ (by decide) | omega)
    have hlk := hG.2.1.2.2.2.2.2.1 l (by first | assumption | decide | exact xs_ (by decide) | exact xc_ (by decide) | exact x31_ (by decide) | omega) (by first | assumption | decide | exact xs_ (by decide) | exact xc_ (by decide) | exact x31_ (by decide) | omega)
    unfold opV at hlk
    have hk13 : -1 ≤ V 13 l 0 ∧ V 13 l 0 ≤ 3 := by omega
    have hkn := hG.1.2.2.2 l (by first | assumption | decide | exact xs_ (by decide) | exact xc_ (by decide) | exact x31_ (by decide) | omega) (by first | assumption | decide | exact xs_ (by decide) | exact xc_ (by decide) | exact x31_ (by decide) | omega)
    refine r_aload_n hC dX6_unlink_8 rfl ?_
    refine z_getR hM dX6_unlink_9 fl_RX6_52 rfl rfl (vld_of (n := 1) rfl (by first | assumption | decide | exact xs_ (by decide) | exact xc_ (by decide) | exact x31_ (by decide) | omega) (by first | assumption | decide | exact xs_ (by decide) | exact xc_ (by decide) | exact x31_ (by decide) | omega)) ?_
    refine r_iload_n hC dX6_unlink_12 rfl ?_
    refine z_iald hM dX6_unlink_13 rfl (by first | assumption | decide | exact xs_ (by decide) | exact xc_ (by decide) | exact x31_ (by decide) | omega) (by first | assumption | decide | exact xs_ (by decide) | exact xc_ (by decide) | exact x31_ (by decide) | omega) (fun v3 h_v3 o_v3 t_v3 => ?_)
    have w_v3 := ((t_v3 (Or.inl (by simp [Tb]))).trans ((hR.1.k0 (by first | assumption | decide | exact xs_ (by decide) | exact xc_ (by decide) | exact x31_ (by decide) | omega) (by first | assumption | decide | exact xs_ (by decide) | exact xc_ (by decide) | exact x31_ (by decide) | omega)).trans (rfl))).symm
    subst w_v3
    have q_v3 : -1 ≤ (V 13 l 0) ∧ (V 13 l 0) ≤ 3 := o_v3
    refine r_if_ge (tgt := 19) hC dX6_unlink_14 rfl (fun h4 => ?_) (fun h4 => ?_)
    · refine r_aload_n hC dX6_unlink_19 rfl ?_
      refine z_getR hM dX6_unlink_20 fl_RX6_52 rfl rfl (vld_of (n := 1) rfl (by first | assumption | decide | exact xs_ (by decide) | exact xc_ (by decide) | exact x31_ (by decide) | omega) (by first | assumption | decide | exact xs_ (by decide) | exact xc_ (by decide) | exact x31_ (by decide) | omega)) ?_
      refine r_iload_n hC dX6_unlink_23 rfl ?_
      refine r_iconst hC dX6_unlink_24 rfl ?_
      refine z_iastT hM dX6_unlink_25 rfl (by first | assumption | decide | exact xs_ (by decide) | exact xc_ (by decide) | exact x31_ (by decide) | omega) (by first | assumption | decide | exact xs_ (by decide) | exact xc_ (by decide) | exact x31_ (by decide) | omega) ⟨Or.inr (by simp [DL]), Or.inr (by simp [DF])⟩ (by first | trivial | (simp only [Okv]; omega) | (simp [Okv]; try omega)) ?_
      obtain ⟨ρ5, e_ρ5⟩ : ∃ zz_, zz_ = mu σ 45 0 l (-1) := ⟨_, rfl⟩
      rw [← e_ρ5]
      have Sρ5 : SB t σ0 (mu V 13 l 0 (-1)) ρ5 := by rw [e_ρ5]; exact hR.1.pk0 (by first | assumption | decide | exact xs_ (by decide) | exact xc_ (by decide) | exact x31_ (by decide) | omega) (by first | assumption | decide | exact xs_ (by decide) | exact xc_ (by decide) | exact x31_ (by decide) | omega)
      have Kρ5 : KF t (mu V 13 l 0 (-1)) ρ5 := by rw [e_ρ5]; exact (hR.2.1).e (fun l a b => ⟨mu_ne (by first | assumption | decide | exact xs_ (by decide) | exact xc_ (by decide) | exact x31_ (by decide) | omega), mu_ne (by first | assumption | decide | exact xs_ (by decide) | exact xc_ (by decide) | exact x31_ (by decide) | omega)⟩) |>.v (fun l => mu_ne (by first | assumption | decide | exact xs_ (by decide) | exact xc_ (by decide) | exact x31_ (by decide) | omega))
      have Fρ5 : FB (mu V 13 l 0 (-1)) ρ5 := by rw [e_ρ5]; exact (hR.2.2).e (fun l a b => mu_ne (by first | assumption | decide | exact xs_ (by decide) | exact xc_ (by decide) | exact x31_ (by decide) | omega)) |>.v (fun l y a b c => mu_ne (by first | assumption | decide | exact xs_ (by decide) | exact xc_ (by decide) | exact x31_ (by decide) | omega))
      refine r_iconst hC dX6_unlink_26 rfl ?_
      refine y_zret hK rfl dX6_unlink_27 (by first | assumption | decide | exact xs_ (by decide) | exact xc_ (by decide) | exact x31_ (by decide) | omega) ?_
      have hM : ulM V l = (mu V 13 l 0 (-1)) := by
        exact if_pos (by first | assumption | decide | exact xs_ (by decide) | exact xc_ (by decide) | exact x31_ (by decide) | omega)
      have hRr : ulR V l = 1 := by
        exact if_pos (by first | assumption | decide | exact xs_ (by decide) | exact xc_ (by decide) | exact x31_ (by decide) | omega)
      rw [hM] at k
      rw [hRr] at k
      exact k _ ⟨Sρ5, Kρ5, Fρ5⟩
    · refine r_iconst hC dX6_unlink_17 rfl ?_
      refine y_zret hK rfl dX6_unlink_18 (by first | assumption | decide | exact xs_ (by decide) | exact xc_ (by decide) | exact x31_ (by decide) | omega) ?_
      have hM : ulM V l = V := by
        exact if_neg (by first | assumption | decide | exact xs_ (by decide) | exact xc_ (by decide) | exact x31_ (by decide) | omega)
      have hRr : ulR V l = 0 := by
        exact if_neg (by first | assumption | decide | exact xs_ (by decide) | exact xc_ (by decide) | exact x31_ (by decide) | omega)
      rw [hM] at k
      rw [hRr] at k
      exact k _ ⟨hR.1, hR.2.1, hR.2.2⟩
  · unfold opV at h1
    refine r_if_eq (tgt := 17) hC dX6_unlink_5 rfl (fun h6 => ?_) (fun h6 => by omega)
    refine r_iconst hC dX6_unlink_17 rfl ?_
    refine y_zret hK rfl dX6_unlink_18 (by first | assumption | decide | exact xs_ (by decide) | exact xc_ (by decide) | exact x31_ (by decide) | omega) ?_
    have hM : ulM V l = V := by
      exact if_neg (by first | assumption | decide | exact xs_ (by decide) | exact xc_ (by decide) | exact x31_ (by decide) | omega)
    have hRr : ulR V l = 0 := by
      exact if_neg (by first | assumption | decide | exact xs_ (by decide) | exact xc_ (by decide) | exact x31_ (by decide) | omega)
    rw [hM] at k
    rw [hRr] at k
    exact k _ ⟨hR.1, hR.2.1, hR.2.2⟩
theorem y_isLinkedTo {eb : Bool} {t : Int} {V : Mm} {d : Nat} {P : Option Vl → Mm → Prop} {σ : Mm} {l : Int}  {σ0 : Mm} (ht : 6 ≤ t ∧ t ≤ 7) (hR : RS t σ0 V σ)  (k1 : ¬ (∀ j : Int, 0 ≤ j → j < 4 → V 13 j 0 ≠ l) → P (some (vI 1)) σ) (k0 : (∀ j : Int, 0 ≤ j → j < 4 → V 13 j 0 ≠ l) → P (some (vI 0)) σ) : WT (true, eb, true) (d + 1) 197 [vR 30 0, vI l] σ P := by
  refine WT_in fun K hK => ?_
  have hK : StpY (true, eb, true) cX6_isLinkedTo RX6 (some .boolean) (WT (true, eb, true) (d + 0)) P K := hK
  have hM := hK.1
  have hC := hK.1.1
  show K 0 [some (vR 30 0), some (vI l), none] [] σ
  refine r_rngz hC (fun g0 => ?_)
  have r_l : -2147483648 ≤ l ∧ l ≤ 2147483647 := inR_le (g0 (vI l) (by simp))
  refine r_iconst hC dX6_isLinkedTo_0 rfl ?_
  refine r_istore_n hC dX6_isLinkedTo_1 rfl ?_
  have L2 : ∀ (n2 : Nat) (w1 : Int), 0 ≤ w1 ∧ w1 ≤ 4 → (∀ j : Int, 0 ≤ j → j < (w1) → V 13 j 0 ≠ l) → 4 - w1 < (n2 : Int) → K 2 [some (vR 30 0), some (vI l), some (vI w1)] [] σ := by
    intro n2
    induction n2 with
    | zero => intro w1  f_w1 i0_2 hm  ; omega
    | succ n2 ih2 =>
      intro w1  f_w1 i0_2 hm2  
      refine r_iload_n hC dX6_isLinkedTo_2 rfl ?_
      refine r_iconst hC dX6_isLinkedTo_3 rfl ?_
      refine r_icmp_ge (tgt := 25) hC dX6_isLinkedTo_4 rfl (fun h2 => ?_) (fun h2 => ?_)
      · refine r_iconst hC dX6_isLinkedTo_25 rfl ?_
        refine y_zret hK rfl dX6_isLinkedTo_26 (by first | assumption | decide | exact xs_ (by decide) | exact xc_ (by decide) | exact x31_ (by decide) | omega) ?_
        exact k0 (fun j h0 h1 => i0_2 j h0 (by first | assumption | decide | exact xs_ (by decide) | exact xc_ (by decide) | exact x31_ (by decide) | omega))
      · refine r_aload_n hC dX6_isLinkedTo_7 rfl ?_
        refine z_getR hM dX6_isLinkedTo_8 fl_RX6_52 rfl rfl (vld_of (n := 1) rfl (by first | assumption | decide | exact xs_ (by decide) | exact xc_ (by decide) | exact x31_ (by decide) | omega) (by first | assumption | decide | exact xs_ (by decide) | exact xc_ (by decide) | exact x31_ (by decide) | omega)) ?_
        refine r_iload_n hC dX6_isLinkedTo_11 rfl ?_
        refine z_iald hM dX6_isLinkedTo_12 rfl (by first | assumption | decide | exact xs_ (by decide) | exact xc_ (by decide) | exact x31_ (by decide) | omega) (by first | assumption | decide | exact xs_ (by decide) | exact xc_ (by decide) | exact x31_ (by decide) | omega) (fun v3 h_v3 o_v3 t_v3 => ?_)
        have w_v3 := ((t_v3 (Or.inl (by simp [Tb]))).trans ((hR.1.k0 (by first | assumption | decide | exact xs_ (by decide) | exact xc_ (by decide) | exact x31_ (by decide) | omega) (by first | assumption | decide | exact xs_ (by decide) | exact xc_ (by decide) | exact x31_ (by decide) | omega)).trans (rfl))).symm
        subst w_v3
        have q_v3 : -1 ≤ (V 13 w1 0) ∧ (V 13 w1 0) ≤ 3 := o_v3
        refine r_iload_n hC dX6_isLinkedTo_13 rfl ?_
        refine r_icmp_ne (tgt := 19) hC dX6_isLinkedTo_14 rfl (fun h4 => ?_) (fun h4 => ?_)
        · refine r_iincE hC ((w1 + 1)) dX6_isLinkedTo_19 rfl rfl (by first | assumption | decide | exact xs_ (by decide) | exact xc_ (by decide) | exact x31_ (by decide) | omega) (by unfold inR; omega) ?_
          refine r_goto (tgt := 2) hC dX6_isLinkedTo_22 rfl ?_
          exact ih2 ((w1 + 1))  (by first | assumption | decide | exact xs_ (by decide) | exact xc_ (by decide) | exact x31_ (by decide) | omega) (by first | (intro j h0 h1; omega) | (intro j h0 h1; rcases (by omega : j < w1 ∨ j = w1) with h | h; exact i0_2 j h0 h; subst h; assumption)) (by first | assumption | decide | exact xs_ (by decide) | exact xc_ (by decide) | exact x31_ (by decide) | omega)  
        · refine r_iconst hC dX6_isLinkedTo_17 rfl ?_
          refine y_zret hK rfl dX6_isLinkedTo_18 (by first | assumption | decide | exact xs_ (by decide) | exact xc_ (by decide) | exact x31_ (by decide) | omega) ?_
          exact k1 (fun q => by have := q w1 (by first | assumption | decide | exact xs_ (by decide) | exact xc_ (by decide) | exact x31_ (by decide) | omega) (by first | assumption | decide | exact xs_ (by decide) | exact xc_ (by decide) | exact x31_ (by decide) | omega); omega)
  exact L2 6 (0)  (by first | assumption | decide | exact xs_ (by decide) | exact xc_ (by decide) | exact x31_ (by decide) | omega) (by first | (intro j h0 h1; omega) | (intro j h0 h1; rcases (by omega : j < w1 ∨ j = w1) with h | h; exact i0_2 j h0 h; subst h; assumption)) (by first | assumption | decide | exact xs_ (by decide) | exact xc_ (by decide) | exact x31_ (by decide) | omega)  
theorem y_link {eb : Bool} {t : Int} {V : Mm} {d : Nat} {P : Option Vl → Mm → Prop} {σ : Mm} {l o z w : Int}  {σ0 : Mm} (ht : 6 ≤ t ∧ t ≤ 7) (hR : RS t σ0 V σ) (hG : GI V)  (k1 : lkC V l o z w → ∀ ρ : Mm, RS t σ0 (lkM V l o z w) ρ → P (some (vI 1)) ρ) (k0 : ¬ lkC V l o z w → ∀ ρ : Mm, RS t σ0 V ρ → P (some (vI 0)) ρ) : WT (true, eb, true) (d + 4) 199 [vR 30 0, vI l, vI o, vI z, vI w] σ P := by
  refine WT_in fun K hK => ?_
  have hK : StpY (true, eb, true) cX6_link RX6 (some .boolean) (WT (true, eb, true) (d + 3)) P K := hK
  have hM := hK.1
  have hC := hK.1.1
  show K 0 [some (vR 30 0), some (vI l), some (vI o), some (vI z), some (vI w)] [] σ
  refine r_rngz hC (fun g0 => ?_)
  have r_l : -2147483648 ≤ l ∧ l ≤ 2147483647 := inR_le (g0 (vI l) (by simp))
  have r_o : -2147483648 ≤ o ∧ o ≤ 2147483647 := inR_le (g0 (vI o) (by simp))
  have r_z : -2147483648 ≤ z ∧ z ≤ 2147483647 := inR_le (g0 (vI z) (by simp))
  have r_w : -2147483648 ≤ w ∧ w ≤ 2147483647 := inR_le (g0 (vI w) (by simp))
  refine r_aload_n hC dX6_link_0 rfl ?_
  refine r_iload_n hC dX6_link_1 rfl ?_
  refine z_inv1 hM dX6_link_2 vl_RX6_124 rfl rfl rfl (Nat.le_of_ble_eq_true rfl) (Nat.le_of_ble_eq_true rfl) ?_
  refine y_isLane (V := V) ht ⟨hR.1, hR.2.1, hR.2.2⟩ (fun h1 => ?_) (fun h1 => ?_)
  · unfold opV at h1
    refine r_if_eq (tgt := 50) hC dX6_link_5 rfl (fun h2 => by omega) (fun h2 => ?_)
    refine r_iload_n hC dX6_link_8 rfl ?_
    refine r_iload_n hC dX6_link_9 rfl ?_
    refine r_icmp_eq (tgt := 50) hC dX6_link_10 rfl (fun h3 => ?_) (fun h3 => ?_)
    · refine r_iconst hC dX6_link_50 rfl ?_
      refine y_zret hK rfl dX6_link_51 (by first | assumption | decide | exact xs_ (by decide) | exact xc_ (by decide) | exact x31_ (by decide) | omega) ?_
      exact k0 (fun q => by have q1 := q.1; have q2 := q.2.1; have q3 := q.2.2.1; have q4 := q.2.2.2.1; have q5 := q.2.2.2.2.1; have q6 := q.2.2.2.2.2; first | omega | exact hlk q6) _ ⟨hR.1, hR.2.1, hR.2.2⟩
    · refine r_aload_n hC dX6_link_13 rfl ?_
      refine r_iload_n hC dX6_link_14 rfl ?_
      refine r_iload hC dX6_link_15 rfl ?_
      refine z_inv2 hM dX6_link_17 vl_RX6_207 rfl rfl rfl (Nat.le_of_ble_eq_true rfl) (Nat.le_of_ble_eq_true rfl) ?_
      refine y_isNumber (V := V) ht ⟨hR.1, hR.2.1, hR.2.2⟩ (fun l a b => (hG.2.1.2.2.2.1 l a b).2) (fun h4 => ?_) (fun h4 => ?_)
      · unfold lwC opV at h4
        have n_h4 := numF_rng (V 7 l 2)
        refine r_if_eq (tgt := 50) hC dX6_link_20 rfl (fun h5 => by omega) (fun h5 => ?_)
        refine r_iload_n hC dX6_link_23 rfl ?_
        refine r_iconst hC dX6_link_24 rfl ?_
        refine r_ldc hC dX6_link_25 co_RX6_239 rfl ?_
        refine z_ins3 hM dX6_link_27 tl_RX6_76 rfl (Nat.le_of_ble_eq_true rfl) (Nat.le_of_ble_eq_true rfl) ?_
        refine m_isIn (fun h7 => ?_) (fun h7 => ?_)
        · refine r_if_eq (tgt := 50) hC dX6_link_30 rfl (fun h8 => by omega) (fun h8 => ?_)
          refine r_aload_n hC dX6_link_33 rfl ?_
          refine z_getR hM dX6_link_34 fl_RX6_52 rfl rfl (vld_of (n := 1) rfl (by first | assumption | decide | exact xs_ (by decide) | exact xc_ (by decide) | exact x31_ (by decide) | omega) (by first | assumption | decide | exact xs_ (by decide) | exact xc_ (by decide) | exact x31_ (by decide) | omega)) ?_
          refine r_iload_n hC dX6_link_37 rfl ?_
          refine z_iald hM dX6_link_38 rfl (by first | assumption | decide | exact xs_ (by decide) | exact xc_ (by decide) | exact x31_ (by decide) | omega) (by first | assumption | decide | exact xs_ (by decide) | exact xc_ (by decide) | exact x31_ (by decide) | omega) (fun v9 h_v9 o_v9 t_v9 => ?_)
          have w_v9 := ((t_v9 (Or.inl (by simp [Tb]))).trans ((hR.1.k0 (by first | assumption | decide | exact xs_ (by decide) | exact xc_ (by decide) | exact x31_ (by decide) | omega) (by first | assumption | decide | exact xs_ (by decide) | exact xc_ (by decide) | exact x31_ (by decide) | omega)).trans (rfl))).symm
          subst w_v9
          have q_v9 : -1 ≤ (V 13 o 0) ∧ (V 13 o 0) ≤ 3 := o_v9
          refine r_if_ge (tgt := 50) hC dX6_link_39 rfl (fun h10 => ?_) (fun h10 => ?_)
          · refine r_iconst hC dX6_link_50 rfl ?_
            refine y_zret hK rfl dX6_link_51 (by first | assumption | decide | exact xs_ (by decide) | exact xc_ (by decide) | exact x31_ (by decide) | omega) ?_
            exact k0 (fun q => by have q1 := q.1; have q2 := q.2.1; have q3 := q.2.2.1; have q4 := q.2.2.2.1; have q5 := q.2.2.2.2.1; have q6 := q.2.2.2.2.2; first | omega | exact hlk q6) _ ⟨hR.1, hR.2.1, hR.2.2⟩
          · refine r_aload_n hC dX6_link_42 rfl ?_
            refine r_iload_n hC dX6_link_43 rfl ?_
            refine z_inv1 hM dX6_link_44 vl_RX6_240 rfl rfl rfl (Nat.le_of_ble_eq_true rfl) (Nat.le_of_ble_eq_true rfl) ?_
            refine y_isLinkedTo (V := V) ht ⟨hR.1, hR.2.1, hR.2.2⟩ (fun hlk => ?_) (fun hlk => ?_)
            · refine r_if_eq (tgt := 52) hC dX6_link_47 rfl (fun h11 => by omega) (fun h11 => ?_)
              refine r_iconst hC dX6_link_50 rfl ?_
              refine y_zret hK rfl dX6_link_51 (by first | assumption | decide | exact xs_ (by decide) | exact xc_ (by decide) | exact x31_ (by decide) | omega) ?_
              exact k0 (fun q => by have q1 := q.1; have q2 := q.2.1; have q3 := q.2.2.1; have q4 := q.2.2.2.1; have q5 := q.2.2.2.2.1; have q6 := q.2.2.2.2.2; first | omega | exact hlk q6) _ ⟨hR.1, hR.2.1, hR.2.2⟩
            · refine r_if_eq (tgt := 52) hC dX6_link_47 rfl (fun h12 => ?_) (fun h12 => by omega)
              refine r_aload_n hC dX6_link_52 rfl ?_
              refine z_getR hM dX6_link_53 fl_RX6_52 rfl rfl (vld_of (n := 1) rfl (by first | assumption | decide | exact xs_ (by decide) | exact xc_ (by decide) | exact x31_ (by decide) | omega) (by first | assumption | decide | exact xs_ (by decide) | exact xc_ (by decide) | exact x31_ (by decide) | omega)) ?_
              refine r_iload_n hC dX6_link_56 rfl ?_
              refine r_iload_n hC dX6_link_57 rfl ?_
              refine z_iastT hM dX6_link_58 rfl (by first | assumption | decide | exact xs_ (by decide) | exact xc_ (by decide) | exact x31_ (by decide) | omega) (by first | assumption | decide | exact xs_ (by decide) | exact xc_ (by decide) | exact x31_ (by decide) | omega) ⟨Or.inr (by simp [DL]), Or.inr (by simp [DF])⟩ (by first | trivial | (simp only [Okv]; omega) | (simp [Okv]; try omega)) ?_
              obtain ⟨ρ13, e_ρ13⟩ : ∃ zz_, zz_ = mu σ 45 0 l o := ⟨_, rfl⟩
              rw [← e_ρ13]
              have Sρ13 : SB t σ0 (mu V 13 l 0 o) ρ13 := by rw [e_ρ13]; exact hR.1.pk0 (by first | assumption | decide | exact xs_ (by decide) | exact xc_ (by decide) | exact x31_ (by decide) | omega) (by first | assumption | decide | exact xs_ (by decide) | exact xc_ (by decide) | exact x31_ (by decide) | omega)
              have Kρ13 : KF t (mu V 13 l 0 o) ρ13 := by rw [e_ρ13]; exact (hR.2.1).e (fun l a b => ⟨mu_ne (by first | assumption | decide | exact xs_ (by decide) | exact xc_ (by decide) | exact x31_ (by decide) | omega), mu_ne (by first | assumption | decide | exact xs_ (by decide) | exact xc_ (by decide) | exact x31_ (by decide) | omega)⟩) |>.v (fun l => mu_ne (by first | assumption | decide | exact xs_ (by decide) | exact xc_ (by decide) | exact x31_ (by decide) | omega))
              have Fρ13 : FB (mu V 13 l 0 o) ρ13 := by rw [e_ρ13]; exact (hR.2.2).e (fun l a b => mu_ne (by first | assumption | decide | exact xs_ (by decide) | exact xc_ (by decide) | exact x31_ (by decide) | omega)) |>.v (fun l y a b c => mu_ne (by first | assumption | decide | exact xs_ (by decide) | exact xc_ (by decide) | exact x31_ (by decide) | omega))
              refine r_aload_n hC dX6_link_59 rfl ?_
              refine z_getR hM dX6_link_60 fl_RX6_55 rfl rfl (vld_of (n := 1) rfl (by first | assumption | decide | exact xs_ (by decide) | exact xc_ (by decide) | exact x31_ (by decide) | omega) (by first | assumption | decide | exact xs_ (by decide) | exact xc_ (by decide) | exact x31_ (by decide) | omega)) ?_
              refine r_iload_n hC dX6_link_63 rfl ?_
              refine r_iload_n hC dX6_link_64 rfl ?_
              refine z_iastT hM dX6_link_65 rfl (by first | assumption | decide | exact xs_ (by decide) | exact xc_ (by decide) | exact x31_ (by decide) | omega) (by first | assumption | decide | exact xs_ (by decide) | exact xc_ (by decide) | exact x31_ (by decide) | omega) ⟨Or.inr (by simp [DL]), Or.inr (by simp [DF])⟩ (by first | trivial | (simp only [Okv]; omega) | (simp [Okv]; try omega)) ?_
              obtain ⟨ρ14, e_ρ14⟩ : ∃ zz_, zz_ = mu ρ13 46 0 l z := ⟨_, rfl⟩
              rw [← e_ρ14]
              have Sρ14 : SB t σ0 (mu (mu V 13 l 0 o) 13 l 1 z) ρ14 := by rw [e_ρ14]; exact Sρ13.pk1 (by first | assumption | decide | exact xs_ (by decide) | exact xc_ (by decide) | exact x31_ (by decide) | omega) (by first | assumption | decide | exact xs_ (by decide) | exact xc_ (by decide) | exact x31_ (by decide) | omega)
              have Kρ14 : KF t (mu (mu V 13 l 0 o) 13 l 1 z) ρ14 := by rw [e_ρ14]; exact (Kρ13).e (fun l a b => ⟨mu_ne (by first | assumption | decide | exact xs_ (by decide) | exact xc_ (by decide) | exact x31_ (by decide) | omega), mu_ne (by first | assumption | decide | exact xs_ (by decide) | exact xc_ (by decide) | exact x31_ (by decide) | omega)⟩) |>.v (fun l => mu_ne (by first | assumption | decide | exact xs_ (by decide) | exact xc_ (by decide) | exact x31_ (by decide) | omega))
              have Fρ14 : FB (mu (mu V 13 l 0 o) 13 l 1 z) ρ14 := by rw [e_ρ14]; exact (Fρ13).e (fun l a b => mu_ne (by first | assumption | decide | exact xs_ (by decide) | exact xc_ (by decide) | exact x31_ (by decide) | omega)) |>.v (fun l y a b c => mu_ne (by first | assumption | decide | exact xs_ (by decide) | exact xc_ (by decide) | exact x31_ (by decide) | omega))
              refine r_aload_n hC dX6_link_66 rfl ?_
              refine z_getR hM dX6_link_67 fl_RX6_58 rfl rfl (vld_of (n := 1) rfl (by first | assumption | decide | exact xs_ (by decide) | exact xc_ (by decide) | exact x31_ (by decide) | omega) (by first | assumption | decide | exact xs_ (by decide) | exact xc_ (by decide) | exact x31_ (by decide) | omega)) ?_
              refine r_iload_n hC dX6_link_70 rfl ?_
              refine r_iload hC dX6_link_71 rfl ?_
              refine z_iastT hM dX6_link_73 rfl (by first | assumption | decide | exact xs_ (by decide) | exact xc_ (by decide) | exact x31_ (by decide) | omega) (by first | assumption | decide | exact xs_ (by decide) | exact xc_ (by decide) | exact x31_ (by decide) | omega) ⟨Or.inr (by simp [DL]), Or.inr (by simp [DF])⟩ (by first | trivial | (simp only [Okv]; omega) | (simp [Okv]; try omega)) ?_
              obtain ⟨ρ15, e_ρ15⟩ : ∃ zz_, zz_ = mu ρ14 47 0 l w := ⟨_, rfl⟩
              rw [← e_ρ15]
              have Sρ15 : SB t σ0 (mu (mu (mu V 13 l 0 o) 13 l 1 z) 13 l 2 w) ρ15 := by rw [e_ρ15]; exact Sρ14.pk2 (by first | assumption | decide | exact xs_ (by decide) | exact xc_ (by decide) | exact x31_ (by decide) | omega) (by first | assumption | decide | exact xs_ (by decide) | exact xc_ (by decide) | exact x31_ (by decide) | omega)
              have Kρ15 : KF t (mu (mu (mu V 13 l 0 o) 13 l 1 z) 13 l 2 w) ρ15 := by rw [e_ρ15]; exact (Kρ14).e (fun l a b => ⟨mu_ne (by first | assumption | decide | exact xs_ (by decide) | exact xc_ (by decide) | exact x31_ (by decide) | omega), mu_ne (by first | assumption | decide | exact xs_ (by decide) | exact xc_ (by decide) | exact x31_ (by decide) | omega)⟩) |>.v (fun l => mu_ne (by first | assumption | decide | exact xs_ (by decide) | exact xc_ (by decide) | exact x31_ (by decide) | omega))
              have Fρ15 : FB (mu (mu (mu V 13 l 0 o) 13 l 1 z) 13 l 2 w) ρ15 := by rw [e_ρ15]; exact (Fρ14).e (fun l a b => mu_ne (by first | assumption | decide | exact xs_ (by decide) | exact xc_ (by decide) | exact x31_ (by decide) | omega)) |>.v (fun l y a b c => mu_ne (by first | assumption | decide | exact xs_ (by decide) | exact xc_ (by decide) | exact x31_ (by decide) | omega))
              refine r_aload_n hC dX6_link_74 rfl ?_
              refine z_getR hM dX6_link_75 fl_RX6_61 rfl rfl (vld_of (n := 1) rfl (by first | assumption | decide | exact xs_ (by decide) | exact xc_ (by decide) | exact x31_ (by decide) | omega) (by first | assumption | decide | exact xs_ (by decide) | exact xc_ (by decide) | exact x31_ (by decide) | omega)) ?_
              refine r_iload_n hC dX6_link_78 rfl ?_
              refine r_iconst hC dX6_link_79 rfl ?_
              refine z_iastT hM dX6_link_80 rfl (by first | assumption | decide | exact xs_ (by decide) | exact xc_ (by decide) | exact x31_ (by decide) | omega) (by first | assumption | decide | exact xs_ (by decide) | exact xc_ (by decide) | exact x31_ (by decide) | omega) ⟨Or.inr (by simp [DL]), Or.inr (by simp [DF])⟩ (by first | trivial | (simp only [Okv]; omega) | (simp [Okv]; try omega)) ?_
              obtain ⟨ρ16, e_ρ16⟩ : ∃ zz_, zz_ = mu ρ15 48 0 l 0 := ⟨_, rfl⟩
              rw [← e_ρ16]
              have Sρ16 : SB t σ0 (mu (mu (mu (mu V 13 l 0 o) 13 l 1 z) 13 l 2 w) 13 l 3 0) ρ16 := by rw [e_ρ16]; exact Sρ15.pk3 (by first | assumption | decide | exact xs_ (by decide) | exact xc_ (by decide) | exact x31_ (by decide) | omega) (by first | assumption | decide | exact xs_ (by decide) | exact xc_ (by decide) | exact x31_ (by decide) | omega)
              have Kρ16 : KF t (mu (mu (mu (mu V 13 l 0 o) 13 l 1 z) 13 l 2 w) 13 l 3 0) ρ16 := by rw [e_ρ16]; exact (Kρ15).e (fun l a b => ⟨mu_ne (by first | assumption | decide | exact xs_ (by decide) | exact xc_ (by decide) | exact x31_ (by decide) | omega), mu_ne (by first | assumption | decide | exact xs_ (by decide) | exact xc_ (by decide) | exact x31_ (by decide) | omega)⟩) |>.v (fun l => mu_ne (by first | assumption | decide | exact xs_ (by decide) | exact xc_ (by decide) | exact x31_ (by decide) | omega))
              have Fρ16 : FB (mu (mu (mu (mu V 13 l 0 o) 13 l 1 z) 13 l 2 w) 13 l 3 0) ρ16 := by rw [e_ρ16]; exact (Fρ15).e (fun l a b => mu_ne (by first | assumption | decide | exact xs_ (by decide) | exact xc_ (by decide) | exact x31_ (by decide) | omega)) |>.v (fun l y a b c => mu_ne (by first | assumption | decide | exact xs_ (by decide) | exact xc_ (by decide) | exact x31_ (by decide) | omega))
              refine r_iconst hC dX6_link_81 rfl ?_
              refine y_zret hK rfl dX6_link_82 (by first | assumption | decide | exact xs_ (by decide) | exact xc_ (by decide) | exact x31_ (by decide) | omega) ?_
              exact k1 ⟨by omega, by omega, by omega, by omega, by omega, hlk⟩ _ ⟨Sρ16, Kρ16, Fρ16⟩
        · refine r_if_eq (tgt := 50) hC dX6_link_30 rfl (fun h17 => ?_) (fun h17 => by omega)
          refine r_iconst hC dX6_link_50 rfl ?_
          refine y_zret hK rfl dX6_link_51 (by first | assumption | decide | exact xs_ (by decide) | exact xc_ (by decide) | exact x31_ (by decide) | omega) ?_
          exact k0 (fun q => by have q1 := q.1; have q2 := q.2.1; have q3 := q.2.2.1; have q4 := q.2.2.2.1; have q5 := q.2.2.2.2.1; have q6 := q.2.2.2.2.2; first | omega | exact hlk q6) _ ⟨hR.1, hR.2.1, hR.2.2⟩
      · unfold lwC opV at h4
        have n_h4 := numF_rng (V 7 l 2)
        refine r_if_eq (tgt := 50) hC dX6_link_20 rfl (fun h18 => ?_) (fun h18 => by omega)
        refine r_iconst hC dX6_link_50 rfl ?_
        refine y_zret hK rfl dX6_link_51 (by first | assumption | decide | exact xs_ (by decide) | exact xc_ (by decide) | exact x31_ (by decide) | omega) ?_
        exact k0 (fun q => by have q1 := q.1; have q2 := q.2.1; have q3 := q.2.2.1; have q4 := q.2.2.2.1; have q5 := q.2.2.2.2.1; have q6 := q.2.2.2.2.2; first | omega | exact hlk q6) _ ⟨hR.1, hR.2.1, hR.2.2⟩
  · unfold opV at h1
    refine r_if_eq (tgt := 50) hC dX6_link_5 rfl (fun h19 => ?_) (fun h19 => by omega)
    refine r_iconst hC dX6_link_50 rfl ?_
    refine y_zret hK rfl dX6_link_51 (by first | assumption | decide | exact xs_ (by decide) | exact xc_ (by decide) | exact x31_ (by decide) | omega) ?_
    exact k0 (fun q => by have q1 := q.1; have q2 := q.2.1; have q3 := q.2.2.1; have q4 := q.2.2.2.1; have q5 := q.2.2.2.2.1; have q6 := q.2.2.2.2.2; first | omega | exact hlk q6) _ ⟨hR.1, hR.2.1, hR.2.2⟩
theorem LK_w {V : Mm} {l v w b : Int} (h : LK V l) (hv : 0 ≤ v ∧ v ≤ 7) (hw : 0 ≤ w) (hw2 : w < numF (V 7 l 2)) : LK (mu (mu (mu V 12 v 0 l) 12 v 1 w) 12 v 2 b) l := by
  obtain ⟨q1, q2, q3, q4, q5, q6⟩ := h
  have e : ∀ (c : Nat) (x y : Int), c ≠ 12 → mu (mu (mu V 12 v 0 l) 12 v 1 w) 12 v 2 b c x y = V c x y := fun c x y hc => by rw [mu_ne (by first | assumption | decide | exact xs_ (by decide) | exact xc_ (by decide) | exact x31_ (by decide) | omega), mu_ne (by first | assumption | decide | exact xs_ (by decide) | exact xc_ (by decide) | exact x31_ (by decide) | omega), mu_ne (by first | assumption | decide | exact xs_ (by decide) | exact xc_ (by decide) | exact x31_ (by decide) | omega)]
  refine ⟨by rw [e _ _ _ (by decide)]; exact q1, by rw [e _ _ _ (by decide)]; exact q2, fun j a b => by rw [e _ _ _ (by decide)]; exact q3 j a b, fun j a b => by rw [e _ _ _ (by decide)]; exact q4 j a b, fun x a c d => ?_, fun x a c => ?_⟩
  · rw [e 7 l 2 (by decide)]
    by_cases ex : x = v
    · subst ex
      rw [mu_ne (by first | assumption | decide | exact xs_ (by decide) | exact xc_ (by decide) | exact x31_ (by decide) | omega), mu_self]
      exact ⟨hw, hw2⟩
    · rw [mu_ne (by first | assumption | decide | exact xs_ (by decide) | exact xc_ (by decide) | exact x31_ (by decide) | omega), mu_ne (by first | assumption | decide | exact xs_ (by decide) | exact xc_ (by decide) | exact x31_ (by decide) | omega), mu_ne (by first | assumption | decide | exact xs_ (by decide) | exact xc_ (by decide) | exact x31_ (by decide) | omega)] at d ⊢
      exact q5 x a c d
  · rw [mu_ne (by first | assumption | decide | exact xs_ (by decide) | exact xc_ (by decide) | exact x31_ (by decide) | omega), mu_ne (by first | assumption | decide | exact xs_ (by decide) | exact xc_ (by decide) | exact x31_ (by decide) | omega), mu_ne (by first | assumption | decide | exact xs_ (by decide) | exact xc_ (by decide) | exact x31_ (by decide) | omega)]; exact q6 x a c
theorem y_watch {eb : Bool} {t : Int} {V : Mm} {d : Nat} {P : Option Vl → Mm → Prop} {σ : Mm} {v l w b : Int}  {σ0 : Mm} (ht : 6 ≤ t ∧ t ≤ 7) (hR : RS t σ0 V σ) (hG : GI V)  (k : ∀ ρ : Mm, RS t σ0 (wtM V v l w b) ρ → P (some (vI (wtR V v l w b))) ρ) : WT (true, eb, true) (d + 6) 186 [vR 30 0, vI v, vI l, vI w, vI b] σ P := by
  refine WT_in fun K hK => ?_
  have hK : StpY (true, eb, true) cX6_watch RX6 (some .int) (WT (true, eb, true) (d + 5)) P K := hK
  have hM := hK.1
  have hC := hK.1.1
  show K 0 [some (vR 30 0), some (vI v), some (vI l), some (vI w), some (vI b)] [] σ
  refine r_rngz hC (fun g0 => ?_)
  have r_v : -2147483648 ≤ v ∧ v ≤ 2147483647 := inR_le (g0 (vI v) (by simp))
  have r_l : -2147483648 ≤ l ∧ l ≤ 2147483647 := inR_le (g0 (vI l) (by simp))
  have r_w : -2147483648 ≤ w ∧ w ≤ 2147483647 := inR_le (g0 (vI w) (by simp))
  have r_b : -2147483648 ≤ b ∧ b ≤ 2147483647 := inR_le (g0 (vI b) (by simp))
  refine r_iload_n hC dX6_watch_0 rfl ?_
  refine r_iconst hC dX6_watch_1 rfl ?_
  refine r_bipush hC dX6_watch_2 rfl ?_
  refine z_ins3 hM dX6_watch_4 tl_RX6_76 rfl (Nat.le_of_ble_eq_true rfl) (Nat.le_of_ble_eq_true rfl) ?_
  refine m_isIn (fun h2 => ?_) (fun h2 => ?_)
  · refine r_if_eq (tgt := 19) hC dX6_watch_7 rfl (fun h3 => by omega) (fun h3 => ?_)
    refine r_aload_n hC dX6_watch_10 rfl ?_
    refine r_iload_n hC dX6_watch_11 rfl ?_
    refine r_iload_n hC dX6_watch_12 rfl ?_
    refine z_inv2 hM dX6_watch_13 vl_RX6_207 rfl rfl rfl (Nat.le_of_ble_eq_true rfl) (Nat.le_of_ble_eq_true rfl) ?_
    refine y_isNumber (V := V) ht ⟨hR.1, hR.2.1, hR.2.2⟩ (fun l a b => (hG.2.1.2.2.2.1 l a b).2) (fun h4 => ?_) (fun h4 => ?_)
    · unfold lwC opV at h4
      have n_h4 := numF_rng (V 7 l 2)
      refine r_if_ne (tgt := 21) hC dX6_watch_16 rfl (fun h5 => ?_) (fun h5 => by omega)
      refine r_aload_n hC dX6_watch_21 rfl ?_
      refine z_getR hM dX6_watch_22 fl_RX6_34 rfl rfl (vld_of (n := 1) rfl (by first | assumption | decide | exact xs_ (by decide) | exact xc_ (by decide) | exact x31_ (by decide) | omega) (by first | assumption | decide | exact xs_ (by decide) | exact xc_ (by decide) | exact x31_ (by decide) | omega)) ?_
      refine r_iload_n hC dX6_watch_25 rfl ?_
      refine r_iload_n hC dX6_watch_26 rfl ?_
      refine z_iastT hM dX6_watch_27 rfl (by first | assumption | decide | exact xs_ (by decide) | exact xc_ (by decide) | exact x31_ (by decide) | omega) (by first | assumption | decide | exact xs_ (by decide) | exact xc_ (by decide) | exact x31_ (by decide) | omega) ⟨Or.inr (by simp [DL]), Or.inr (by simp [DF])⟩ (by first | trivial | (simp only [Okv]; omega) | (simp [Okv]; try omega)) ?_
      obtain ⟨ρ6, e_ρ6⟩ : ∃ zz_, zz_ = mu σ 39 0 v l := ⟨_, rfl⟩
      rw [← e_ρ6]
      have Sρ6 : SB t σ0 (mu V 12 v 0 l) ρ6 := by rw [e_ρ6]; exact hR.1.pw0 (by first | assumption | decide | exact xs_ (by decide) | exact xc_ (by decide) | exact x31_ (by decide) | omega) (by first | assumption | decide | exact xs_ (by decide) | exact xc_ (by decide) | exact x31_ (by decide) | omega)
      have Kρ6 : KF t (mu V 12 v 0 l) ρ6 := by rw [e_ρ6]; exact (hR.2.1).e (fun l a b => ⟨mu_ne (by first | assumption | decide | exact xs_ (by decide) | exact xc_ (by decide) | exact x31_ (by decide) | omega), mu_ne (by first | assumption | decide | exact xs_ (by decide) | exact xc_ (by decide) | exact x31_ (by decide) | omega)⟩) |>.v (fun l => mu_ne (by first | assumption | decide | exact xs_ (by decide) | exact xc_ (by decide) | exact x31_ (by decide) | omega))
      have Fρ6 : FB (mu V 12 v 0 l) ρ6 := by rw [e_ρ6]; exact (hR.2.2).e (fun l a b => mu_ne (by first | assumption | decide | exact xs_ (by decide) | exact xc_ (by decide) | exact x31_ (by decide) | omega)) |>.v (fun l y a b c => mu_ne (by first | assumption | decide | exact xs_ (by decide) | exact xc_ (by decide) | exact x31_ (by decide) | omega))
      refine r_aload_n hC dX6_watch_28 rfl ?_
      refine z_getR hM dX6_watch_29 fl_RX6_37 rfl rfl (vld_of (n := 1) rfl (by first | assumption | decide | exact xs_ (by decide) | exact xc_ (by decide) | exact x31_ (by decide) | omega) (by first | assumption | decide | exact xs_ (by decide) | exact xc_ (by decide) | exact x31_ (by decide) | omega)) ?_
      refine r_iload_n hC dX6_watch_32 rfl ?_
      refine r_iload_n hC dX6_watch_33 rfl ?_
      refine z_iastT hM dX6_watch_34 rfl (by first | assumption | decide | exact xs_ (by decide) | exact xc_ (by decide) | exact x31_ (by decide) | omega) (by first | assumption | decide | exact xs_ (by decide) | exact xc_ (by decide) | exact x31_ (by decide) | omega) ⟨Or.inr (by simp [DL]), Or.inr (by simp [DF])⟩ (by first | trivial | (simp only [Okv]; omega) | (simp [Okv]; try omega)) ?_
      obtain ⟨ρ7, e_ρ7⟩ : ∃ zz_, zz_ = mu ρ6 40 0 v w := ⟨_, rfl⟩
      rw [← e_ρ7]
      have Sρ7 : SB t σ0 (mu (mu V 12 v 0 l) 12 v 1 w) ρ7 := by rw [e_ρ7]; exact Sρ6.pw1 (by first | assumption | decide | exact xs_ (by decide) | exact xc_ (by decide) | exact x31_ (by decide) | omega) (by first | assumption | decide | exact xs_ (by decide) | exact xc_ (by decide) | exact x31_ (by decide) | omega)
      have Kρ7 : KF t (mu (mu V 12 v 0 l) 12 v 1 w) ρ7 := by rw [e_ρ7]; exact (Kρ6).e (fun l a b => ⟨mu_ne (by first | assumption | decide | exact xs_ (by decide) | exact xc_ (by decide) | exact x31_ (by decide) | omega), mu_ne (by first | assumption | decide | exact xs_ (by decide) | exact xc_ (by decide) | exact x31_ (by decide) | omega)⟩) |>.v (fun l => mu_ne (by first | assumption | decide | exact xs_ (by decide) | exact xc_ (by decide) | exact x31_ (by decide) | omega))
      have Fρ7 : FB (mu (mu V 12 v 0 l) 12 v 1 w) ρ7 := by rw [e_ρ7]; exact (Fρ6).e (fun l a b => mu_ne (by first | assumption | decide | exact xs_ (by decide) | exact xc_ (by decide) | exact x31_ (by decide) | omega)) |>.v (fun l y a b c => mu_ne (by first | assumption | decide | exact xs_ (by decide) | exact xc_ (by decide) | exact x31_ (by decide) | omega))
      refine r_aload_n hC dX6_watch_35 rfl ?_
      refine z_getR hM dX6_watch_36 fl_RX6_40 rfl rfl (vld_of (n := 1) rfl (by first | assumption | decide | exact xs_ (by decide) | exact xc_ (by decide) | exact x31_ (by decide) | omega) (by first | assumption | decide | exact xs_ (by decide) | exact xc_ (by decide) | exact x31_ (by decide) | omega)) ?_
      refine r_iload_n hC dX6_watch_39 rfl ?_
      refine r_iload hC dX6_watch_40 rfl ?_
      refine z_iastT hM dX6_watch_42 rfl (by first | assumption | decide | exact xs_ (by decide) | exact xc_ (by decide) | exact x31_ (by decide) | omega) (by first | assumption | decide | exact xs_ (by decide) | exact xc_ (by decide) | exact x31_ (by decide) | omega) ⟨Or.inr (by simp [DL]), Or.inr (by simp [DF])⟩ (by first | trivial | (simp only [Okv]; omega) | (simp [Okv]; try omega)) ?_
      obtain ⟨ρ8, e_ρ8⟩ : ∃ zz_, zz_ = mu ρ7 41 0 v b := ⟨_, rfl⟩
      rw [← e_ρ8]
      have Sρ8 : SB t σ0 (mu (mu (mu V 12 v 0 l) 12 v 1 w) 12 v 2 b) ρ8 := by rw [e_ρ8]; exact Sρ7.pw2 (by first | assumption | decide | exact xs_ (by decide) | exact xc_ (by decide) | exact x31_ (by decide) | omega) (by first | assumption | decide | exact xs_ (by decide) | exact xc_ (by decide) | exact x31_ (by decide) | omega)
      have Kρ8 : KF t (mu (mu (mu V 12 v 0 l) 12 v 1 w) 12 v 2 b) ρ8 := by rw [e_ρ8]; exact (Kρ7).e (fun l a b => ⟨mu_ne (by first | assumption | decide | exact xs_ (by decide) | exact xc_ (by decide) | exact x31_ (by decide) | omega), mu_ne (by first | assumption | decide | exact xs_ (by decide) | exact xc_ (by decide) | exact x31_ (by decide) | omega)⟩) |>.v (fun l => mu_ne (by first | assumption | decide | exact xs_ (by decide) | exact xc_ (by decide) | exact x31_ (by decide) | omega))
      have Fρ8 : FB (mu (mu (mu V 12 v 0 l) 12 v 1 w) 12 v 2 b) ρ8 := by rw [e_ρ8]; exact (Fρ7).e (fun l a b => mu_ne (by first | assumption | decide | exact xs_ (by decide) | exact xc_ (by decide) | exact x31_ (by decide) | omega)) |>.v (fun l y a b c => mu_ne (by first | assumption | decide | exact xs_ (by decide) | exact xc_ (by decide) | exact x31_ (by decide) | omega))
      refine r_aload_n hC dX6_watch_43 rfl ?_
      refine z_getR hM dX6_watch_44 fl_RX6_43 rfl rfl (vld_of (n := 1) rfl (by first | assumption | decide | exact xs_ (by decide) | exact xc_ (by decide) | exact x31_ (by decide) | omega) (by first | assumption | decide | exact xs_ (by decide) | exact xc_ (by decide) | exact x31_ (by decide) | omega)) ?_
      refine r_iload_n hC dX6_watch_47 rfl ?_
      refine r_aload_n hC dX6_watch_48 rfl ?_
      refine r_iload_n hC dX6_watch_49 rfl ?_
      refine r_iload_n hC dX6_watch_50 rfl ?_
      refine r_iload hC dX6_watch_51 rfl ?_
      refine z_inv3 hM dX6_watch_53 vl_RX6_203 rfl rfl rfl (Nat.le_of_ble_eq_true rfl) (Nat.le_of_ble_eq_true rfl) ?_
      have hLV := hG.2.1.lk hG.1 (l := l) (by first | assumption | decide | exact xs_ (by decide) | exact xc_ (by decide) | exact x31_ (by decide) | omega) (by first | assumption | decide | exact xs_ (by decide) | exact xc_ (by decide) | exact x31_ (by decide) | omega)
      have e7 : ∀ y : Int, (mu (mu (mu V 12 v 0 l) 12 v 1 w) 12 v 2 b) 7 l y = V 7 l y := fun y => by rw [mu_ne (by first | assumption | decide | exact xs_ (by decide) | exact xc_ (by decide) | exact x31_ (by decide) | omega), mu_ne (by first | assumption | decide | exact xs_ (by decide) | exact xc_ (by decide) | exact x31_ (by decide) | omega), mu_ne (by first | assumption | decide | exact xs_ (by decide) | exact xc_ (by decide) | exact x31_ (by decide) | omega)]
      have hLW : LK (mu (mu (mu V 12 v 0 l) 12 v 1 w) 12 v 2 b) l := LK_w hLV (by first | assumption | decide | exact xs_ (by decide) | exact xc_ (by decide) | exact x31_ (by decide) | omega) (by first | assumption | decide | exact xs_ (by decide) | exact xc_ (by decide) | exact x31_ (by decide) | omega) (by first | assumption | decide | exact xs_ (by decide) | exact xc_ (by decide) | exact x31_ (by decide) | omega)
      refine y_reachedNow (V := (mu (mu (mu V 12 v 0 l) 12 v 1 w) 12 v 2 b)) (by first | assumption | decide | exact xs_ (by decide) | exact xc_ (by decide) | exact x31_ (by decide) | omega) (by first | assumption | decide | exact xs_ (by decide) | exact xc_ (by decide) | exact x31_ (by decide) | omega) ht ⟨Sρ8, Kρ8, Fρ8⟩ (by first | assumption | decide | exact xs_ (by decide) | exact xc_ (by decide) | exact x31_ (by decide) | omega) hLW (by rw [e7]; omega) (fun ρ9 Rρ9 => ?_)
      rw [rc1_g (V := V) (funext fun y => by rw [mu_ne (by first | assumption | decide | exact xs_ (by decide) | exact xc_ (by decide) | exact x31_ (by decide) | omega), mu_ne (by first | assumption | decide | exact xs_ (by decide) | exact xc_ (by decide) | exact x31_ (by decide) | omega), mu_ne (by first | assumption | decide | exact xs_ (by decide) | exact xc_ (by decide) | exact x31_ (by decide) | omega)]) (funext fun y => by rw [mu_ne (by first | assumption | decide | exact xs_ (by decide) | exact xc_ (by decide) | exact x31_ (by decide) | omega), mu_ne (by first | assumption | decide | exact xs_ (by decide) | exact xc_ (by decide) | exact x31_ (by decide) | omega), mu_ne (by first | assumption | decide | exact xs_ (by decide) | exact xc_ (by decide) | exact x31_ (by decide) | omega)]) e7 (funext fun y => by rw [mu_ne (by first | assumption | decide | exact xs_ (by decide) | exact xc_ (by decide) | exact x31_ (by decide) | omega), mu_ne (by first | assumption | decide | exact xs_ (by decide) | exact xc_ (by decide) | exact x31_ (by decide) | omega), mu_ne (by first | assumption | decide | exact xs_ (by decide) | exact xc_ (by decide) | exact x31_ (by decide) | omega)])]
      have e01 := rc1_01 V l w b
      refine z_iastT hM dX6_watch_56 rfl (by first | assumption | decide | exact xs_ (by decide) | exact xc_ (by decide) | exact x31_ (by decide) | omega) (by first | assumption | decide | exact xs_ (by decide) | exact xc_ (by decide) | exact x31_ (by decide) | omega) ⟨Or.inr (by simp [DL]), Or.inr (by simp [DF])⟩ (by first | trivial | (simp only [Okv]; omega) | (simp [Okv]; try omega)) ?_
      obtain ⟨ρ10, e_ρ10⟩ : ∃ zz_, zz_ = mu ρ9 42 0 v (rc1 V l w b) := ⟨_, rfl⟩
      rw [← e_ρ10]
      have Sρ10 : SB t σ0 (mu (mu (mu (mu V 12 v 0 l) 12 v 1 w) 12 v 2 b) 12 v 3 (rc1 V l w b)) ρ10 := by rw [e_ρ10]; exact Rρ9.1.pw3 (by first | assumption | decide | exact xs_ (by decide) | exact xc_ (by decide) | exact x31_ (by decide) | omega) (by first | assumption | decide | exact xs_ (by decide) | exact xc_ (by decide) | exact x31_ (by decide) | omega)
      have Kρ10 : KF t (mu (mu (mu (mu V 12 v 0 l) 12 v 1 w) 12 v 2 b) 12 v 3 (rc1 V l w b)) ρ10 := by rw [e_ρ10]; exact (Rρ9.2.1).e (fun l a b => ⟨mu_ne (by first | assumption | decide | exact xs_ (by decide) | exact xc_ (by decide) | exact x31_ (by decide) | omega), mu_ne (by first | assumption | decide | exact xs_ (by decide) | exact xc_ (by decide) | exact x31_ (by decide) | omega)⟩) |>.v (fun l => mu_ne (by first | assumption | decide | exact xs_ (by decide) | exact xc_ (by decide) | exact x31_ (by decide) | omega))
      have Fρ10 : FB (mu (mu (mu (mu V 12 v 0 l) 12 v 1 w) 12 v 2 b) 12 v 3 (rc1 V l w b)) ρ10 := by rw [e_ρ10]; exact (Rρ9.2.2).e (fun l a b => mu_ne (by first | assumption | decide | exact xs_ (by decide) | exact xc_ (by decide) | exact x31_ (by decide) | omega)) |>.v (fun l y a b c => mu_ne (by first | assumption | decide | exact xs_ (by decide) | exact xc_ (by decide) | exact x31_ (by decide) | omega))
      refine r_aload_n hC dX6_watch_57 rfl ?_
      refine z_getR hM dX6_watch_58 fl_RX6_46 rfl rfl (vld_of (n := 1) rfl (by first | assumption | decide | exact xs_ (by decide) | exact xc_ (by decide) | exact x31_ (by decide) | omega) (by first | assumption | decide | exact xs_ (by decide) | exact xc_ (by decide) | exact x31_ (by decide) | omega)) ?_
      refine r_iload_n hC dX6_watch_61 rfl ?_
      refine r_iconst hC dX6_watch_62 rfl ?_
      refine z_iastT hM dX6_watch_63 rfl (by first | assumption | decide | exact xs_ (by decide) | exact xc_ (by decide) | exact x31_ (by decide) | omega) (by first | assumption | decide | exact xs_ (by decide) | exact xc_ (by decide) | exact x31_ (by decide) | omega) ⟨Or.inr (by simp [DL]), Or.inr (by simp [DF])⟩ (by first | trivial | (simp only [Okv]; omega) | (simp [Okv]; try omega)) ?_
      obtain ⟨ρ11, e_ρ11⟩ : ∃ zz_, zz_ = mu ρ10 43 0 v 0 := ⟨_, rfl⟩
      rw [← e_ρ11]
      have Sρ11 : SB t σ0 (mu (mu (mu (mu (mu V 12 v 0 l) 12 v 1 w) 12 v 2 b) 12 v 3 (rc1 V l w b)) 12 v 4 0) ρ11 := by rw [e_ρ11]; exact Sρ10.pw4 (by first | assumption | decide | exact xs_ (by decide) | exact xc_ (by decide) | exact x31_ (by decide) | omega) (by first | assumption | decide | exact xs_ (by decide) | exact xc_ (by decide) | exact x31_ (by decide) | omega)
      have Kρ11 : KF t (mu (mu (mu (mu (mu V 12 v 0 l) 12 v 1 w) 12 v 2 b) 12 v 3 (rc1 V l w b)) 12 v 4 0) ρ11 := by rw [e_ρ11]; exact (Kρ10).e (fun l a b => ⟨mu_ne (by first | assumption | decide | exact xs_ (by decide) | exact xc_ (by decide) | exact x31_ (by decide) | omega), mu_ne (by first | assumption | decide | exact xs_ (by decide) | exact xc_ (by decide) | exact x31_ (by decide) | omega)⟩) |>.v (fun l => mu_ne (by first | assumption | decide | exact xs_ (by decide) | exact xc_ (by decide) | exact x31_ (by decide) | omega))
      have Fρ11 : FB (mu (mu (mu (mu (mu V 12 v 0 l) 12 v 1 w) 12 v 2 b) 12 v 3 (rc1 V l w b)) 12 v 4 0) ρ11 := by rw [e_ρ11]; exact (Fρ10).e (fun l a b => mu_ne (by first | assumption | decide | exact xs_ (by decide) | exact xc_ (by decide) | exact x31_ (by decide) | omega)) |>.v (fun l y a b c => mu_ne (by first | assumption | decide | exact xs_ (by decide) | exact xc_ (by decide) | exact x31_ (by decide) | omega))
      refine r_aload_n hC dX6_watch_64 rfl ?_
      refine z_getR hM dX6_watch_65 fl_RX6_49 rfl rfl (vld_of (n := 1) rfl (by first | assumption | decide | exact xs_ (by decide) | exact xc_ (by decide) | exact x31_ (by decide) | omega) (by first | assumption | decide | exact xs_ (by decide) | exact xc_ (by decide) | exact x31_ (by decide) | omega)) ?_
      refine r_iload_n hC dX6_watch_68 rfl ?_
      refine r_iconst hC dX6_watch_69 rfl ?_
      refine z_iastT hM dX6_watch_70 rfl (by first | assumption | decide | exact xs_ (by decide) | exact xc_ (by decide) | exact x31_ (by decide) | omega) (by first | assumption | decide | exact xs_ (by decide) | exact xc_ (by decide) | exact x31_ (by decide) | omega) ⟨Or.inr (by simp [DL]), Or.inr (by simp [DF])⟩ (by first | trivial | (simp only [Okv]; omega) | (simp [Okv]; try omega)) ?_
      obtain ⟨ρ12, e_ρ12⟩ : ∃ zz_, zz_ = mu ρ11 44 0 v (-1) := ⟨_, rfl⟩
      rw [← e_ρ12]
      have Sρ12 : SB t σ0 (mu (mu (mu (mu (mu (mu V 12 v 0 l) 12 v 1 w) 12 v 2 b) 12 v 3 (rc1 V l w b)) 12 v 4 0) 12 v 5 (-1)) ρ12 := by rw [e_ρ12]; exact Sρ11.pw5 (by first | assumption | decide | exact xs_ (by decide) | exact xc_ (by decide) | exact x31_ (by decide) | omega) (by first | assumption | decide | exact xs_ (by decide) | exact xc_ (by decide) | exact x31_ (by decide) | omega)
      have Kρ12 : KF t (mu (mu (mu (mu (mu (mu V 12 v 0 l) 12 v 1 w) 12 v 2 b) 12 v 3 (rc1 V l w b)) 12 v 4 0) 12 v 5 (-1)) ρ12 := by rw [e_ρ12]; exact (Kρ11).e (fun l a b => ⟨mu_ne (by first | assumption | decide | exact xs_ (by decide) | exact xc_ (by decide) | exact x31_ (by decide) | omega), mu_ne (by first | assumption | decide | exact xs_ (by decide) | exact xc_ (by decide) | exact x31_ (by decide) | omega)⟩) |>.v (fun l => mu_ne (by first | assumption | decide | exact xs_ (by decide) | exact xc_ (by decide) | exact x31_ (by decide) | omega))
      have Fρ12 : FB (mu (mu (mu (mu (mu (mu V 12 v 0 l) 12 v 1 w) 12 v 2 b) 12 v 3 (rc1 V l w b)) 12 v 4 0) 12 v 5 (-1)) ρ12 := by rw [e_ρ12]; exact (Fρ11).e (fun l a b => mu_ne (by first | assumption | decide | exact xs_ (by decide) | exact xc_ (by decide) | exact x31_ (by decide) | omega)) |>.v (fun l y a b c => mu_ne (by first | assumption | decide | exact xs_ (by decide) | exact xc_ (by decide) | exact x31_ (by decide) | omega))
      refine r_aload_n hC dX6_watch_71 rfl ?_
      refine z_getR hM dX6_watch_72 fl_RX6_43 rfl rfl (vld_of (n := 1) rfl (by first | assumption | decide | exact xs_ (by decide) | exact xc_ (by decide) | exact x31_ (by decide) | omega) (by first | assumption | decide | exact xs_ (by decide) | exact xc_ (by decide) | exact x31_ (by decide) | omega)) ?_
      refine r_iload_n hC dX6_watch_75 rfl ?_
      refine z_iald hM dX6_watch_76 rfl (by first | assumption | decide | exact xs_ (by decide) | exact xc_ (by decide) | exact x31_ (by decide) | omega) (by first | assumption | decide | exact xs_ (by decide) | exact xc_ (by decide) | exact x31_ (by decide) | omega) (fun v13 h_v13 o_v13 t_v13 => ?_)
      have w_v13 := ((t_v13 (Or.inl (by simp [Tb]))).trans ((Sρ12.w3 (by first | assumption | decide | exact xs_ (by decide) | exact xc_ (by decide) | exact x31_ (by decide) | omega) (by first | assumption | decide | exact xs_ (by decide) | exact xc_ (by decide) | exact x31_ (by decide) | omega)).trans ((mu_ne (by first | assumption | decide | exact xs_ (by decide) | exact xc_ (by decide) | exact x31_ (by decide) | omega)).trans ((mu_ne (by first | assumption | decide | exact xs_ (by decide) | exact xc_ (by decide) | exact x31_ (by decide) | omega)).trans (mu_self _ _ _ _ _))))).symm
      subst w_v13
      refine y_iret hK rfl dX6_watch_77 ?_
      have hM : wtM V v l w b = (mu (mu (mu (mu (mu (mu V 12 v 0 l) 12 v 1 w) 12 v 2 b) 12 v 3 (rc1 V l w b)) 12 v 4 0) 12 v 5 (-1)) := by
        exact if_pos (by first | assumption | decide | exact xs_ (by decide) | exact xc_ (by decide) | exact x31_ (by decide) | omega)
      have hRr : wtR V v l w b = (rc1 V l w b) := by
        exact if_pos (by first | assumption | decide | exact xs_ (by decide) | exact xc_ (by decide) | exact x31_ (by decide) | omega)
      rw [hM] at k
      rw [hRr] at k
      exact k _ ⟨Sρ12, Kρ12, Fρ12⟩
    · unfold lwC opV at h4
      have n_h4 := numF_rng (V 7 l 2)
      refine r_if_ne (tgt := 21) hC dX6_watch_16 rfl (fun h14 => by omega) (fun h14 => ?_)
      refine r_iconst hC dX6_watch_19 rfl ?_
      refine y_iret hK rfl dX6_watch_20 ?_
      have hM : wtM V v l w b = V := by
        exact if_neg (by first | assumption | decide | exact xs_ (by decide) | exact xc_ (by decide) | exact x31_ (by decide) | omega)
      have hRr : wtR V v l w b = (-1) := by
        exact if_neg (by first | assumption | decide | exact xs_ (by decide) | exact xc_ (by decide) | exact x31_ (by decide) | omega)
      rw [hM] at k
      rw [hRr] at k
      exact k _ ⟨hR.1, hR.2.1, hR.2.2⟩
  · refine r_if_eq (tgt := 19) hC dX6_watch_7 rfl (fun h15 => ?_) (fun h15 => by omega)
    refine r_iconst hC dX6_watch_19 rfl ?_
    refine y_iret hK rfl dX6_watch_20 ?_
    have hM : wtM V v l w b = V := by
      exact if_neg (by first | assumption | decide | exact xs_ (by decide) | exact xc_ (by decide) | exact x31_ (by decide) | omega)
    have hRr : wtR V v l w b = (-1) := by
      exact if_neg (by first | assumption | decide | exact xs_ (by decide) | exact xc_ (by decide) | exact x31_ (by decide) | omega)
    rw [hM] at k
    rw [hRr] at k
    exact k _ ⟨hR.1, hR.2.1, hR.2.2⟩
theorem y_shut {eb : Bool} {t : Int} {V : Mm} {d : Nat} {P : Option Vl → Mm → Prop} {σ : Mm} {l : Int}  {σ0 : Mm} (ht : 6 ≤ t ∧ t ≤ 7) (hR : RS t σ0 V σ) (hG : GI V)  (k : ∀ ρ : Mm, RS t σ0 (shM V l) ρ → P (some (vI (shR V l))) ρ) : WT (true, eb, true) (d + 3) 176 [vR 30 0, vI l] σ P := by
  refine WT_in fun K hK => ?_
  have hK : StpY (true, eb, true) cX6_shut RX6 (some .boolean) (WT (true, eb, true) (d + 2)) P K := hK
  have hM := hK.1
  have hC := hK.1.1
  show K 0 [some (vR 30 0), some (vI l)] [] σ
  refine r_rngz hC (fun g0 => ?_)
  have r_l : -2147483648 ≤ l ∧ l ≤ 2147483647 := inR_le (g0 (vI l) (by simp))
  refine r_aload_n hC dX6_shut_0 rfl ?_
  refine r_iload_n hC dX6_shut_1 rfl ?_
  refine z_inv1 hM dX6_shut_2 vl_RX6_124 rfl rfl rfl (Nat.le_of_ble_eq_true rfl) (Nat.le_of_ble_eq_true rfl) ?_
  refine y_isLane (V := V) ht ⟨hR.1, hR.2.1, hR.2.2⟩ (fun h1 => ?_) (fun h1 => ?_)
  · unfold opV at h1
    refine r_if_ne (tgt := 10) hC dX6_shut_5 rfl (fun h2 => ?_) (fun h2 => by omega)
    refine r_aload_n hC dX6_shut_10 rfl ?_
    refine r_iload_n hC dX6_shut_11 rfl ?_
    refine r_iconst hC dX6_shut_12 rfl ?_
    refine r_iconst hC dX6_shut_13 rfl ?_
    refine z_inv3 hM dX6_shut_14 vl_RX6_173 rfl rfl rfl (Nat.le_of_ble_eq_true rfl) (Nat.le_of_ble_eq_true rfl) ?_
    refine y_set (by first | assumption | decide | exact xs_ (by decide) | exact xc_ (by decide) | exact x31_ (by decide) | omega) (by first | assumption | decide | exact xs_ (by decide) | exact xc_ (by decide) | exact x31_ (by decide) | omega) ⟨fun h => by omega, fun h => by omega⟩ ?_
    obtain ⟨ρ3, e_ρ3⟩ : ∃ zz_, zz_ = mu σ 31 0 ((22 * l) + 0) 0 := ⟨_, rfl⟩
    rw [← e_ρ3]
    have Sρ3 : SB t σ0 (mu V 7 l 1 0) ρ3 := by rw [e_ρ3, show ((22 * l) + 0) = 22 * l + 0 from by omega]; exact hR.1.p7 (by first | assumption | decide | exact xs_ (by decide) | exact xc_ (by decide) | exact x31_ (by decide) | omega) (by first | assumption | decide | exact xs_ (by decide) | exact xc_ (by decide) | exact x31_ (by decide) | omega) (by first | assumption | decide | exact xs_ (by decide) | exact xc_ (by decide) | exact x31_ (by decide) | omega)
    have Kρ3 : KF t (mu V 7 l 1 0) ρ3 := by rw [e_ρ3]; exact (hR.2.1).e (fun l a b => ⟨mu_ne (by first | assumption | decide | exact xs_ (by decide) | exact xc_ (by decide) | exact x31_ (by decide) | omega), mu_ne (by first | assumption | decide | exact xs_ (by decide) | exact xc_ (by decide) | exact x31_ (by decide) | omega)⟩) |>.v (fun l => mu_ne (by first | assumption | decide | exact xs_ (by decide) | exact xc_ (by decide) | exact x31_ (by decide) | omega))
    have Fρ3 : FB (mu V 7 l 1 0) ρ3 := by rw [e_ρ3]; exact (hR.2.2).e (fun l a b => mu_ne (by first | assumption | decide | exact xs_ (by decide) | exact xc_ (by decide) | exact x31_ (by decide) | omega)) |>.v (fun l y a b c => mu_ne (by first | assumption | decide | exact xs_ (by decide) | exact xc_ (by decide) | exact x31_ (by decide) | omega))
    refine r_aload_n hC dX6_shut_17 rfl ?_
    refine r_iload_n hC dX6_shut_18 rfl ?_
    refine z_inv1 hM dX6_shut_19 vl_RX6_176 rfl rfl rfl (Nat.le_of_ble_eq_true rfl) (Nat.le_of_ble_eq_true rfl) ?_
    refine y_endWatches (V := (mu V 7 l 1 0)) (by first | assumption | decide | exact xs_ (by decide) | exact xc_ (by decide) | exact x31_ (by decide) | omega) ht ⟨Sρ3, Kρ3, Fρ3⟩ (fun ρ4 Rρ4 => ?_)
    refine r_aload_n hC dX6_shut_22 rfl ?_
    refine r_iload_n hC dX6_shut_23 rfl ?_
    refine z_inv1 hM dX6_shut_24 vl_RX6_179 rfl rfl rfl (Nat.le_of_ble_eq_true rfl) (Nat.le_of_ble_eq_true rfl) ?_
    refine y_endLinks (V := (etA (mu V 7 l 1 0) l 8)) (by first | assumption | decide | exact xs_ (by decide) | exact xc_ (by decide) | exact x31_ (by decide) | omega) ht ⟨Rρ4.1, Rρ4.2.1, Rρ4.2.2⟩ (fun ρ5 Rρ5 => ?_)
    refine r_iconst hC dX6_shut_27 rfl ?_
    refine y_zret hK rfl dX6_shut_28 (by first | assumption | decide | exact xs_ (by decide) | exact xc_ (by decide) | exact x31_ (by decide) | omega) ?_
    have hM : shM V l = (etB (etA (mu V 7 l 1 0) l 8) l 4) := by
      exact if_pos (by first | assumption | decide | exact xs_ (by decide) | exact xc_ (by decide) | exact x31_ (by decide) | omega)
    have hRr : shR V l = 1 := by
      exact if_pos (by first | assumption | decide | exact xs_ (by decide) | exact xc_ (by decide) | exact x31_ (by decide) | omega)
    rw [hM] at k
    rw [hRr] at k
    exact k _ ⟨Rρ5.1, Rρ5.2.1, Rρ5.2.2⟩
  · unfold opV at h1
    refine r_if_ne (tgt := 10) hC dX6_shut_5 rfl (fun h6 => by omega) (fun h6 => ?_)
    refine r_iconst hC dX6_shut_8 rfl ?_
    refine y_zret hK rfl dX6_shut_9 (by first | assumption | decide | exact xs_ (by decide) | exact xc_ (by decide) | exact x31_ (by decide) | omega) ?_
    have hM : shM V l = V := by
      exact if_neg (by first | assumption | decide | exact xs_ (by decide) | exact xc_ (by decide) | exact x31_ (by decide) | omega)
    have hRr : shR V l = 0 := by
      exact if_neg (by first | assumption | decide | exact xs_ (by decide) | exact xc_ (by decide) | exact x31_ (by decide) | omega)
    rw [hM] at k
    rw [hRr] at k
    exact k _ ⟨hR.1, hR.2.1, hR.2.2⟩
theorem y_isUsed {eb : Bool} {t : Int} {V : Mm} {d : Nat} {P : Option Vl → Mm → Prop} {σ : Mm} {o : Int}  {σ0 : Mm} (ht : 6 ≤ t ∧ t ≤ 7) (hR : RS t σ0 V σ)  (k1 : usV V o → P (some (vI 1)) σ) (k0 : ¬ usV V o → P (some (vI 0)) σ) : WT (true, eb, true) (d + 2) 142 [vR 30 0, vI o] σ P := by
  refine WT_in fun K hK => ?_
  have hK : StpY (true, eb, true) cX6_isUsed RX6 (some .boolean) (WT (true, eb, true) (d + 1)) P K := hK
  have hM := hK.1
  have hC := hK.1.1
  show K 0 [some (vR 30 0), some (vI o), none] [] σ
  refine r_rngz hC (fun g0 => ?_)
  have r_o : -2147483648 ≤ o ∧ o ≤ 2147483647 := inR_le (g0 (vI o) (by simp))
  refine r_iconst hC dX6_isUsed_0 rfl ?_
  refine r_istore_n hC dX6_isUsed_1 rfl ?_
  have L2 : ∀ (n2 : Nat) (w1 : Int), 0 ≤ w1 ∧ w1 ≤ 7 → (∀ j : Int, 0 ≤ j → j < (w1) → ¬ (V 7 j 1 = 1 ∧ V 7 j 2 = o)) → 7 - w1 < (n2 : Int) → K 2 [some (vR 30 0), some (vI o), some (vI w1)] [] σ := by
    intro n2
    induction n2 with
    | zero => intro w1  f_w1 i0_2 hm  ; omega
    | succ n2 ih2 =>
      intro w1  f_w1 i0_2 hm2  
      refine r_iload_n hC dX6_isUsed_2 rfl ?_
      refine r_bipush hC dX6_isUsed_3 rfl ?_
      refine r_icmp_ge (tgt := 36) hC dX6_isUsed_5 rfl (fun h2 => ?_) (fun h2 => ?_)
      · refine r_iconst hC dX6_isUsed_36 rfl ?_
        refine y_zret hK rfl dX6_isUsed_37 (by first | assumption | decide | exact xs_ (by decide) | exact xc_ (by decide) | exact x31_ (by decide) | omega) ?_
        exact k0 (by rintro ⟨j, j0, j1, j2⟩; exact i0_2 j j0.1 (by first | assumption | decide | exact xs_ (by decide) | exact xc_ (by decide) | exact x31_ (by decide) | omega) ⟨j1, j2⟩)
      · refine r_aload_n hC dX6_isUsed_8 rfl ?_
        refine r_iload_n hC dX6_isUsed_9 rfl ?_
        refine r_iconst hC dX6_isUsed_10 rfl ?_
        refine z_inv2 hM dX6_isUsed_11 vl_RX6_80 rfl rfl rfl (Nat.le_of_ble_eq_true rfl) (Nat.le_of_ble_eq_true rfl) ?_
        refine y_of (by first | assumption | decide | exact xs_ (by decide) | exact xc_ (by decide) | exact x31_ (by decide) | omega) (by first | assumption | decide | exact xs_ (by decide) | exact xc_ (by decide) | exact x31_ (by decide) | omega) (by first | assumption | decide | exact xs_ (by decide) | exact xc_ (by decide) | exact x31_ (by decide) | omega) (fun o3 => ?_)
        have e4 : σ 31 0 (22 * w1 + 0) = (V 7 w1 1) := (hR.1.a7 (s := 1) (f := 0) (by first | assumption | decide | exact xs_ (by decide) | exact xc_ (by decide) | exact x31_ (by decide) | omega) (by first | assumption | decide | exact xs_ (by decide) | exact xc_ (by decide) | exact x31_ (by decide) | omega) (by first | assumption | decide | exact xs_ (by decide) | exact xc_ (by decide) | exact x31_ (by decide) | omega)).trans (rfl)
        rw [e4] at o3 ⊢
        have qo3 : 0 ≤ (V 7 w1 1) ∧ (V 7 w1 1) ≤ 1 := by have := o3.2 (by first | assumption | decide | exact xs_ (by decide) | exact xc_ (by decide) | exact x31_ (by decide) | omega); omega
        refine r_iconst hC dX6_isUsed_14 rfl ?_
        refine r_icmp_ne (tgt := 30) hC dX6_isUsed_15 rfl (fun h5 => ?_) (fun h5 => ?_)
        · refine r_iincE hC ((w1 + 1)) dX6_isUsed_30 rfl rfl (by first | assumption | decide | exact xs_ (by decide) | exact xc_ (by decide) | exact x31_ (by decide) | omega) (by unfold inR; omega) ?_
          refine r_goto (tgt := 2) hC dX6_isUsed_33 rfl ?_
          exact ih2 ((w1 + 1))  (by first | assumption | decide | exact xs_ (by decide) | exact xc_ (by decide) | exact x31_ (by decide) | omega) (by intro j h0 h1; first | omega | (rcases (by omega : j < w1 ∨ j = w1) with h | h; exact i0_2 j h0 h; subst h; omega)) (by first | assumption | decide | exact xs_ (by decide) | exact xc_ (by decide) | exact x31_ (by decide) | omega)  
        · refine r_aload_n hC dX6_isUsed_18 rfl ?_
          refine r_iload_n hC dX6_isUsed_19 rfl ?_
          refine r_iconst hC dX6_isUsed_20 rfl ?_
          refine z_inv2 hM dX6_isUsed_21 vl_RX6_80 rfl rfl rfl (Nat.le_of_ble_eq_true rfl) (Nat.le_of_ble_eq_true rfl) ?_
          refine y_of (by first | assumption | decide | exact xs_ (by decide) | exact xc_ (by decide) | exact x31_ (by decide) | omega) (by first | assumption | decide | exact xs_ (by decide) | exact xc_ (by decide) | exact x31_ (by decide) | omega) (by first | assumption | decide | exact xs_ (by decide) | exact xc_ (by decide) | exact x31_ (by decide) | omega) (fun o6 => ?_)
          have e7 : σ 31 0 (22 * w1 + 1) = (V 7 w1 2) := (hR.1.a7 (s := 2) (f := 1) (by first | assumption | decide | exact xs_ (by decide) | exact xc_ (by decide) | exact x31_ (by decide) | omega) (by first | assumption | decide | exact xs_ (by decide) | exact xc_ (by decide) | exact x31_ (by decide) | omega) (by first | assumption | decide | exact xs_ (by decide) | exact xc_ (by decide) | exact x31_ (by decide) | omega)).trans (rfl)
          rw [e7] at o6 ⊢
          refine r_iload_n hC dX6_isUsed_24 rfl ?_
          refine r_icmp_ne (tgt := 30) hC dX6_isUsed_25 rfl (fun h8 => ?_) (fun h8 => ?_)
          · refine r_iincE hC ((w1 + 1)) dX6_isUsed_30 rfl rfl (by first | assumption | decide | exact xs_ (by decide) | exact xc_ (by decide) | exact x31_ (by decide) | omega) (by unfold inR; omega) ?_
            refine r_goto (tgt := 2) hC dX6_isUsed_33 rfl ?_
            exact ih2 ((w1 + 1))  (by first | assumption | decide | exact xs_ (by decide) | exact xc_ (by decide) | exact x31_ (by decide) | omega) (by intro j h0 h1; first | omega | (rcases (by omega : j < w1 ∨ j = w1) with h | h; exact i0_2 j h0 h; subst h; omega)) (by first | assumption | decide | exact xs_ (by decide) | exact xc_ (by decide) | exact x31_ (by decide) | omega)  
          · refine r_iconst hC dX6_isUsed_28 rfl ?_
            refine y_zret hK rfl dX6_isUsed_29 (by first | assumption | decide | exact xs_ (by decide) | exact xc_ (by decide) | exact x31_ (by decide) | omega) ?_
            exact k1 ⟨w1, by omega, by omega, by omega⟩
  exact L2 9 (0)  (by first | assumption | decide | exact xs_ (by decide) | exact xc_ (by decide) | exact x31_ (by decide) | omega) (by intro j h0 h1; first | omega | (rcases (by omega : j < w1 ∨ j = w1) with h | h; exact i0_2 j h0 h; subst h; omega)) (by first | assumption | decide | exact xs_ (by decide) | exact xc_ (by decide) | exact x31_ (by decide) | omega)  
theorem y_table {eb : Bool} {t : Int} {V : Mm} {d : Nat} {P : Option Vl → Mm → Prop} {σ : Mm} {x y : Int}  {σ0 : Mm} (ht : 6 ≤ t ∧ t ≤ 7) (hR : RS t σ0 V σ)  (k1 : ((0 ≤ x ∧ x ≤ 15) ∧ 0 ≤ y ∧ y ≤ 3) ∧ ¬ usV V 9 → ∀ ρ : Mm, RS t σ0 (mu V 15 0 x y) ρ → P (some (vI 1)) ρ) (k0 : ¬ (((0 ≤ x ∧ x ≤ 15) ∧ 0 ≤ y ∧ y ≤ 3) ∧ ¬ usV V 9) → ∀ ρ : Mm, RS t σ0 V ρ → P (some (vI 0)) ρ) : WT (true, eb, true) (d + 3) 143 [vR 30 0, vI x, vI y] σ P := by
  refine WT_in fun K hK => ?_
  have hK : StpY (true, eb, true) cX6_table RX6 (some .boolean) (WT (true, eb, true) (d + 2)) P K := hK
  have hM := hK.1
  have hC := hK.1.1
  show K 0 [some (vR 30 0), some (vI x), some (vI y)] [] σ
  refine r_rngz hC (fun g0 => ?_)
  have r_x : -2147483648 ≤ x ∧ x ≤ 2147483647 := inR_le (g0 (vI x) (by simp))
  have r_y : -2147483648 ≤ y ∧ y ≤ 2147483647 := inR_le (g0 (vI y) (by simp))
  refine r_iload_n hC dX6_table_0 rfl ?_
  refine r_iconst hC dX6_table_1 rfl ?_
  refine r_bipush hC dX6_table_2 rfl ?_
  refine z_ins3 hM dX6_table_4 tl_RX6_76 rfl (Nat.le_of_ble_eq_true rfl) (Nat.le_of_ble_eq_true rfl) ?_
  refine m_isIn (fun h2 => ?_) (fun h2 => ?_)
  · refine r_if_eq (tgt := 28) hC dX6_table_7 rfl (fun h3 => by omega) (fun h3 => ?_)
    refine r_iload_n hC dX6_table_10 rfl ?_
    refine r_iconst hC dX6_table_11 rfl ?_
    refine r_iconst hC dX6_table_12 rfl ?_
    refine z_ins3 hM dX6_table_13 tl_RX6_76 rfl (Nat.le_of_ble_eq_true rfl) (Nat.le_of_ble_eq_true rfl) ?_
    refine m_isIn (fun h5 => ?_) (fun h5 => ?_)
    · refine r_if_eq (tgt := 28) hC dX6_table_16 rfl (fun h6 => by omega) (fun h6 => ?_)
      refine r_aload_n hC dX6_table_19 rfl ?_
      refine r_bipush hC dX6_table_20 rfl ?_
      refine z_inv1 hM dX6_table_22 vl_RX6_84 rfl rfl rfl (Nat.le_of_ble_eq_true rfl) (Nat.le_of_ble_eq_true rfl) ?_
      refine y_isUsed (V := V) ht ⟨hR.1, hR.2.1, hR.2.2⟩ (fun hus => ?_) (fun hus => ?_)
      · refine r_if_eq (tgt := 30) hC dX6_table_25 rfl (fun h7 => by omega) (fun h7 => ?_)
        refine r_iconst hC dX6_table_28 rfl ?_
        refine y_zret hK rfl dX6_table_29 (by first | assumption | decide | exact xs_ (by decide) | exact xc_ (by decide) | exact x31_ (by decide) | omega) ?_
        exact k0 (fun q => by have q1 := q.1; first | omega | exact q.2 hus) _ ⟨hR.1, hR.2.1, hR.2.2⟩
      · refine r_if_eq (tgt := 30) hC dX6_table_25 rfl (fun h8 => ?_) (fun h8 => by omega)
        refine r_aload_n hC dX6_table_30 rfl ?_
        refine z_getR hM dX6_table_31 fl_RX6_22 rfl rfl (vld_of (n := 1) rfl (by first | assumption | decide | exact xs_ (by decide) | exact xc_ (by decide) | exact x31_ (by decide) | omega) (by first | assumption | decide | exact xs_ (by decide) | exact xc_ (by decide) | exact x31_ (by decide) | omega)) ?_
        refine r_iload_n hC dX6_table_34 rfl ?_
        refine r_iload_n hC dX6_table_35 rfl ?_
        refine z_iastT hM dX6_table_36 rfl (by first | assumption | decide | exact xs_ (by decide) | exact xc_ (by decide) | exact x31_ (by decide) | omega) (by first | assumption | decide | exact xs_ (by decide) | exact xc_ (by decide) | exact x31_ (by decide) | omega) ⟨Or.inr (by simp [DL]), Or.inr (by simp [DF])⟩ (by first | trivial | (simp only [Okv]; omega) | (simp [Okv]; try omega)) ?_
        obtain ⟨ρ9, e_ρ9⟩ : ∃ zz_, zz_ = mu σ 35 0 x y := ⟨_, rfl⟩
        rw [← e_ρ9]
        have Sρ9 : SB t σ0 (mu V 15 0 x y) ρ9 := by rw [e_ρ9]; exact hR.1.p15 (by first | assumption | decide | exact xs_ (by decide) | exact xc_ (by decide) | exact x31_ (by decide) | omega) (by first | assumption | decide | exact xs_ (by decide) | exact xc_ (by decide) | exact x31_ (by decide) | omega)
        have Kρ9 : KF t (mu V 15 0 x y) ρ9 := by rw [e_ρ9]; exact (hR.2.1).e (fun l a b => ⟨mu_ne (by first | assumption | decide | exact xs_ (by decide) | exact xc_ (by decide) | exact x31_ (by decide) | omega), mu_ne (by first | assumption | decide | exact xs_ (by decide) | exact xc_ (by decide) | exact x31_ (by decide) | omega)⟩) |>.v (fun l => mu_ne (by first | assumption | decide | exact xs_ (by decide) | exact xc_ (by decide) | exact x31_ (by decide) | omega))
        have Fρ9 : FB (mu V 15 0 x y) ρ9 := by rw [e_ρ9]; exact (hR.2.2).e (fun l a b => mu_ne (by first | assumption | decide | exact xs_ (by decide) | exact xc_ (by decide) | exact x31_ (by decide) | omega)) |>.v (fun l y a b c => mu_ne (by first | assumption | decide | exact xs_ (by decide) | exact xc_ (by decide) | exact x31_ (by decide) | omega))
        refine r_iconst hC dX6_table_37 rfl ?_
        refine y_zret hK rfl dX6_table_38 (by first | assumption | decide | exact xs_ (by decide) | exact xc_ (by decide) | exact x31_ (by decide) | omega) ?_
        exact k1 ⟨by omega, hus⟩ _ ⟨Sρ9, Kρ9, Fρ9⟩
    · refine r_if_eq (tgt := 28) hC dX6_table_16 rfl (fun h10 => ?_) (fun h10 => by omega)
      refine r_iconst hC dX6_table_28 rfl ?_
      refine y_zret hK rfl dX6_table_29 (by first | assumption | decide | exact xs_ (by decide) | exact xc_ (by decide) | exact x31_ (by decide) | omega) ?_
      exact k0 (fun q => by have q1 := q.1; first | omega | exact q.2 hus) _ ⟨hR.1, hR.2.1, hR.2.2⟩
  · refine r_if_eq (tgt := 28) hC dX6_table_7 rfl (fun h11 => ?_) (fun h11 => by omega)
    refine r_iconst hC dX6_table_28 rfl ?_
    refine y_zret hK rfl dX6_table_29 (by first | assumption | decide | exact xs_ (by decide) | exact xc_ (by decide) | exact x31_ (by decide) | omega) ?_
    exact k0 (fun q => by have q1 := q.1; first | omega | exact q.2 hus) _ ⟨hR.1, hR.2.1, hR.2.2⟩
theorem y_letter {eb : Bool} {t : Int} {V : Mm} {d : Nat} {P : Option Vl → Mm → Prop} {σ : Mm} {x y : Int}  {σ0 : Mm} (ht : 6 ≤ t ∧ t ≤ 7) (hR : RS t σ0 V σ)  (k1 : ((0 ≤ x ∧ x ≤ 7) ∧ 0 ≤ y ∧ y ≤ 255) ∧ ¬ usV V 4 → ∀ ρ : Mm, RS t σ0 (mu V 16 0 x y) ρ → P (some (vI 1)) ρ) (k0 : ¬ (((0 ≤ x ∧ x ≤ 7) ∧ 0 ≤ y ∧ y ≤ 255) ∧ ¬ usV V 4) → ∀ ρ : Mm, RS t σ0 V ρ → P (some (vI 0)) ρ) : WT (true, eb, true) (d + 3) 144 [vR 30 0, vI x, vI y] σ P := by
  refine WT_in fun K hK => ?_
  have hK : StpY (true, eb, true) cX6_letter RX6 (some .boolean) (WT (true, eb, true) (d + 2)) P K := hK
  have hM := hK.1
  have hC := hK.1.1
  show K 0 [some (vR 30 0), some (vI x), some (vI y)] [] σ
  refine r_rngz hC (fun g0 => ?_)
  have r_x : -2147483648 ≤ x ∧ x ≤ 2147483647 := inR_le (g0 (vI x) (by simp))
  have r_y : -2147483648 ≤ y ∧ y ≤ 2147483647 := inR_le (g0 (vI y) (by simp))
  refine r_iload_n hC dX6_letter_0 rfl ?_
  refine r_iconst hC dX6_letter_1 rfl ?_
  refine r_bipush hC dX6_letter_2 rfl ?_
  refine z_ins3 hM dX6_letter_4 tl_RX6_76 rfl (Nat.le_of_ble_eq_true rfl) (Nat.le_of_ble_eq_true rfl) ?_
  refine m_isIn (fun h2 => ?_) (fun h2 => ?_)
  · refine r_if_eq (tgt := 29) hC dX6_letter_7 rfl (fun h3 => by omega) (fun h3 => ?_)
    refine r_iload_n hC dX6_letter_10 rfl ?_
    refine r_iconst hC dX6_letter_11 rfl ?_
    refine r_sipush hC dX6_letter_12 rfl ?_
    refine z_ins3 hM dX6_letter_15 tl_RX6_76 rfl (Nat.le_of_ble_eq_true rfl) (Nat.le_of_ble_eq_true rfl) ?_
    refine m_isIn (fun h5 => ?_) (fun h5 => ?_)
    · refine r_if_eq (tgt := 29) hC dX6_letter_18 rfl (fun h6 => by omega) (fun h6 => ?_)
      refine r_aload_n hC dX6_letter_21 rfl ?_
      refine r_iconst hC dX6_letter_22 rfl ?_
      refine z_inv1 hM dX6_letter_23 vl_RX6_84 rfl rfl rfl (Nat.le_of_ble_eq_true rfl) (Nat.le_of_ble_eq_true rfl) ?_
      refine y_isUsed (V := V) ht ⟨hR.1, hR.2.1, hR.2.2⟩ (fun hus => ?_) (fun hus => ?_)
      · refine r_if_eq (tgt := 31) hC dX6_letter_26 rfl (fun h7 => by omega) (fun h7 => ?_)
        refine r_iconst hC dX6_letter_29 rfl ?_
        refine y_zret hK rfl dX6_letter_30 (by first | assumption | decide | exact xs_ (by decide) | exact xc_ (by decide) | exact x31_ (by decide) | omega) ?_
        exact k0 (fun q => by have q1 := q.1; first | omega | exact q.2 hus) _ ⟨hR.1, hR.2.1, hR.2.2⟩
      · refine r_if_eq (tgt := 31) hC dX6_letter_26 rfl (fun h8 => ?_) (fun h8 => by omega)
        refine r_aload_n hC dX6_letter_31 rfl ?_
        refine z_getR hM dX6_letter_32 fl_RX6_25 rfl rfl (vld_of (n := 1) rfl (by first | assumption | decide | exact xs_ (by decide) | exact xc_ (by decide) | exact x31_ (by decide) | omega) (by first | assumption | decide | exact xs_ (by decide) | exact xc_ (by decide) | exact x31_ (by decide) | omega)) ?_
        refine r_iload_n hC dX6_letter_35 rfl ?_
        refine r_iload_n hC dX6_letter_36 rfl ?_
        refine z_iastT hM dX6_letter_37 rfl (by first | assumption | decide | exact xs_ (by decide) | exact xc_ (by decide) | exact x31_ (by decide) | omega) (by first | assumption | decide | exact xs_ (by decide) | exact xc_ (by decide) | exact x31_ (by decide) | omega) ⟨Or.inr (by simp [DL]), Or.inr (by simp [DF])⟩ (by first | trivial | (simp only [Okv]; omega) | (simp [Okv]; try omega)) ?_
        obtain ⟨ρ9, e_ρ9⟩ : ∃ zz_, zz_ = mu σ 36 0 x y := ⟨_, rfl⟩
        rw [← e_ρ9]
        have Sρ9 : SB t σ0 (mu V 16 0 x y) ρ9 := by rw [e_ρ9]; exact hR.1.p16 (by first | assumption | decide | exact xs_ (by decide) | exact xc_ (by decide) | exact x31_ (by decide) | omega) (by first | assumption | decide | exact xs_ (by decide) | exact xc_ (by decide) | exact x31_ (by decide) | omega)
        have Kρ9 : KF t (mu V 16 0 x y) ρ9 := by rw [e_ρ9]; exact (hR.2.1).e (fun l a b => ⟨mu_ne (by first | assumption | decide | exact xs_ (by decide) | exact xc_ (by decide) | exact x31_ (by decide) | omega), mu_ne (by first | assumption | decide | exact xs_ (by decide) | exact xc_ (by decide) | exact x31_ (by decide) | omega)⟩) |>.v (fun l => mu_ne (by first | assumption | decide | exact xs_ (by decide) | exact xc_ (by decide) | exact x31_ (by decide) | omega))
        have Fρ9 : FB (mu V 16 0 x y) ρ9 := by rw [e_ρ9]; exact (hR.2.2).e (fun l a b => mu_ne (by first | assumption | decide | exact xs_ (by decide) | exact xc_ (by decide) | exact x31_ (by decide) | omega)) |>.v (fun l y a b c => mu_ne (by first | assumption | decide | exact xs_ (by decide) | exact xc_ (by decide) | exact x31_ (by decide) | omega))
        refine r_iconst hC dX6_letter_38 rfl ?_
        refine y_zret hK rfl dX6_letter_39 (by first | assumption | decide | exact xs_ (by decide) | exact xc_ (by decide) | exact x31_ (by decide) | omega) ?_
        exact k1 ⟨by omega, hus⟩ _ ⟨Sρ9, Kρ9, Fρ9⟩
    · refine r_if_eq (tgt := 29) hC dX6_letter_18 rfl (fun h10 => ?_) (fun h10 => by omega)
      refine r_iconst hC dX6_letter_29 rfl ?_
      refine y_zret hK rfl dX6_letter_30 (by first | assumption | decide | exact xs_ (by decide) | exact xc_ (by decide) | exact x31_ (by decide) | omega) ?_
      exact k0 (fun q => by have q1 := q.1; first | omega | exact q.2 hus) _ ⟨hR.1, hR.2.1, hR.2.2⟩
  · refine r_if_eq (tgt := 29) hC dX6_letter_7 rfl (fun h11 => ?_) (fun h11 => by omega)
    refine r_iconst hC dX6_letter_29 rfl ?_
    refine y_zret hK rfl dX6_letter_30 (by first | assumption | decide | exact xs_ (by decide) | exact xc_ (by decide) | exact x31_ (by decide) | omega) ?_
    exact k0 (fun q => by have q1 := q.1; first | omega | exact q.2 hus) _ ⟨hR.1, hR.2.1, hR.2.2⟩
-- B: what is asked of a LANE
def evR (V : Mm) (l x w : Int) : Int := if evC V l x then (if w = 0 then V 8 l x else if w = 1 then V 9 l x else if w = 2 then V 10 l x else -2147483648) else -2147483648
def ptV (V : Mm) (l f z w : Int) : Int := cm (V 16 0) (V 15 0) (V 7 l 2) (fun j => V 9 l (f + j)) (z - f).toNat w
def ttR (V : Mm) (l w : Int) : Int := if lwC V l w then ptV V l 0 (V 7 l 6) w else -2147483648
def laR (V : Mm) (l h w : Int) : Int := if 0 ≤ h ∧ h ≤ 2 then ttR V l w else -2147483648
def ptR (V : Mm) (l f z w : Int) : Int := if lwC V l w ∧ 0 ≤ f ∧ f ≤ z ∧ z < V 7 l 6 then ptV V l f (z + 1) w else -2147483648
def duR (V : Mm) (l f z w : Int) : Int := if lwC V l w then ptV V l (hU V l (f - 1)) (hU V l z) w else -2147483648
def mnR (V : Mm) (l f z : Int) : Int := if opV V l then max 0 (hU V l z - hU V l (f - 1)) else -1
def stR (V : Mm) (l w : Int) : Int := if opV V l then (if w = 0 then V 11 l 0 else if w = 1 then V 11 l 1 else if w = 2 then V 11 l 2 else if w = 3 then V 11 l 3 else if w = 4 then V 11 l 4 else if w = 5 then V 11 l 5 else if w = 6 then V 11 l 6 else -1) else -1
def soR (V : Mm) (l w : Int) : Int := if opV V l then (if w = 0 then (if 0 < V 11 l 3 then -1 else V 11 l 0 + 1 - V 11 l 2) else if w = 1 then (if 0 < V 11 l 3 then (V 11 l 3 + 2) / 3 else -1) else -1) else -1
def lkR (V : Mm) (l w : Int) : Int := if ulC V l then (if w = 0 then V 13 l 0 else if w = 1 then V 13 l 1 else if w = 2 then V 13 l 2 else if w = 3 then V 13 l 3 else -1) else -1
abbrev wtd (V : Mm) (v : Int) : Prop := (0 ≤ v ∧ v ≤ 7) ∧ V 12 v 0 ≠ -1
def riR (V : Mm) (v : Int) : Int := if wtd V v then V 12 v 4 else -1
def raR (V : Mm) (v : Int) : Int := if wtd V v then V 12 v 5 else -1
