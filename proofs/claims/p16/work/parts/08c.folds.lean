-- B: the reference, what it makes of its row
theorem y_rest {e : Ev} {d : Nat} {P : Option Vl → Mm → Prop} {σ : Mm} {a b : Int} (b_b : 1 ≤ b ∧ b ≤ 1000)  (k : 0 ≤ a % b ∧ a % b < b → P (some (vI (a % b))) σ) : WT e (d + 1) 162 [vI a, vI b] σ P := by
  refine WT_in fun K hK => ?_
  have hK : StpY e cX6_rest RX6 (some .int) (WT e (d + 0)) P K := hK
  have hM := hK.1
  have hC := hK.1.1
  show K 0 [some (vI a), some (vI b), none] [] σ
  refine r_rngz hC (fun g0 => ?_)
  have r_a : -2147483648 ≤ a ∧ a ≤ 2147483647 := inR_le (g0 (vI a) (by simp))
  refine r_iload_n hC dX6_rest_0 rfl ?_
  refine r_iload_n hC dX6_rest_1 rfl ?_
  refine r_irem hC dX6_rest_2 (by omega) ?_
  have f_v1 := tmod_fr (a := a) (b := b) (by omega)
  refine r_istore_n hC dX6_rest_3 rfl ?_
  refine r_iload_n hC dX6_rest_4 rfl ?_
  refine r_if_ge (tgt := 14) hC dX6_rest_5 rfl (fun h2 => ?_) (fun h2 => ?_)
  · refine r_iload_n hC dX6_rest_14 rfl ?_
    refine y_iret hK rfl dX6_rest_15 ?_
    have e := emod_tm (a := a) (b := b) (by omega)
    have e2 : a % b = (Int.tmod a b) := by omega
    rw [e2] at k
    exact k (by omega)
  · refine r_iload_n hC dX6_rest_8 rfl ?_
    refine r_iload_n hC dX6_rest_9 rfl ?_
    refine r_iaddE hC (((Int.tmod a b) + b)) dX6_rest_10 (by omega) (by unfold inR; omega) ?_
    refine r_goto (tgt := 15) hC dX6_rest_11 rfl ?_
    refine y_iret hK rfl dX6_rest_15 ?_
    have e := emod_tm (a := a) (b := b) (by omega)
    have e2 : a % b = ((Int.tmod a b) + b) := by omega
    rw [e2] at k
    exact k (by omega)
theorem y_greatest {eb : Bool} {n : Nat} {d : Nat} {P : Option Vl → Mm → Prop} {σ : Mm} {t0 t1 t2 t3 : Int} (qg0 : σ 30 0 8 = (n : Int)) (qg1 : σ 38 0 0 = t0) (qg2 : σ 38 0 1 = t1) (qg3 : σ 38 0 2 = t2) (qg4 : σ 38 0 3 = t3) (hn1 : 1 ≤ n) (hn : n ≤ 242)  (k : ∀ ρ : Mm, Gx (fun c x y => c = 38 ∧ x = 0) σ ρ → ρ 38 0 0 = ((gr (σ 37 0) n).1) → ρ 38 0 1 = ((gr (σ 37 0) n).2.1) → ρ 38 0 2 = ((gr (σ 37 0) n).2.2) → ρ 38 0 3 = ((n : Int)) → P none ρ) : WT (true, eb, true) (d + 1) 160 [vR 30 0] σ P := by
  refine WT_in fun K hK => ?_
  have hK : StpY (true, eb, true) cX6_greatest RX6 (none) (WT (true, eb, true) (d + 0)) P K := hK
  have hM := hK.1
  have hC := hK.1.1
  show K 0 [some (vR 30 0), none, none, none] [] σ
  refine r_iconst hC dX6_greatest_0 rfl ?_
  refine r_istore_n hC dX6_greatest_1 rfl ?_
  refine r_iconst hC dX6_greatest_2 rfl ?_
  refine r_istore_n hC dX6_greatest_3 rfl ?_
  refine r_iconst hC dX6_greatest_4 rfl ?_
  refine r_istore_n hC dX6_greatest_5 rfl ?_
  have L6 : ∀ (n6 : Nat) (w1 w2 : Int), 0 ≤ w1 ∧ w1 ≤ 242 → 0 ≤ w2 ∧ w2 ≤ 241 → ((w2) = (gr (σ 37 0) ((w1)).toNat).2.2) → ((w1) ≤ (n : Int)) → 242 - w1 < (n6 : Int) → K 6 [some (vR 30 0), some (vI w2), some (vI 0), some (vI w1)] [] σ := by
    intro n6
    induction n6 with
    | zero => intro w1 w2  f_w1 f_w2 i0_6 i1_6 hm  ; omega
    | succ n6 ih6 =>
      intro w1 w2  f_w1 f_w2 i0_6 i1_6 hm6  
      refine r_iload_n hC dX6_greatest_6 rfl ?_
      refine r_aload_n hC dX6_greatest_7 rfl ?_
      refine z_getI (jz := 8) hM dX6_greatest_8 fl_RX6_105 rfl rfl rfl (fun v3 h_v3 o_v3 t_v3 => ?_)
      have e_v3 : (n : Int) = v3 := ((t_v3 ((by simp [Tk, Tb, DL, DR]))).trans qg0).symm
      subst e_v3
      refine r_icmp_ge (tgt := 37) hC dX6_greatest_11 rfl (fun h4 => ?_) (fun h4 => ?_)
      · refine r_iconst hC dX6_greatest_37 rfl ?_
        refine r_istore_n hC dX6_greatest_38 rfl ?_
        have L39 : ∀ (n39 : Nat) (w5 w6 : Int), 0 ≤ w5 ∧ w5 ≤ 242 → 0 ≤ w6 ∧ w6 ≤ 242 → ((w6) = cnE (σ 37 0) (σ 37 0 (w2)) ((w5)).toNat) → ((w6) ≤ (w5)) → ((w5) ≤ (n : Int)) → 242 - w5 < (n39 : Int) → K 39 [some (vR 30 0), some (vI w2), some (vI w6), some (vI w5)] [] σ := by
          intro n39
          induction n39 with
          | zero => intro w5 w6  f_w5 f_w6 i0_39 i1_39 i2_39 hm  ; omega
          | succ n39 ih39 =>
            intro w5 w6  f_w5 f_w6 i0_39 i1_39 i2_39 hm39  
            refine r_iload_n hC dX6_greatest_39 rfl ?_
            refine r_aload_n hC dX6_greatest_40 rfl ?_
            refine z_getI (jz := 8) hM dX6_greatest_41 fl_RX6_105 rfl rfl rfl (fun v7 h_v7 o_v7 t_v7 => ?_)
            have e_v7 : (n : Int) = v7 := ((t_v7 ((by simp [Tk, Tb, DL, DR]))).trans qg0).symm
            subst e_v7
            refine r_icmp_ge (tgt := 76) hC dX6_greatest_44 rfl (fun h8 => ?_) (fun h8 => ?_)
            · refine r_aload_n hC dX6_greatest_76 rfl ?_
              refine z_getR hM dX6_greatest_77 fl_RX6_31 rfl rfl (vld_of (n := 1) rfl (by omega) (by omega)) ?_
              refine r_iconst hC dX6_greatest_80 rfl ?_
              refine r_aload_n hC dX6_greatest_81 rfl ?_
              refine z_getR hM dX6_greatest_82 fl_RX6_28 rfl rfl (vld_of (n := 1) rfl (by omega) (by omega)) ?_
              refine r_iload_n hC dX6_greatest_85 rfl ?_
              refine z_iald hM dX6_greatest_86 rfl (by omega) (by omega) (fun v9 h_v9 o_v9 t_v9 => ?_)
              have w_v9 := t_v9 (Or.inr (Or.inr (Or.inr ⟨rfl, by first | exact True.intro | exact (rfl : true = true)⟩)))
              subst w_v9
              refine z_iastG hM dX6_greatest_87 rfl (by omega) (by omega) (by simp [Tl, DL, DF]) (by first | trivial | (simp only [Okv]; omega) | (simp [Okv]; try omega)) (fun ρ10 a_ρ10 q_ρ10 => ?_)
              refine r_aload_n hC dX6_greatest_88 rfl ?_
              refine z_getR hM dX6_greatest_89 fl_RX6_31 rfl rfl (vld_of (n := 1) rfl (by omega) (by omega)) ?_
              refine r_iconst hC dX6_greatest_92 rfl ?_
              refine r_iload_n hC dX6_greatest_93 rfl ?_
              refine z_iastG hM dX6_greatest_94 rfl (by omega) (by omega) (by simp [Tl, DL, DF]) (by first | trivial | (simp only [Okv]; omega) | (simp [Okv]; try omega)) (fun ρ11 a_ρ11 q_ρ11 => ?_)
              refine r_aload_n hC dX6_greatest_95 rfl ?_
              refine z_getR hM dX6_greatest_96 fl_RX6_31 rfl rfl (vld_of (n := 1) rfl (by omega) (by omega)) ?_
              refine r_iconst hC dX6_greatest_99 rfl ?_
              refine r_iload_n hC dX6_greatest_100 rfl ?_
              refine z_iastG hM dX6_greatest_101 rfl (by omega) (by omega) (by simp [Tl, DL, DF]) (by first | trivial | (simp only [Okv]; omega) | (simp [Okv]; try omega)) (fun ρ12 a_ρ12 q_ρ12 => ?_)
              refine r_aload_n hC dX6_greatest_102 rfl ?_
              refine z_getR hM dX6_greatest_103 fl_RX6_31 rfl rfl (vld_of (n := 1) rfl (by omega) (by omega)) ?_
              refine r_iconst hC dX6_greatest_106 rfl ?_
              refine r_aload_n hC dX6_greatest_107 rfl ?_
              refine z_getI (jz := 8) hM dX6_greatest_108 fl_RX6_105 rfl rfl rfl (fun v13 h_v13 o_v13 t_v13 => ?_)
              have e_v13 : (n : Int) = v13 := ((t_v13 ((by simp [Tk, Tb, DL, DR]))).trans ((a_ρ12 _ _ _ (by omega)).trans ((a_ρ11 _ _ _ (by omega)).trans ((a_ρ10 _ _ _ (by omega)).trans qg0)))).symm
              subst e_v13
              refine z_iastG hM dX6_greatest_111 rfl (by omega) (by omega) (by simp [Tl, DL, DF]) (by first | trivial | (simp only [Okv]; omega) | (simp [Okv]; try omega)) (fun ρ14 a_ρ14 q_ρ14 => ?_)
              refine y_vret hK rfl dX6_greatest_112 ?_
              have hat : w2 = (gr (σ 37 0) n).2.2 := at_nat (n := n) (f := fun m => (gr (σ 37 0) m).2.2) i0_6 (by omega)
              have hcn : w6 = (gr (σ 37 0) n).2.1 := (at_nat (n := n) (f := fun m => cnE (σ 37 0) (σ 37 0 w2) m) i0_39 (by omega)).trans (by show cnE (σ 37 0) (σ 37 0 w2) n = _; rw [hat, (gr_top (σ 37 0) n hn1).1, gr_cnt (σ 37 0) n hn1])
              exact k _ (((((Gx.rf).al a_ρ10 (by first | (simp; done) | omega | (simp; omega))).al a_ρ11 (by first | (simp; done) | omega | (simp; omega))).al a_ρ12 (by first | (simp; done) | omega | (simp; omega))).al a_ρ14 (by first | (simp; done) | omega | (simp; omega))) (by have hq := ((a_ρ14 _ _ _ (by omega)).trans ((a_ρ12 _ _ _ (by omega)).trans ((a_ρ11 _ _ _ (by omega)).trans q_ρ10))); exact hq.trans (by rw [hat]; exact (gr_top (σ 37 0) n hn1).1)) (by have hq := ((a_ρ14 _ _ _ (by omega)).trans ((a_ρ12 _ _ _ (by omega)).trans q_ρ11)); omega) (by have hq := ((a_ρ14 _ _ _ (by omega)).trans q_ρ12); omega) (by have hq := q_ρ14; omega)
            · refine r_iload_n hC dX6_greatest_47 rfl ?_
              refine r_aload_n hC dX6_greatest_48 rfl ?_
              refine z_getR hM dX6_greatest_49 fl_RX6_28 rfl rfl (vld_of (n := 1) rfl (by omega) (by omega)) ?_
              refine r_iload_n hC dX6_greatest_52 rfl ?_
              refine z_iald hM dX6_greatest_53 rfl (by omega) (by omega) (fun v15 h_v15 o_v15 t_v15 => ?_)
              have w_v15 := t_v15 (Or.inr (Or.inr (Or.inr ⟨rfl, by first | exact True.intro | exact (rfl : true = true)⟩)))
              subst w_v15
              refine r_aload_n hC dX6_greatest_54 rfl ?_
              refine z_getR hM dX6_greatest_55 fl_RX6_28 rfl rfl (vld_of (n := 1) rfl (by omega) (by omega)) ?_
              refine r_iload_n hC dX6_greatest_58 rfl ?_
              refine z_iald hM dX6_greatest_59 rfl (by omega) (by omega) (fun v16 h_v16 o_v16 t_v16 => ?_)
              have w_v16 := t_v16 (Or.inr (Or.inr (Or.inr ⟨rfl, by first | exact True.intro | exact (rfl : true = true)⟩)))
              subst w_v16
              refine r_icmp_ne (tgt := 67) hC dX6_greatest_60 rfl (fun h17 => ?_) (fun h17 => ?_)
              · refine r_iconst hC dX6_greatest_67 rfl ?_
                refine r_iaddE hC (w6) dX6_greatest_68 (by omega) (by unfold inR; omega) ?_
                refine r_istore_n hC dX6_greatest_69 rfl ?_
                refine r_iincE hC ((w5 + 1)) dX6_greatest_70 rfl rfl (by omega) (by unfold inR; omega) ?_
                refine r_goto (tgt := 39) hC dX6_greatest_73 rfl ?_
                exact ih39 ((w5 + 1)) (w6)  (by omega) (by omega) (by first | rfl | (rw [cnE_stepI (by omega), ← i0_39]; split <;> omega)) (by omega) (by omega) (by omega)  
              · refine r_iconst hC dX6_greatest_63 rfl ?_
                refine r_goto (tgt := 68) hC dX6_greatest_64 rfl ?_
                refine r_iaddE hC ((w6 + 1)) dX6_greatest_68 (by omega) (by unfold inR; omega) ?_
                refine r_istore_n hC dX6_greatest_69 rfl ?_
                refine r_iincE hC ((w5 + 1)) dX6_greatest_70 rfl rfl (by omega) (by unfold inR; omega) ?_
                refine r_goto (tgt := 39) hC dX6_greatest_73 rfl ?_
                exact ih39 ((w5 + 1)) ((w6 + 1))  (by omega) (by omega) (by first | rfl | (rw [cnE_stepI (by omega), ← i0_39]; split <;> omega)) (by omega) (by omega) (by omega)  
        exact L39 244 (0) (0)  (by omega) (by omega) (by first | rfl | (rw [cnE_stepI (by omega), ← i0_39]; split <;> omega)) (by omega) (by omega) (by omega)  
      · refine r_aload_n hC dX6_greatest_14 rfl ?_
        refine z_getR hM dX6_greatest_15 fl_RX6_28 rfl rfl (vld_of (n := 1) rfl (by omega) (by omega)) ?_
        refine r_iload_n hC dX6_greatest_18 rfl ?_
        refine z_iald hM dX6_greatest_19 rfl (by omega) (by omega) (fun v18 h_v18 o_v18 t_v18 => ?_)
        have w_v18 := t_v18 (Or.inr (Or.inr (Or.inr ⟨rfl, by first | exact True.intro | exact (rfl : true = true)⟩)))
        subst w_v18
        refine r_aload_n hC dX6_greatest_20 rfl ?_
        refine z_getR hM dX6_greatest_21 fl_RX6_28 rfl rfl (vld_of (n := 1) rfl (by omega) (by omega)) ?_
        refine r_iload_n hC dX6_greatest_24 rfl ?_
        refine z_iald hM dX6_greatest_25 rfl (by omega) (by omega) (fun v19 h_v19 o_v19 t_v19 => ?_)
        have w_v19 := t_v19 (Or.inr (Or.inr (Or.inr ⟨rfl, by first | exact True.intro | exact (rfl : true = true)⟩)))
        subst w_v19
        refine r_icmp_le (tgt := 31) hC dX6_greatest_26 rfl (fun h20 => ?_) (fun h20 => ?_)
        · refine r_iincE hC ((w1 + 1)) dX6_greatest_31 rfl rfl (by omega) (by unfold inR; omega) ?_
          refine r_goto (tgt := 6) hC dX6_greatest_34 rfl ?_
          exact ih6 ((w1 + 1)) (w2)  (by omega) (by omega) (by first | rfl | (rw [gr_stepI (by omega), ← i0_6]; split <;> omega)) (by omega) (by omega)  
        · refine r_iload_n hC dX6_greatest_29 rfl ?_
          refine r_istore_n hC dX6_greatest_30 rfl ?_
          refine r_iincE hC ((w1 + 1)) dX6_greatest_31 rfl rfl (by omega) (by unfold inR; omega) ?_
          refine r_goto (tgt := 6) hC dX6_greatest_34 rfl ?_
          exact ih6 ((w1 + 1)) (w1)  (by omega) (by omega) (by first | rfl | (rw [gr_stepI (by omega), ← i0_6]; split <;> omega)) (by omega) (by omega)  
  exact L6 244 (0) (0)  (by omega) (by omega) (by first | rfl | (rw [gr_stepI (by omega), ← i0_6]; split <;> omega)) (by omega) (by omega)  
theorem y_spread {eb : Bool} {n : Nat} {d : Nat} {P : Option Vl → Mm → Prop} {σ : Mm} {t0 t1 t2 : Int} (qg0 : σ 30 0 8 = (n : Int)) (qg1 : σ 38 0 0 = t0) (qg2 : σ 38 0 1 = t1) (qg3 : σ 38 0 2 = t2) (hn1 : 1 ≤ n) (hn : n ≤ 242)  (k : ∀ ρ : Mm, Gx (fun c x y => c = 38 ∧ x = 0) σ ρ → ρ 38 0 0 = ((spr (σ 37 0) n).1) → ρ 38 0 1 = ((spr (σ 37 0) n).2.1) → ρ 38 0 2 = ((spr (σ 37 0) n).2.2) → P none ρ) : WT (true, eb, true) (d + 1) 171 [vR 30 0] σ P := by
  refine WT_in fun K hK => ?_
  have hK : StpY (true, eb, true) cX6_spread RX6 (none) (WT (true, eb, true) (d + 0)) P K := hK
  have hM := hK.1
  have hC := hK.1.1
  show K 0 [some (vR 30 0), none, none, none, none] [] σ
  refine r_ldc hC dX6_spread_0 co_RX6_160 rfl ?_
  refine r_istore_n hC dX6_spread_2 rfl ?_
  refine r_ldc hC dX6_spread_3 co_RX6_160 rfl ?_
  refine r_istore_n hC dX6_spread_5 rfl ?_
  refine r_iconst hC dX6_spread_6 rfl ?_
  refine r_istore_n hC dX6_spread_7 rfl ?_
  show K _ [_, _, _, _, _] _ _
  refine r_iconst hC dX6_spread_8 rfl ?_
  refine r_istore hC dX6_spread_9 rfl ?_
  have L11 : ∀ (n11 : Nat) (w1 w2 w3 w4 : Int), 0 ≤ w1 ∧ w1 ≤ 242 → -2147483648 ≤ w2 ∧ w2 ≤ -1 → -2147483648 ≤ w3 ∧ w3 ≤ 2147483647 → 0 ≤ w4 ∧ w4 ≤ 242 → ((w3) = (spr (σ 37 0) ((w1)).toNat).1) → ((w2) = (spr (σ 37 0) ((w1)).toNat).2.1) → ((w4) = (spr (σ 37 0) ((w1)).toNat).2.2) → ((w4) ≤ (w1)) → ((w1) ≤ (n : Int)) → 242 - w1 < (n11 : Int) → K 11 [some (vR 30 0), some (vI w3), some (vI w2), some (vI w4), some (vI w1)] [] σ := by
    intro n11
    induction n11 with
    | zero => intro w1 w2 w3 w4  f_w1 f_w2 f_w3 f_w4 i0_11 i1_11 i2_11 i3_11 i4_11 hm  ; omega
    | succ n11 ih11 =>
      intro w1 w2 w3 w4  f_w1 f_w2 f_w3 f_w4 i0_11 i1_11 i2_11 i3_11 i4_11 hm11  
      refine r_iload hC dX6_spread_11 rfl ?_
      refine r_aload_n hC dX6_spread_13 rfl ?_
      refine z_getI (jz := 8) hM dX6_spread_14 fl_RX6_105 rfl rfl rfl (fun v5 h_v5 o_v5 t_v5 => ?_)
      have e_v5 : (n : Int) = v5 := ((t_v5 ((by simp [Tk, Tb, DL, DR]))).trans qg0).symm
      subst e_v5
      refine r_icmp_ge (tgt := 103) hC dX6_spread_17 rfl (fun h6 => ?_) (fun h6 => ?_)
      · refine r_aload_n hC dX6_spread_103 rfl ?_
        refine z_getR hM dX6_spread_104 fl_RX6_31 rfl rfl (vld_of (n := 1) rfl (by omega) (by omega)) ?_
        refine r_iconst hC dX6_spread_107 rfl ?_
        refine r_iload_n hC dX6_spread_108 rfl ?_
        refine z_iastG hM dX6_spread_109 rfl (by omega) (by omega) (by simp [Tl, DL, DF]) (by first | trivial | (simp only [Okv]; omega) | (simp [Okv]; try omega)) (fun ρ7 a_ρ7 q_ρ7 => ?_)
        refine r_aload_n hC dX6_spread_110 rfl ?_
        refine z_getR hM dX6_spread_111 fl_RX6_31 rfl rfl (vld_of (n := 1) rfl (by omega) (by omega)) ?_
        refine r_iconst hC dX6_spread_114 rfl ?_
        refine r_iload_n hC dX6_spread_115 rfl ?_
        refine z_iastG hM dX6_spread_116 rfl (by omega) (by omega) (by simp [Tl, DL, DF]) (by first | trivial | (simp only [Okv]; omega) | (simp [Okv]; try omega)) (fun ρ8 a_ρ8 q_ρ8 => ?_)
        refine r_aload_n hC dX6_spread_117 rfl ?_
        refine z_getR hM dX6_spread_118 fl_RX6_31 rfl rfl (vld_of (n := 1) rfl (by omega) (by omega)) ?_
        refine r_iconst hC dX6_spread_121 rfl ?_
        refine r_iload_n hC dX6_spread_122 rfl ?_
        refine z_iastG hM dX6_spread_123 rfl (by omega) (by omega) (by simp [Tl, DL, DF]) (by first | trivial | (simp only [Okv]; omega) | (simp [Okv]; try omega)) (fun ρ9 a_ρ9 q_ρ9 => ?_)
        refine y_vret hK rfl dX6_spread_124 ?_
        have hs1 : w3 = (spr (σ 37 0) n).1 := at_nat (n := n) (f := fun m => (spr (σ 37 0) m).1) i0_11 (by omega)
        have hs2 : w2 = (spr (σ 37 0) n).2.1 := at_nat (n := n) (f := fun m => (spr (σ 37 0) m).2.1) i1_11 (by omega)
        have hs3 : w4 = (spr (σ 37 0) n).2.2 := at_nat (n := n) (f := fun m => (spr (σ 37 0) m).2.2) i2_11 (by omega)
        exact k _ ((((Gx.rf).al a_ρ7 (by first | (simp; done) | omega | (simp; omega))).al a_ρ8 (by first | (simp; done) | omega | (simp; omega))).al a_ρ9 (by first | (simp; done) | omega | (simp; omega))) (by have hq := ((a_ρ9 _ _ _ (by omega)).trans ((a_ρ8 _ _ _ (by omega)).trans q_ρ7)); exact hq.trans hs1) (by have hq := ((a_ρ9 _ _ _ (by omega)).trans q_ρ8); exact hq.trans hs2) (by have hq := q_ρ9; exact hq.trans hs3)
      · refine r_aload_n hC dX6_spread_20 rfl ?_
        refine z_getR hM dX6_spread_21 fl_RX6_28 rfl rfl (vld_of (n := 1) rfl (by omega) (by omega)) ?_
        refine r_iload hC dX6_spread_24 rfl ?_
        refine z_iald hM dX6_spread_26 rfl (by omega) (by omega) (fun v10 h_v10 o_v10 t_v10 => ?_)
        have w_v10 := t_v10 (Or.inr (Or.inr (Or.inr ⟨rfl, by first | exact True.intro | exact (rfl : true = true)⟩)))
        subst w_v10
        refine r_if_ne (tgt := 33) hC dX6_spread_27 rfl (fun h11 => ?_) (fun h11 => ?_)
        · refine r_aload_n hC dX6_spread_33 rfl ?_
          refine z_getR hM dX6_spread_34 fl_RX6_28 rfl rfl (vld_of (n := 1) rfl (by omega) (by omega)) ?_
          refine r_iload hC dX6_spread_37 rfl ?_
          refine z_iald hM dX6_spread_39 rfl (by omega) (by omega) (fun v12 h_v12 o_v12 t_v12 => ?_)
          have w_v12 := t_v12 (Or.inr (Or.inr (Or.inr ⟨rfl, by first | exact True.intro | exact (rfl : true = true)⟩)))
          subst w_v12
          refine r_if_le (tgt := 68) hC dX6_spread_40 rfl (fun h13 => ?_) (fun h13 => ?_)
          · refine r_aload_n hC dX6_spread_68 rfl ?_
            refine z_getR hM dX6_spread_69 fl_RX6_28 rfl rfl (vld_of (n := 1) rfl (by omega) (by omega)) ?_
            refine r_iload hC dX6_spread_72 rfl ?_
            refine z_iald hM dX6_spread_74 rfl (by omega) (by omega) (fun v14 h_v14 o_v14 t_v14 => ?_)
            have w_v14 := t_v14 (Or.inr (Or.inr (Or.inr ⟨rfl, by first | exact True.intro | exact (rfl : true = true)⟩)))
            subst w_v14
            refine r_if_ge (tgt := 97) hC dX6_spread_75 rfl (fun h15 => ?_) (fun h15 => ?_)
            · refine r_iincE hC ((w1 + 1)) dX6_spread_97 rfl rfl (by omega) (by unfold inR; omega) ?_
              refine r_goto (tgt := 11) hC dX6_spread_100 rfl ?_
              exact ih11 ((w1 + 1)) (w2) (w3) (w4)  (by omega) (by omega) (by omega) (by omega) (by first | rfl | (rw [spr_stepI (by omega)]; simp only [NO]; rw [← i0_11]; split <;> omega)) (by first | rfl | (rw [spr_stepI (by omega)]; simp only [NO]; rw [← i1_11]; split <;> omega)) (by first | rfl | (rw [spr_stepI (by omega)]; simp only [NO]; rw [← i2_11]; split <;> omega)) (by omega) (by omega) (by omega)  
            · refine r_aload_n hC dX6_spread_78 rfl ?_
              refine z_getR hM dX6_spread_79 fl_RX6_28 rfl rfl (vld_of (n := 1) rfl (by omega) (by omega)) ?_
              refine r_iload hC dX6_spread_82 rfl ?_
              refine z_iald hM dX6_spread_84 rfl (by omega) (by omega) (fun v16 h_v16 o_v16 t_v16 => ?_)
              have w_v16 := t_v16 (Or.inr (Or.inr (Or.inr ⟨rfl, by first | exact True.intro | exact (rfl : true = true)⟩)))
              subst w_v16
              refine r_iload_n hC dX6_spread_85 rfl ?_
              refine r_icmp_le (tgt := 97) hC dX6_spread_86 rfl (fun h17 => ?_) (fun h17 => ?_)
              · refine r_iincE hC ((w1 + 1)) dX6_spread_97 rfl rfl (by omega) (by unfold inR; omega) ?_
                refine r_goto (tgt := 11) hC dX6_spread_100 rfl ?_
                exact ih11 ((w1 + 1)) (w2) (w3) (w4)  (by omega) (by omega) (by omega) (by omega) (by first | rfl | (rw [spr_stepI (by omega)]; simp only [NO]; rw [← i0_11]; split <;> omega)) (by first | rfl | (rw [spr_stepI (by omega)]; simp only [NO]; rw [← i1_11]; split <;> omega)) (by first | rfl | (rw [spr_stepI (by omega)]; simp only [NO]; rw [← i2_11]; split <;> omega)) (by omega) (by omega) (by omega)  
              · refine r_aload_n hC dX6_spread_89 rfl ?_
                refine z_getR hM dX6_spread_90 fl_RX6_28 rfl rfl (vld_of (n := 1) rfl (by omega) (by omega)) ?_
                refine r_iload hC dX6_spread_93 rfl ?_
                refine z_iald hM dX6_spread_95 rfl (by omega) (by omega) (fun v18 h_v18 o_v18 t_v18 => ?_)
                have w_v18 := t_v18 (Or.inr (Or.inr (Or.inr ⟨rfl, by first | exact True.intro | exact (rfl : true = true)⟩)))
                subst w_v18
                refine r_istore_n hC dX6_spread_96 rfl ?_
                refine r_iincE hC ((w1 + 1)) dX6_spread_97 rfl rfl (by omega) (by unfold inR; omega) ?_
                refine r_goto (tgt := 11) hC dX6_spread_100 rfl ?_
                exact ih11 ((w1 + 1)) ((σ 37 0 w1)) (w3) (w4)  (by omega) (by omega) (by omega) (by omega) (by first | rfl | (rw [spr_stepI (by omega)]; simp only [NO]; rw [← i0_11]; split <;> omega)) (by first | rfl | (rw [spr_stepI (by omega)]; simp only [NO]; rw [← i1_11]; split <;> omega)) (by first | rfl | (rw [spr_stepI (by omega)]; simp only [NO]; rw [← i2_11]; split <;> omega)) (by omega) (by omega) (by omega)  
          · refine r_iload_n hC dX6_spread_43 rfl ?_
            refine r_ldc hC dX6_spread_44 co_RX6_160 rfl ?_
            refine r_icmp_eq (tgt := 60) hC dX6_spread_46 rfl (fun h19 => ?_) (fun h19 => ?_)
            · refine r_aload_n hC dX6_spread_60 rfl ?_
              refine z_getR hM dX6_spread_61 fl_RX6_28 rfl rfl (vld_of (n := 1) rfl (by omega) (by omega)) ?_
              refine r_iload hC dX6_spread_64 rfl ?_
              refine z_iald hM dX6_spread_66 rfl (by omega) (by omega) (fun v20 h_v20 o_v20 t_v20 => ?_)
              have w_v20 := t_v20 (Or.inr (Or.inr (Or.inr ⟨rfl, by first | exact True.intro | exact (rfl : true = true)⟩)))
              subst w_v20
              refine r_istore_n hC dX6_spread_67 rfl ?_
              refine r_aload_n hC dX6_spread_68 rfl ?_
              refine z_getR hM dX6_spread_69 fl_RX6_28 rfl rfl (vld_of (n := 1) rfl (by omega) (by omega)) ?_
              refine r_iload hC dX6_spread_72 rfl ?_
              refine z_iald hM dX6_spread_74 rfl (by omega) (by omega) (fun v21 h_v21 o_v21 t_v21 => ?_)
              have w_v21 := t_v21 (Or.inr (Or.inr (Or.inr ⟨rfl, by first | exact True.intro | exact (rfl : true = true)⟩)))
              subst w_v21
              refine r_if_ge (tgt := 97) hC dX6_spread_75 rfl (fun h22 => ?_) (fun h22 => by omega)
              refine r_iincE hC ((w1 + 1)) dX6_spread_97 rfl rfl (by omega) (by unfold inR; omega) ?_
              refine r_goto (tgt := 11) hC dX6_spread_100 rfl ?_
              exact ih11 ((w1 + 1)) (w2) ((σ 37 0 w1)) (w4)  (by omega) (by omega) (by omega) (by omega) (by first | rfl | (rw [spr_stepI (by omega)]; simp only [NO]; rw [← i0_11]; split <;> omega)) (by first | rfl | (rw [spr_stepI (by omega)]; simp only [NO]; rw [← i1_11]; split <;> omega)) (by first | rfl | (rw [spr_stepI (by omega)]; simp only [NO]; rw [← i2_11]; split <;> omega)) (by omega) (by omega) (by omega)  
            · refine r_aload_n hC dX6_spread_49 rfl ?_
              refine z_getR hM dX6_spread_50 fl_RX6_28 rfl rfl (vld_of (n := 1) rfl (by omega) (by omega)) ?_
              refine r_iload hC dX6_spread_53 rfl ?_
              refine z_iald hM dX6_spread_55 rfl (by omega) (by omega) (fun v23 h_v23 o_v23 t_v23 => ?_)
              have w_v23 := t_v23 (Or.inr (Or.inr (Or.inr ⟨rfl, by first | exact True.intro | exact (rfl : true = true)⟩)))
              subst w_v23
              refine r_iload_n hC dX6_spread_56 rfl ?_
              refine r_icmp_ge (tgt := 68) hC dX6_spread_57 rfl (fun h24 => ?_) (fun h24 => ?_)
              · refine r_aload_n hC dX6_spread_68 rfl ?_
                refine z_getR hM dX6_spread_69 fl_RX6_28 rfl rfl (vld_of (n := 1) rfl (by omega) (by omega)) ?_
                refine r_iload hC dX6_spread_72 rfl ?_
                refine z_iald hM dX6_spread_74 rfl (by omega) (by omega) (fun v25 h_v25 o_v25 t_v25 => ?_)
                have w_v25 := t_v25 (Or.inr (Or.inr (Or.inr ⟨rfl, by first | exact True.intro | exact (rfl : true = true)⟩)))
                subst w_v25
                refine r_if_ge (tgt := 97) hC dX6_spread_75 rfl (fun h26 => ?_) (fun h26 => by omega)
                refine r_iincE hC ((w1 + 1)) dX6_spread_97 rfl rfl (by omega) (by unfold inR; omega) ?_
                refine r_goto (tgt := 11) hC dX6_spread_100 rfl ?_
                exact ih11 ((w1 + 1)) (w2) (w3) (w4)  (by omega) (by omega) (by omega) (by omega) (by first | rfl | (rw [spr_stepI (by omega)]; simp only [NO]; rw [← i0_11]; split <;> omega)) (by first | rfl | (rw [spr_stepI (by omega)]; simp only [NO]; rw [← i1_11]; split <;> omega)) (by first | rfl | (rw [spr_stepI (by omega)]; simp only [NO]; rw [← i2_11]; split <;> omega)) (by omega) (by omega) (by omega)  
              · refine r_aload_n hC dX6_spread_60 rfl ?_
                refine z_getR hM dX6_spread_61 fl_RX6_28 rfl rfl (vld_of (n := 1) rfl (by omega) (by omega)) ?_
                refine r_iload hC dX6_spread_64 rfl ?_
                refine z_iald hM dX6_spread_66 rfl (by omega) (by omega) (fun v27 h_v27 o_v27 t_v27 => ?_)
                have w_v27 := t_v27 (Or.inr (Or.inr (Or.inr ⟨rfl, by first | exact True.intro | exact (rfl : true = true)⟩)))
                subst w_v27
                refine r_istore_n hC dX6_spread_67 rfl ?_
                refine r_aload_n hC dX6_spread_68 rfl ?_
                refine z_getR hM dX6_spread_69 fl_RX6_28 rfl rfl (vld_of (n := 1) rfl (by omega) (by omega)) ?_
                refine r_iload hC dX6_spread_72 rfl ?_
                refine z_iald hM dX6_spread_74 rfl (by omega) (by omega) (fun v28 h_v28 o_v28 t_v28 => ?_)
                have w_v28 := t_v28 (Or.inr (Or.inr (Or.inr ⟨rfl, by first | exact True.intro | exact (rfl : true = true)⟩)))
                subst w_v28
                refine r_if_ge (tgt := 97) hC dX6_spread_75 rfl (fun h29 => ?_) (fun h29 => by omega)
                refine r_iincE hC ((w1 + 1)) dX6_spread_97 rfl rfl (by omega) (by unfold inR; omega) ?_
                refine r_goto (tgt := 11) hC dX6_spread_100 rfl ?_
                exact ih11 ((w1 + 1)) (w2) ((σ 37 0 w1)) (w4)  (by omega) (by omega) (by omega) (by omega) (by first | rfl | (rw [spr_stepI (by omega)]; simp only [NO]; rw [← i0_11]; split <;> omega)) (by first | rfl | (rw [spr_stepI (by omega)]; simp only [NO]; rw [← i1_11]; split <;> omega)) (by first | rfl | (rw [spr_stepI (by omega)]; simp only [NO]; rw [← i2_11]; split <;> omega)) (by omega) (by omega) (by omega)  
        · refine r_iincE hC ((w4 + 1)) dX6_spread_30 rfl rfl (by omega) (by unfold inR; omega) ?_
          refine r_aload_n hC dX6_spread_33 rfl ?_
          refine z_getR hM dX6_spread_34 fl_RX6_28 rfl rfl (vld_of (n := 1) rfl (by omega) (by omega)) ?_
          refine r_iload hC dX6_spread_37 rfl ?_
          refine z_iald hM dX6_spread_39 rfl (by omega) (by omega) (fun v30 h_v30 o_v30 t_v30 => ?_)
          have w_v30 := t_v30 (Or.inr (Or.inr (Or.inr ⟨rfl, by first | exact True.intro | exact (rfl : true = true)⟩)))
          subst w_v30
          refine r_if_le (tgt := 68) hC dX6_spread_40 rfl (fun h31 => ?_) (fun h31 => by omega)
          refine r_aload_n hC dX6_spread_68 rfl ?_
          refine z_getR hM dX6_spread_69 fl_RX6_28 rfl rfl (vld_of (n := 1) rfl (by omega) (by omega)) ?_
          refine r_iload hC dX6_spread_72 rfl ?_
          refine z_iald hM dX6_spread_74 rfl (by omega) (by omega) (fun v32 h_v32 o_v32 t_v32 => ?_)
          have w_v32 := t_v32 (Or.inr (Or.inr (Or.inr ⟨rfl, by first | exact True.intro | exact (rfl : true = true)⟩)))
          subst w_v32
          refine r_if_ge (tgt := 97) hC dX6_spread_75 rfl (fun h33 => ?_) (fun h33 => by omega)
          refine r_iincE hC ((w1 + 1)) dX6_spread_97 rfl rfl (by omega) (by unfold inR; omega) ?_
          refine r_goto (tgt := 11) hC dX6_spread_100 rfl ?_
          exact ih11 ((w1 + 1)) (w2) (w3) ((w4 + 1))  (by omega) (by omega) (by omega) (by omega) (by first | rfl | (rw [spr_stepI (by omega)]; simp only [NO]; rw [← i0_11]; split <;> omega)) (by first | rfl | (rw [spr_stepI (by omega)]; simp only [NO]; rw [← i1_11]; split <;> omega)) (by first | rfl | (rw [spr_stepI (by omega)]; simp only [NO]; rw [← i2_11]; split <;> omega)) (by omega) (by omega) (by omega)  
  exact L11 244 (0) ((-2147483648)) ((-2147483648)) (0)  (by omega) (by omega) (by omega) (by omega) (by first | rfl | (rw [spr_stepI (by omega)]; simp only [NO]; rw [← i0_11]; split <;> omega)) (by first | rfl | (rw [spr_stepI (by omega)]; simp only [NO]; rw [← i1_11]; split <;> omega)) (by first | rfl | (rw [spr_stepI (by omega)]; simp only [NO]; rw [← i2_11]; split <;> omega)) (by omega) (by omega) (by omega)  
theorem y_steps {eb : Bool} {n : Nat} {d : Nat} {P : Option Vl → Mm → Prop} {σ : Mm} {t0 t1 t2 t3 t4 : Int} (qg0 : σ 30 0 8 = (n : Int)) (qg1 : σ 38 0 0 = t0) (qg2 : σ 38 0 1 = t1) (qg3 : σ 38 0 2 = t2) (qg4 : σ 38 0 3 = t3) (qg5 : σ 38 0 4 = t4) (hn1 : 1 ≤ n) (hn : n ≤ 242)  (k : ∀ ρ : Mm, Gx (fun c x y => c = 38 ∧ x = 0) σ ρ → ρ 38 0 0 = ((stp (σ 37 0) n).1) → ρ 38 0 1 = ((stp (σ 37 0) n).2.1) → ρ 38 0 2 = (σ 37 0 0) → ρ 38 0 3 = (σ 37 0 ((n : Int) - 1)) → ρ 38 0 4 = ((stp (σ 37 0) n).2.2.1) → P none ρ) : WT (true, eb, true) (d + 1) 170 [vR 30 0] σ P := by
  refine WT_in fun K hK => ?_
  have hK : StpY (true, eb, true) cX6_steps RX6 (none) (WT (true, eb, true) (d + 0)) P K := hK
  have hM := hK.1
  have hC := hK.1.1
  show K 0 [some (vR 30 0), none, none, none, none, none] [] σ
  refine r_iconst hC dX6_steps_0 rfl ?_
  refine r_istore_n hC dX6_steps_1 rfl ?_
  refine r_iconst hC dX6_steps_2 rfl ?_
  refine r_istore_n hC dX6_steps_3 rfl ?_
  refine r_iconst hC dX6_steps_4 rfl ?_
  refine r_istore_n hC dX6_steps_5 rfl ?_
  show K _ [_, _, _, _, _, _] _ _
  refine r_iconst hC dX6_steps_6 rfl ?_
  refine r_istore hC dX6_steps_7 rfl ?_
  refine r_iconst hC dX6_steps_9 rfl ?_
  refine r_istore hC dX6_steps_10 rfl ?_
  have L12 : ∀ (n12 : Nat) (w1 w2 w3 w4 w5 : Int), 1 ≤ w1 ∧ w1 ≤ 242 → 1 ≤ w2 ∧ w2 ≤ 242 → 1 ≤ w3 ∧ w3 ≤ 242 → 0 ≤ w4 ∧ w4 ≤ 242 → 0 ≤ w5 ∧ w5 ≤ 242 → ((w5) = (stp (σ 37 0) ((w3)).toNat).1) → ((w4) = (stp (σ 37 0) ((w3)).toNat).2.1) → ((w1) = (stp (σ 37 0) ((w3)).toNat).2.2.2) → ((w2) = (stp (σ 37 0) ((w3)).toNat).2.2.1) → ((w5) ≤ (w3)) → ((w4) ≤ (w3)) → ((w1) ≤ (w3)) → ((w2) ≤ (w3)) → ((w3) ≤ (n : Int)) → 242 - w3 < (n12 : Int) → K 12 [some (vR 30 0), some (vI w5), some (vI w4), some (vI w1), some (vI w2), some (vI w3)] [] σ := by
    intro n12
    induction n12 with
    | zero => intro w1 w2 w3 w4 w5  f_w1 f_w2 f_w3 f_w4 f_w5 i0_12 i1_12 i2_12 i3_12 i4_12 i5_12 i6_12 i7_12 i8_12 hm  ; omega
    | succ n12 ih12 =>
      intro w1 w2 w3 w4 w5  f_w1 f_w2 f_w3 f_w4 f_w5 i0_12 i1_12 i2_12 i3_12 i4_12 i5_12 i6_12 i7_12 i8_12 hm12  
      refine r_iload hC dX6_steps_12 rfl ?_
      refine r_aload_n hC dX6_steps_14 rfl ?_
      refine z_getI (jz := 8) hM dX6_steps_15 fl_RX6_105 rfl rfl rfl (fun v6 h_v6 o_v6 t_v6 => ?_)
      have e_v6 : (n : Int) = v6 := ((t_v6 ((by simp [Tk, Tb, DL, DR]))).trans qg0).symm
      subst e_v6
      refine r_icmp_ge (tgt := 117) hC dX6_steps_18 rfl (fun h7 => ?_) (fun h7 => ?_)
      · refine r_aload_n hC dX6_steps_117 rfl ?_
        refine z_getR hM dX6_steps_118 fl_RX6_31 rfl rfl (vld_of (n := 1) rfl (by omega) (by omega)) ?_
        refine r_iconst hC dX6_steps_121 rfl ?_
        refine r_iload_n hC dX6_steps_122 rfl ?_
        refine z_iastG hM dX6_steps_123 rfl (by omega) (by omega) (by simp [Tl, DL, DF]) (by first | trivial | (simp only [Okv]; omega) | (simp [Okv]; try omega)) (fun ρ8 a_ρ8 q_ρ8 => ?_)
        refine r_aload_n hC dX6_steps_124 rfl ?_
        refine z_getR hM dX6_steps_125 fl_RX6_31 rfl rfl (vld_of (n := 1) rfl (by omega) (by omega)) ?_
        refine r_iconst hC dX6_steps_128 rfl ?_
        refine r_iload_n hC dX6_steps_129 rfl ?_
        refine z_iastG hM dX6_steps_130 rfl (by omega) (by omega) (by simp [Tl, DL, DF]) (by first | trivial | (simp only [Okv]; omega) | (simp [Okv]; try omega)) (fun ρ9 a_ρ9 q_ρ9 => ?_)
        refine r_aload_n hC dX6_steps_131 rfl ?_
        refine z_getR hM dX6_steps_132 fl_RX6_31 rfl rfl (vld_of (n := 1) rfl (by omega) (by omega)) ?_
        refine r_iconst hC dX6_steps_135 rfl ?_
        refine r_aload_n hC dX6_steps_136 rfl ?_
        refine z_getR hM dX6_steps_137 fl_RX6_28 rfl rfl (vld_of (n := 1) rfl (by omega) (by omega)) ?_
        refine r_iconst hC dX6_steps_140 rfl ?_
        refine z_iald hM dX6_steps_141 rfl (by omega) (by omega) (fun v10 h_v10 o_v10 t_v10 => ?_)
        have w_v10 := t_v10 (Or.inr (Or.inr (Or.inr ⟨rfl, by first | exact True.intro | exact (rfl : true = true)⟩)))
        subst w_v10
        refine z_iastG hM dX6_steps_142 rfl (by omega) (by omega) (by simp [Tl, DL, DF]) (by first | trivial | (simp only [Okv]; omega) | (simp [Okv]; try omega)) (fun ρ11 a_ρ11 q_ρ11 => ?_)
        refine r_aload_n hC dX6_steps_143 rfl ?_
        refine z_getR hM dX6_steps_144 fl_RX6_31 rfl rfl (vld_of (n := 1) rfl (by omega) (by omega)) ?_
        refine r_iconst hC dX6_steps_147 rfl ?_
        refine r_aload_n hC dX6_steps_148 rfl ?_
        refine z_getR hM dX6_steps_149 fl_RX6_28 rfl rfl (vld_of (n := 1) rfl (by omega) (by omega)) ?_
        refine r_aload_n hC dX6_steps_152 rfl ?_
        refine z_getI (jz := 8) hM dX6_steps_153 fl_RX6_105 rfl rfl rfl (fun v12 h_v12 o_v12 t_v12 => ?_)
        have e_v12 : (n : Int) = v12 := ((t_v12 ((by simp [Tk, Tb, DL, DR]))).trans ((a_ρ11 _ _ _ (by omega)).trans ((a_ρ9 _ _ _ (by omega)).trans ((a_ρ8 _ _ _ (by omega)).trans qg0)))).symm
        subst e_v12
        refine r_iconst hC dX6_steps_156 rfl ?_
        refine r_isubE hC (((n : Int) - 1)) dX6_steps_157 (by omega) (by unfold inR; omega) ?_
        refine z_iald hM dX6_steps_158 rfl (by omega) (by omega) (fun v13 h_v13 o_v13 t_v13 => ?_)
        have w_v13 := t_v13 (Or.inr (Or.inr (Or.inr ⟨rfl, by first | exact True.intro | exact (rfl : true = true)⟩)))
        subst w_v13
        refine z_iastG hM dX6_steps_159 rfl (by omega) (by omega) (by simp [Tl, DL, DF]) (by first | trivial | (simp only [Okv]; omega) | (simp [Okv]; try omega)) (fun ρ14 a_ρ14 q_ρ14 => ?_)
        refine r_aload_n hC dX6_steps_160 rfl ?_
        refine z_getR hM dX6_steps_161 fl_RX6_31 rfl rfl (vld_of (n := 1) rfl (by omega) (by omega)) ?_
        refine r_iconst hC dX6_steps_164 rfl ?_
        refine r_iload hC dX6_steps_165 rfl ?_
        refine z_iastG hM dX6_steps_167 rfl (by omega) (by omega) (by simp [Tl, DL, DF]) (by first | trivial | (simp only [Okv]; omega) | (simp [Okv]; try omega)) (fun ρ15 a_ρ15 q_ρ15 => ?_)
        refine y_vret hK rfl dX6_steps_168 ?_
        have hs0 : w5 = (stp (σ 37 0) n).1 := at_nat (n := n) (f := fun m => (stp (σ 37 0) m).1) i0_12 (by omega)
        have hs1 : w4 = (stp (σ 37 0) n).2.1 := at_nat (n := n) (f := fun m => (stp (σ 37 0) m).2.1) i1_12 (by omega)
        have hs2 : w1 = (stp (σ 37 0) n).2.2.2 := at_nat (n := n) (f := fun m => (stp (σ 37 0) m).2.2.2) i2_12 (by omega)
        have hs3 : w2 = (stp (σ 37 0) n).2.2.1 := at_nat (n := n) (f := fun m => (stp (σ 37 0) m).2.2.1) i3_12 (by omega)
        exact k _ ((((((Gx.rf).al a_ρ8 (by first | (simp; done) | omega | (simp; omega))).al a_ρ9 (by first | (simp; done) | omega | (simp; omega))).al a_ρ11 (by first | (simp; done) | omega | (simp; omega))).al a_ρ14 (by first | (simp; done) | omega | (simp; omega))).al a_ρ15 (by first | (simp; done) | omega | (simp; omega))) (by have hq := ((a_ρ15 _ _ _ (by omega)).trans ((a_ρ14 _ _ _ (by omega)).trans ((a_ρ11 _ _ _ (by omega)).trans ((a_ρ9 _ _ _ (by omega)).trans q_ρ8)))); exact hq.trans hs0) (by have hq := ((a_ρ15 _ _ _ (by omega)).trans ((a_ρ14 _ _ _ (by omega)).trans ((a_ρ11 _ _ _ (by omega)).trans q_ρ9))); exact hq.trans hs1) (by have hq := ((a_ρ15 _ _ _ (by omega)).trans ((a_ρ14 _ _ _ (by omega)).trans q_ρ11)); first | exact hq | exact hq.trans (a_ρ8 _ _ _ (by omega)) | exact hq.trans ((a_ρ9 _ _ _ (by omega)).trans (a_ρ8 _ _ _ (by omega))) | exact hq.trans ((a_ρ11 _ _ _ (by omega)).trans ((a_ρ9 _ _ _ (by omega)).trans (a_ρ8 _ _ _ (by omega)))) | exact hq.trans ((a_ρ14 _ _ _ (by omega)).trans ((a_ρ11 _ _ _ (by omega)).trans ((a_ρ9 _ _ _ (by omega)).trans (a_ρ8 _ _ _ (by omega))))) | exact hq.trans ((a_ρ15 _ _ _ (by omega)).trans ((a_ρ14 _ _ _ (by omega)).trans ((a_ρ11 _ _ _ (by omega)).trans ((a_ρ9 _ _ _ (by omega)).trans (a_ρ8 _ _ _ (by omega))))))) (by have hq := ((a_ρ15 _ _ _ (by omega)).trans q_ρ14); first | exact hq | exact hq.trans (a_ρ8 _ _ _ (by omega)) | exact hq.trans ((a_ρ9 _ _ _ (by omega)).trans (a_ρ8 _ _ _ (by omega))) | exact hq.trans ((a_ρ11 _ _ _ (by omega)).trans ((a_ρ9 _ _ _ (by omega)).trans (a_ρ8 _ _ _ (by omega)))) | exact hq.trans ((a_ρ14 _ _ _ (by omega)).trans ((a_ρ11 _ _ _ (by omega)).trans ((a_ρ9 _ _ _ (by omega)).trans (a_ρ8 _ _ _ (by omega))))) | exact hq.trans ((a_ρ15 _ _ _ (by omega)).trans ((a_ρ14 _ _ _ (by omega)).trans ((a_ρ11 _ _ _ (by omega)).trans ((a_ρ9 _ _ _ (by omega)).trans (a_ρ8 _ _ _ (by omega))))))) (by have hq := q_ρ15; exact hq.trans hs3)
      · refine r_iload_n hC dX6_steps_21 rfl ?_
        refine r_aload_n hC dX6_steps_22 rfl ?_
        refine z_getR hM dX6_steps_23 fl_RX6_28 rfl rfl (vld_of (n := 1) rfl (by omega) (by omega)) ?_
        refine r_iload hC dX6_steps_26 rfl ?_
        refine z_iald hM dX6_steps_28 rfl (by omega) (by omega) (fun v16 h_v16 o_v16 t_v16 => ?_)
        have w_v16 := t_v16 (Or.inr (Or.inr (Or.inr ⟨rfl, by first | exact True.intro | exact (rfl : true = true)⟩)))
        subst w_v16
        refine r_aload_n hC dX6_steps_29 rfl ?_
        refine z_getR hM dX6_steps_30 fl_RX6_28 rfl rfl (vld_of (n := 1) rfl (by omega) (by omega)) ?_
        refine r_iload hC dX6_steps_33 rfl ?_
        refine r_iconst hC dX6_steps_35 rfl ?_
        refine r_isubE hC ((w3 - 1)) dX6_steps_36 (by omega) (by unfold inR; omega) ?_
        refine z_iald hM dX6_steps_37 rfl (by omega) (by omega) (fun v17 h_v17 o_v17 t_v17 => ?_)
        have w_v17 := t_v17 (Or.inr (Or.inr (Or.inr ⟨rfl, by first | exact True.intro | exact (rfl : true = true)⟩)))
        subst w_v17
        refine r_icmp_ge (tgt := 45) hC dX6_steps_38 rfl (fun h18 => ?_) (fun h18 => ?_)
        · refine r_iconst hC dX6_steps_45 rfl ?_
          refine r_iaddE hC (w5) dX6_steps_46 (by omega) (by unfold inR; omega) ?_
          refine r_istore_n hC dX6_steps_47 rfl ?_
          refine r_iload_n hC dX6_steps_48 rfl ?_
          refine r_aload_n hC dX6_steps_49 rfl ?_
          refine z_getR hM dX6_steps_50 fl_RX6_28 rfl rfl (vld_of (n := 1) rfl (by omega) (by omega)) ?_
          refine r_iload hC dX6_steps_53 rfl ?_
          refine z_iald hM dX6_steps_55 rfl (by omega) (by omega) (fun v19 h_v19 o_v19 t_v19 => ?_)
          have w_v19 := t_v19 (Or.inr (Or.inr (Or.inr ⟨rfl, by first | exact True.intro | exact (rfl : true = true)⟩)))
          subst w_v19
          refine r_aload_n hC dX6_steps_56 rfl ?_
          refine z_getR hM dX6_steps_57 fl_RX6_28 rfl rfl (vld_of (n := 1) rfl (by omega) (by omega)) ?_
          refine r_iload hC dX6_steps_60 rfl ?_
          refine r_iconst hC dX6_steps_62 rfl ?_
          refine r_isubE hC ((w3 - 1)) dX6_steps_63 (by omega) (by unfold inR; omega) ?_
          refine z_iald hM dX6_steps_64 rfl (by omega) (by omega) (fun v20 h_v20 o_v20 t_v20 => ?_)
          have w_v20 := t_v20 (Or.inr (Or.inr (Or.inr ⟨rfl, by first | exact True.intro | exact (rfl : true = true)⟩)))
          subst w_v20
          refine r_icmp_le (tgt := 72) hC dX6_steps_65 rfl (fun h21 => ?_) (fun h21 => ?_)
          · refine r_iconst hC dX6_steps_72 rfl ?_
            refine r_iaddE hC (w4) dX6_steps_73 (by omega) (by unfold inR; omega) ?_
            refine r_istore_n hC dX6_steps_74 rfl ?_
            refine r_aload_n hC dX6_steps_75 rfl ?_
            refine z_getR hM dX6_steps_76 fl_RX6_28 rfl rfl (vld_of (n := 1) rfl (by omega) (by omega)) ?_
            refine r_iload hC dX6_steps_79 rfl ?_
            refine z_iald hM dX6_steps_81 rfl (by omega) (by omega) (fun v22 h_v22 o_v22 t_v22 => ?_)
            have w_v22 := t_v22 (Or.inr (Or.inr (Or.inr ⟨rfl, by first | exact True.intro | exact (rfl : true = true)⟩)))
            subst w_v22
            refine r_aload_n hC dX6_steps_82 rfl ?_
            refine z_getR hM dX6_steps_83 fl_RX6_28 rfl rfl (vld_of (n := 1) rfl (by omega) (by omega)) ?_
            refine r_iload hC dX6_steps_86 rfl ?_
            refine r_iconst hC dX6_steps_88 rfl ?_
            refine r_isubE hC ((w3 - 1)) dX6_steps_89 (by omega) (by unfold inR; omega) ?_
            refine z_iald hM dX6_steps_90 rfl (by omega) (by omega) (fun v23 h_v23 o_v23 t_v23 => ?_)
            have w_v23 := t_v23 (Or.inr (Or.inr (Or.inr ⟨rfl, by first | exact True.intro | exact (rfl : true = true)⟩)))
            subst w_v23
            refine r_icmp_ge (tgt := 98) hC dX6_steps_91 rfl (fun h24 => ?_) (fun h24 => ?_)
            · refine r_iload_n hC dX6_steps_98 rfl ?_
              refine r_iconst hC dX6_steps_99 rfl ?_
              refine r_iaddE hC ((w1 + 1)) dX6_steps_100 (by omega) (by unfold inR; omega) ?_
              refine r_istore_n hC dX6_steps_101 rfl ?_
              refine r_iload_n hC dX6_steps_102 rfl ?_
              refine r_iload hC dX6_steps_103 rfl ?_
              refine r_icmp_le (tgt := 111) hC dX6_steps_105 rfl (fun h25 => ?_) (fun h25 => ?_)
              · refine r_iincE hC ((w3 + 1)) dX6_steps_111 rfl rfl (by omega) (by unfold inR; omega) ?_
                refine r_goto (tgt := 12) hC dX6_steps_114 rfl ?_
                exact ih12 ((w1 + 1)) (w2) ((w3 + 1)) (w4) (w5)  (by omega) (by omega) (by omega) (by omega) (by omega) (by first | rfl | (rw [stp_stepI (by omega)]; simp only []; rw [← i0_12]; split <;> omega)) (by first | rfl | (rw [stp_stepI (by omega)]; simp only []; rw [← i1_12]; split <;> omega)) (by first | rfl | (rw [stp_stepI (by omega)]; simp only []; rw [← i2_12]; split <;> omega)) (by first | rfl | (rw [stp_stepI (by omega)]; simp only []; rw [← i2_12, ← i3_12]; split <;> omega)) (by omega) (by omega) (by omega) (by omega) (by omega) (by omega)  
              · refine r_iload_n hC dX6_steps_108 rfl ?_
                refine r_istore hC dX6_steps_109 rfl ?_
                refine r_iincE hC ((w3 + 1)) dX6_steps_111 rfl rfl (by omega) (by unfold inR; omega) ?_
                refine r_goto (tgt := 12) hC dX6_steps_114 rfl ?_
                exact ih12 ((w1 + 1)) ((w1 + 1)) ((w3 + 1)) (w4) (w5)  (by omega) (by omega) (by omega) (by omega) (by omega) (by first | rfl | (rw [stp_stepI (by omega)]; simp only []; rw [← i0_12]; split <;> omega)) (by first | rfl | (rw [stp_stepI (by omega)]; simp only []; rw [← i1_12]; split <;> omega)) (by first | rfl | (rw [stp_stepI (by omega)]; simp only []; rw [← i2_12]; split <;> omega)) (by first | rfl | (rw [stp_stepI (by omega)]; simp only []; rw [← i2_12, ← i3_12]; split <;> omega)) (by omega) (by omega) (by omega) (by omega) (by omega) (by omega)  
            · refine r_iconst hC dX6_steps_94 rfl ?_
              refine r_goto (tgt := 101) hC dX6_steps_95 rfl ?_
              refine r_istore_n hC dX6_steps_101 rfl ?_
              refine r_iload_n hC dX6_steps_102 rfl ?_
              refine r_iload hC dX6_steps_103 rfl ?_
              refine r_icmp_le (tgt := 111) hC dX6_steps_105 rfl (fun h26 => ?_) (fun h26 => by omega)
              refine r_iincE hC ((w3 + 1)) dX6_steps_111 rfl rfl (by omega) (by unfold inR; omega) ?_
              refine r_goto (tgt := 12) hC dX6_steps_114 rfl ?_
              exact ih12 (1) (w2) ((w3 + 1)) (w4) (w5)  (by omega) (by omega) (by omega) (by omega) (by omega) (by first | rfl | (rw [stp_stepI (by omega)]; simp only []; rw [← i0_12]; split <;> omega)) (by first | rfl | (rw [stp_stepI (by omega)]; simp only []; rw [← i1_12]; split <;> omega)) (by first | rfl | (rw [stp_stepI (by omega)]; simp only []; rw [← i2_12]; split <;> omega)) (by first | rfl | (rw [stp_stepI (by omega)]; simp only []; rw [← i2_12, ← i3_12]; split <;> omega)) (by omega) (by omega) (by omega) (by omega) (by omega) (by omega)  
          · refine r_iconst hC dX6_steps_68 rfl ?_
            refine r_goto (tgt := 73) hC dX6_steps_69 rfl ?_
            refine r_iaddE hC ((w4 + 1)) dX6_steps_73 (by omega) (by unfold inR; omega) ?_
            refine r_istore_n hC dX6_steps_74 rfl ?_
            refine r_aload_n hC dX6_steps_75 rfl ?_
            refine z_getR hM dX6_steps_76 fl_RX6_28 rfl rfl (vld_of (n := 1) rfl (by omega) (by omega)) ?_
            refine r_iload hC dX6_steps_79 rfl ?_
            refine z_iald hM dX6_steps_81 rfl (by omega) (by omega) (fun v27 h_v27 o_v27 t_v27 => ?_)
            have w_v27 := t_v27 (Or.inr (Or.inr (Or.inr ⟨rfl, by first | exact True.intro | exact (rfl : true = true)⟩)))
            subst w_v27
            refine r_aload_n hC dX6_steps_82 rfl ?_
            refine z_getR hM dX6_steps_83 fl_RX6_28 rfl rfl (vld_of (n := 1) rfl (by omega) (by omega)) ?_
            refine r_iload hC dX6_steps_86 rfl ?_
            refine r_iconst hC dX6_steps_88 rfl ?_
            refine r_isubE hC ((w3 - 1)) dX6_steps_89 (by omega) (by unfold inR; omega) ?_
            refine z_iald hM dX6_steps_90 rfl (by omega) (by omega) (fun v28 h_v28 o_v28 t_v28 => ?_)
            have w_v28 := t_v28 (Or.inr (Or.inr (Or.inr ⟨rfl, by first | exact True.intro | exact (rfl : true = true)⟩)))
            subst w_v28
            refine r_icmp_ge (tgt := 98) hC dX6_steps_91 rfl (fun h29 => ?_) (fun h29 => ?_)
            · refine r_iload_n hC dX6_steps_98 rfl ?_
              refine r_iconst hC dX6_steps_99 rfl ?_
              refine r_iaddE hC ((w1 + 1)) dX6_steps_100 (by omega) (by unfold inR; omega) ?_
              refine r_istore_n hC dX6_steps_101 rfl ?_
              refine r_iload_n hC dX6_steps_102 rfl ?_
              refine r_iload hC dX6_steps_103 rfl ?_
              refine r_icmp_le (tgt := 111) hC dX6_steps_105 rfl (fun h30 => ?_) (fun h30 => ?_)
              · refine r_iincE hC ((w3 + 1)) dX6_steps_111 rfl rfl (by omega) (by unfold inR; omega) ?_
                refine r_goto (tgt := 12) hC dX6_steps_114 rfl ?_
                exact ih12 ((w1 + 1)) (w2) ((w3 + 1)) ((w4 + 1)) (w5)  (by omega) (by omega) (by omega) (by omega) (by omega) (by first | rfl | (rw [stp_stepI (by omega)]; simp only []; rw [← i0_12]; split <;> omega)) (by first | rfl | (rw [stp_stepI (by omega)]; simp only []; rw [← i1_12]; split <;> omega)) (by first | rfl | (rw [stp_stepI (by omega)]; simp only []; rw [← i2_12]; split <;> omega)) (by first | rfl | (rw [stp_stepI (by omega)]; simp only []; rw [← i2_12, ← i3_12]; split <;> omega)) (by omega) (by omega) (by omega) (by omega) (by omega) (by omega)  
              · refine r_iload_n hC dX6_steps_108 rfl ?_
                refine r_istore hC dX6_steps_109 rfl ?_
                refine r_iincE hC ((w3 + 1)) dX6_steps_111 rfl rfl (by omega) (by unfold inR; omega) ?_
                refine r_goto (tgt := 12) hC dX6_steps_114 rfl ?_
                exact ih12 ((w1 + 1)) ((w1 + 1)) ((w3 + 1)) ((w4 + 1)) (w5)  (by omega) (by omega) (by omega) (by omega) (by omega) (by first | rfl | (rw [stp_stepI (by omega)]; simp only []; rw [← i0_12]; split <;> omega)) (by first | rfl | (rw [stp_stepI (by omega)]; simp only []; rw [← i1_12]; split <;> omega)) (by first | rfl | (rw [stp_stepI (by omega)]; simp only []; rw [← i2_12]; split <;> omega)) (by first | rfl | (rw [stp_stepI (by omega)]; simp only []; rw [← i2_12, ← i3_12]; split <;> omega)) (by omega) (by omega) (by omega) (by omega) (by omega) (by omega)  
            · refine r_iconst hC dX6_steps_94 rfl ?_
              refine r_goto (tgt := 101) hC dX6_steps_95 rfl ?_
              refine r_istore_n hC dX6_steps_101 rfl ?_
              refine r_iload_n hC dX6_steps_102 rfl ?_
              refine r_iload hC dX6_steps_103 rfl ?_
              refine r_icmp_le (tgt := 111) hC dX6_steps_105 rfl (fun h31 => ?_) (fun h31 => by omega)
              refine r_iincE hC ((w3 + 1)) dX6_steps_111 rfl rfl (by omega) (by unfold inR; omega) ?_
              refine r_goto (tgt := 12) hC dX6_steps_114 rfl ?_
              exact ih12 (1) (w2) ((w3 + 1)) ((w4 + 1)) (w5)  (by omega) (by omega) (by omega) (by omega) (by omega) (by first | rfl | (rw [stp_stepI (by omega)]; simp only []; rw [← i0_12]; split <;> omega)) (by first | rfl | (rw [stp_stepI (by omega)]; simp only []; rw [← i1_12]; split <;> omega)) (by first | rfl | (rw [stp_stepI (by omega)]; simp only []; rw [← i2_12]; split <;> omega)) (by first | rfl | (rw [stp_stepI (by omega)]; simp only []; rw [← i2_12, ← i3_12]; split <;> omega)) (by omega) (by omega) (by omega) (by omega) (by omega) (by omega)  
        · refine r_iconst hC dX6_steps_41 rfl ?_
          refine r_goto (tgt := 46) hC dX6_steps_42 rfl ?_
          refine r_iaddE hC ((w5 + 1)) dX6_steps_46 (by omega) (by unfold inR; omega) ?_
          refine r_istore_n hC dX6_steps_47 rfl ?_
          refine r_iload_n hC dX6_steps_48 rfl ?_
          refine r_aload_n hC dX6_steps_49 rfl ?_
          refine z_getR hM dX6_steps_50 fl_RX6_28 rfl rfl (vld_of (n := 1) rfl (by omega) (by omega)) ?_
          refine r_iload hC dX6_steps_53 rfl ?_
          refine z_iald hM dX6_steps_55 rfl (by omega) (by omega) (fun v32 h_v32 o_v32 t_v32 => ?_)
          have w_v32 := t_v32 (Or.inr (Or.inr (Or.inr ⟨rfl, by first | exact True.intro | exact (rfl : true = true)⟩)))
          subst w_v32
          refine r_aload_n hC dX6_steps_56 rfl ?_
          refine z_getR hM dX6_steps_57 fl_RX6_28 rfl rfl (vld_of (n := 1) rfl (by omega) (by omega)) ?_
          refine r_iload hC dX6_steps_60 rfl ?_
          refine r_iconst hC dX6_steps_62 rfl ?_
          refine r_isubE hC ((w3 - 1)) dX6_steps_63 (by omega) (by unfold inR; omega) ?_
          refine z_iald hM dX6_steps_64 rfl (by omega) (by omega) (fun v33 h_v33 o_v33 t_v33 => ?_)
          have w_v33 := t_v33 (Or.inr (Or.inr (Or.inr ⟨rfl, by first | exact True.intro | exact (rfl : true = true)⟩)))
          subst w_v33
          refine r_icmp_le (tgt := 72) hC dX6_steps_65 rfl (fun h34 => ?_) (fun h34 => ?_)
          · refine r_iconst hC dX6_steps_72 rfl ?_
            refine r_iaddE hC (w4) dX6_steps_73 (by omega) (by unfold inR; omega) ?_
            refine r_istore_n hC dX6_steps_74 rfl ?_
            refine r_aload_n hC dX6_steps_75 rfl ?_
            refine z_getR hM dX6_steps_76 fl_RX6_28 rfl rfl (vld_of (n := 1) rfl (by omega) (by omega)) ?_
            refine r_iload hC dX6_steps_79 rfl ?_
            refine z_iald hM dX6_steps_81 rfl (by omega) (by omega) (fun v35 h_v35 o_v35 t_v35 => ?_)
            have w_v35 := t_v35 (Or.inr (Or.inr (Or.inr ⟨rfl, by first | exact True.intro | exact (rfl : true = true)⟩)))
            subst w_v35
            refine r_aload_n hC dX6_steps_82 rfl ?_
            refine z_getR hM dX6_steps_83 fl_RX6_28 rfl rfl (vld_of (n := 1) rfl (by omega) (by omega)) ?_
            refine r_iload hC dX6_steps_86 rfl ?_
            refine r_iconst hC dX6_steps_88 rfl ?_
            refine r_isubE hC ((w3 - 1)) dX6_steps_89 (by omega) (by unfold inR; omega) ?_
            refine z_iald hM dX6_steps_90 rfl (by omega) (by omega) (fun v36 h_v36 o_v36 t_v36 => ?_)
            have w_v36 := t_v36 (Or.inr (Or.inr (Or.inr ⟨rfl, by first | exact True.intro | exact (rfl : true = true)⟩)))
            subst w_v36
            refine r_icmp_ge (tgt := 98) hC dX6_steps_91 rfl (fun h37 => ?_) (fun h37 => ?_)
            · refine r_iload_n hC dX6_steps_98 rfl ?_
              refine r_iconst hC dX6_steps_99 rfl ?_
              refine r_iaddE hC ((w1 + 1)) dX6_steps_100 (by omega) (by unfold inR; omega) ?_
              refine r_istore_n hC dX6_steps_101 rfl ?_
              refine r_iload_n hC dX6_steps_102 rfl ?_
              refine r_iload hC dX6_steps_103 rfl ?_
              refine r_icmp_le (tgt := 111) hC dX6_steps_105 rfl (fun h38 => ?_) (fun h38 => ?_)
              · refine r_iincE hC ((w3 + 1)) dX6_steps_111 rfl rfl (by omega) (by unfold inR; omega) ?_
                refine r_goto (tgt := 12) hC dX6_steps_114 rfl ?_
                exact ih12 ((w1 + 1)) (w2) ((w3 + 1)) (w4) ((w5 + 1))  (by omega) (by omega) (by omega) (by omega) (by omega) (by first | rfl | (rw [stp_stepI (by omega)]; simp only []; rw [← i0_12]; split <;> omega)) (by first | rfl | (rw [stp_stepI (by omega)]; simp only []; rw [← i1_12]; split <;> omega)) (by first | rfl | (rw [stp_stepI (by omega)]; simp only []; rw [← i2_12]; split <;> omega)) (by first | rfl | (rw [stp_stepI (by omega)]; simp only []; rw [← i2_12, ← i3_12]; split <;> omega)) (by omega) (by omega) (by omega) (by omega) (by omega) (by omega)  
              · refine r_iload_n hC dX6_steps_108 rfl ?_
                refine r_istore hC dX6_steps_109 rfl ?_
                refine r_iincE hC ((w3 + 1)) dX6_steps_111 rfl rfl (by omega) (by unfold inR; omega) ?_
                refine r_goto (tgt := 12) hC dX6_steps_114 rfl ?_
                exact ih12 ((w1 + 1)) ((w1 + 1)) ((w3 + 1)) (w4) ((w5 + 1))  (by omega) (by omega) (by omega) (by omega) (by omega) (by first | rfl | (rw [stp_stepI (by omega)]; simp only []; rw [← i0_12]; split <;> omega)) (by first | rfl | (rw [stp_stepI (by omega)]; simp only []; rw [← i1_12]; split <;> omega)) (by first | rfl | (rw [stp_stepI (by omega)]; simp only []; rw [← i2_12]; split <;> omega)) (by first | rfl | (rw [stp_stepI (by omega)]; simp only []; rw [← i2_12, ← i3_12]; split <;> omega)) (by omega) (by omega) (by omega) (by omega) (by omega) (by omega)  
            · refine r_iconst hC dX6_steps_94 rfl ?_
              refine r_goto (tgt := 101) hC dX6_steps_95 rfl ?_
              refine r_istore_n hC dX6_steps_101 rfl ?_
              refine r_iload_n hC dX6_steps_102 rfl ?_
              refine r_iload hC dX6_steps_103 rfl ?_
              refine r_icmp_le (tgt := 111) hC dX6_steps_105 rfl (fun h39 => ?_) (fun h39 => by omega)
              refine r_iincE hC ((w3 + 1)) dX6_steps_111 rfl rfl (by omega) (by unfold inR; omega) ?_
              refine r_goto (tgt := 12) hC dX6_steps_114 rfl ?_
              exact ih12 (1) (w2) ((w3 + 1)) (w4) ((w5 + 1))  (by omega) (by omega) (by omega) (by omega) (by omega) (by first | rfl | (rw [stp_stepI (by omega)]; simp only []; rw [← i0_12]; split <;> omega)) (by first | rfl | (rw [stp_stepI (by omega)]; simp only []; rw [← i1_12]; split <;> omega)) (by first | rfl | (rw [stp_stepI (by omega)]; simp only []; rw [← i2_12]; split <;> omega)) (by first | rfl | (rw [stp_stepI (by omega)]; simp only []; rw [← i2_12, ← i3_12]; split <;> omega)) (by omega) (by omega) (by omega) (by omega) (by omega) (by omega)  
          · refine r_iconst hC dX6_steps_68 rfl ?_
            refine r_goto (tgt := 73) hC dX6_steps_69 rfl ?_
            refine r_iaddE hC ((w4 + 1)) dX6_steps_73 (by omega) (by unfold inR; omega) ?_
            refine r_istore_n hC dX6_steps_74 rfl ?_
            refine r_aload_n hC dX6_steps_75 rfl ?_
            refine z_getR hM dX6_steps_76 fl_RX6_28 rfl rfl (vld_of (n := 1) rfl (by omega) (by omega)) ?_
            refine r_iload hC dX6_steps_79 rfl ?_
            refine z_iald hM dX6_steps_81 rfl (by omega) (by omega) (fun v40 h_v40 o_v40 t_v40 => ?_)
            have w_v40 := t_v40 (Or.inr (Or.inr (Or.inr ⟨rfl, by first | exact True.intro | exact (rfl : true = true)⟩)))
            subst w_v40
            refine r_aload_n hC dX6_steps_82 rfl ?_
            refine z_getR hM dX6_steps_83 fl_RX6_28 rfl rfl (vld_of (n := 1) rfl (by omega) (by omega)) ?_
            refine r_iload hC dX6_steps_86 rfl ?_
            refine r_iconst hC dX6_steps_88 rfl ?_
            refine r_isubE hC ((w3 - 1)) dX6_steps_89 (by omega) (by unfold inR; omega) ?_
            refine z_iald hM dX6_steps_90 rfl (by omega) (by omega) (fun v41 h_v41 o_v41 t_v41 => ?_)
            have w_v41 := t_v41 (Or.inr (Or.inr (Or.inr ⟨rfl, by first | exact True.intro | exact (rfl : true = true)⟩)))
            subst w_v41
            refine r_icmp_ge (tgt := 98) hC dX6_steps_91 rfl (fun h42 => ?_) (fun h42 => ?_)
            · refine r_iload_n hC dX6_steps_98 rfl ?_
              refine r_iconst hC dX6_steps_99 rfl ?_
              refine r_iaddE hC ((w1 + 1)) dX6_steps_100 (by omega) (by unfold inR; omega) ?_
              refine r_istore_n hC dX6_steps_101 rfl ?_
              refine r_iload_n hC dX6_steps_102 rfl ?_
              refine r_iload hC dX6_steps_103 rfl ?_
              refine r_icmp_le (tgt := 111) hC dX6_steps_105 rfl (fun h43 => ?_) (fun h43 => ?_)
              · refine r_iincE hC ((w3 + 1)) dX6_steps_111 rfl rfl (by omega) (by unfold inR; omega) ?_
                refine r_goto (tgt := 12) hC dX6_steps_114 rfl ?_
                exact ih12 ((w1 + 1)) (w2) ((w3 + 1)) ((w4 + 1)) ((w5 + 1))  (by omega) (by omega) (by omega) (by omega) (by omega) (by first | rfl | (rw [stp_stepI (by omega)]; simp only []; rw [← i0_12]; split <;> omega)) (by first | rfl | (rw [stp_stepI (by omega)]; simp only []; rw [← i1_12]; split <;> omega)) (by first | rfl | (rw [stp_stepI (by omega)]; simp only []; rw [← i2_12]; split <;> omega)) (by first | rfl | (rw [stp_stepI (by omega)]; simp only []; rw [← i2_12, ← i3_12]; split <;> omega)) (by omega) (by omega) (by omega) (by omega) (by omega) (by omega)  
              · refine r_iload_n hC dX6_steps_108 rfl ?_
                refine r_istore hC dX6_steps_109 rfl ?_
                refine r_iincE hC ((w3 + 1)) dX6_steps_111 rfl rfl (by omega) (by unfold inR; omega) ?_
                refine r_goto (tgt := 12) hC dX6_steps_114 rfl ?_
                exact ih12 ((w1 + 1)) ((w1 + 1)) ((w3 + 1)) ((w4 + 1)) ((w5 + 1))  (by omega) (by omega) (by omega) (by omega) (by omega) (by first | rfl | (rw [stp_stepI (by omega)]; simp only []; rw [← i0_12]; split <;> omega)) (by first | rfl | (rw [stp_stepI (by omega)]; simp only []; rw [← i1_12]; split <;> omega)) (by first | rfl | (rw [stp_stepI (by omega)]; simp only []; rw [← i2_12]; split <;> omega)) (by first | rfl | (rw [stp_stepI (by omega)]; simp only []; rw [← i2_12, ← i3_12]; split <;> omega)) (by omega) (by omega) (by omega) (by omega) (by omega) (by omega)  
            · refine r_iconst hC dX6_steps_94 rfl ?_
              refine r_goto (tgt := 101) hC dX6_steps_95 rfl ?_
              refine r_istore_n hC dX6_steps_101 rfl ?_
              refine r_iload_n hC dX6_steps_102 rfl ?_
              refine r_iload hC dX6_steps_103 rfl ?_
              refine r_icmp_le (tgt := 111) hC dX6_steps_105 rfl (fun h44 => ?_) (fun h44 => by omega)
              refine r_iincE hC ((w3 + 1)) dX6_steps_111 rfl rfl (by omega) (by unfold inR; omega) ?_
              refine r_goto (tgt := 12) hC dX6_steps_114 rfl ?_
              exact ih12 (1) (w2) ((w3 + 1)) ((w4 + 1)) ((w5 + 1))  (by omega) (by omega) (by omega) (by omega) (by omega) (by first | rfl | (rw [stp_stepI (by omega)]; simp only []; rw [← i0_12]; split <;> omega)) (by first | rfl | (rw [stp_stepI (by omega)]; simp only []; rw [← i1_12]; split <;> omega)) (by first | rfl | (rw [stp_stepI (by omega)]; simp only []; rw [← i2_12]; split <;> omega)) (by first | rfl | (rw [stp_stepI (by omega)]; simp only []; rw [← i2_12, ← i3_12]; split <;> omega)) (by omega) (by omega) (by omega) (by omega) (by omega) (by omega)  
  exact L12 244 (1) (1) (1) (0) (0)  (by omega) (by omega) (by omega) (by omega) (by omega) (by first | rfl | (rw [stp_stepI (by omega)]; simp only []; rw [← i0_12]; split <;> omega)) (by first | rfl | (rw [stp_stepI (by omega)]; simp only []; rw [← i1_12]; split <;> omega)) (by first | rfl | (rw [stp_stepI (by omega)]; simp only []; rw [← i2_12]; split <;> omega)) (by first | rfl | (rw [stp_stepI (by omega)]; simp only []; rw [← i2_12, ← i3_12]; split <;> omega)) (by omega) (by omega) (by omega) (by omega) (by omega) (by omega)  
theorem y_nest {eb : Bool} {n : Nat} {d : Nat} {P : Option Vl → Mm → Prop} {σ : Mm} {t0 t1 t2 t3 : Int} (qg0 : σ 30 0 8 = (n : Int)) (qg1 : σ 38 0 0 = t0) (qg2 : σ 38 0 1 = t1) (qg3 : σ 38 0 2 = t2) (qg4 : σ 38 0 3 = t3) (hn1 : 1 ≤ n) (hn : n ≤ 242)  (k : ∀ ρ : Mm, Gx (fun c x y => c = 38 ∧ x = 0) σ ρ → ρ 38 0 0 = ((nst (σ 37 0) n).1) → ρ 38 0 1 = ((nst (σ 37 0) n).2.1) → ρ 38 0 2 = ((nst (σ 37 0) n).2.2.1) → ρ 38 0 3 = ((nst (σ 37 0) n).2.2.2) → P none ρ) : WT (true, eb, true) (d + 1) 167 [vR 30 0] σ P := by
  refine WT_in fun K hK => ?_
  have hK : StpY (true, eb, true) cX6_nest RX6 (none) (WT (true, eb, true) (d + 0)) P K := hK
  have hM := hK.1
  have hC := hK.1.1
  show K 0 [some (vR 30 0), none, none, none, none, none, none] [] σ
  refine r_iconst hC dX6_nest_0 rfl ?_
  refine r_istore_n hC dX6_nest_1 rfl ?_
  refine r_iconst hC dX6_nest_2 rfl ?_
  refine r_istore_n hC dX6_nest_3 rfl ?_
  refine r_iconst hC dX6_nest_4 rfl ?_
  refine r_istore_n hC dX6_nest_5 rfl ?_
  show K _ [_, _, _, _, _, _, _] _ _
  refine r_iconst hC dX6_nest_6 rfl ?_
  refine r_istore hC dX6_nest_7 rfl ?_
  refine r_iconst hC dX6_nest_9 rfl ?_
  refine r_istore hC dX6_nest_10 rfl ?_
  refine r_iconst hC dX6_nest_12 rfl ?_
  refine r_istore hC dX6_nest_13 rfl ?_
  have L15 : ∀ (n15 : Nat) (w1 w2 w3 w4 w5 w6 : Int), 0 ≤ w1 ∧ w1 ≤ 242 → -242 ≤ w2 ∧ w2 ≤ 242 → 0 ≤ w3 ∧ w3 ≤ 242 → 0 ≤ w4 ∧ w4 ≤ 242 → 0 ≤ w5 ∧ w5 ≤ 242 → 0 ≤ w6 ∧ w6 ≤ 242 → ((w5) = (nst (σ 37 0) ((w4)).toNat).1) → ((w1) = (nst (σ 37 0) ((w4)).toNat).2.1) → ((w6) = (nst (σ 37 0) ((w4)).toNat).2.2.1) → ((w3) = (nst (σ 37 0) ((w4)).toNat).2.2.2) → ((w2) = (w1) - (w5)) → ((w5) + (w1) + (w6) ≤ (w4)) → ((w3) ≤ (w4)) → ((w4) ≤ (n : Int)) → 242 - w4 < (n15 : Int) → K 15 [some (vR 30 0), some (vI w5), some (vI w1), some (vI w6), some (vI w2), some (vI w3), some (vI w4)] [] σ := by
    intro n15
    induction n15 with
    | zero => intro w1 w2 w3 w4 w5 w6  f_w1 f_w2 f_w3 f_w4 f_w5 f_w6 i0_15 i1_15 i2_15 i3_15 i4_15 i5_15 i6_15 i7_15 hm  ; omega
    | succ n15 ih15 =>
      intro w1 w2 w3 w4 w5 w6  f_w1 f_w2 f_w3 f_w4 f_w5 f_w6 i0_15 i1_15 i2_15 i3_15 i4_15 i5_15 i6_15 i7_15 hm15  
      refine r_iload hC dX6_nest_15 rfl ?_
      refine r_aload_n hC dX6_nest_17 rfl ?_
      refine z_getI (jz := 8) hM dX6_nest_18 fl_RX6_105 rfl rfl rfl (fun v7 h_v7 o_v7 t_v7 => ?_)
      have e_v7 : (n : Int) = v7 := ((t_v7 ((by simp [Tk, Tb, DL, DR]))).trans qg0).symm
      subst e_v7
      refine r_icmp_ge (tgt := 93) hC dX6_nest_21 rfl (fun h8 => ?_) (fun h8 => ?_)
      · refine r_aload_n hC dX6_nest_93 rfl ?_
        refine z_getR hM dX6_nest_94 fl_RX6_31 rfl rfl (vld_of (n := 1) rfl (by omega) (by omega)) ?_
        refine r_iconst hC dX6_nest_97 rfl ?_
        refine r_iload_n hC dX6_nest_98 rfl ?_
        refine z_iastG hM dX6_nest_99 rfl (by omega) (by omega) (by simp [Tl, DL, DF]) (by first | trivial | (simp only [Okv]; omega) | (simp [Okv]; try omega)) (fun ρ9 a_ρ9 q_ρ9 => ?_)
        refine r_aload_n hC dX6_nest_100 rfl ?_
        refine z_getR hM dX6_nest_101 fl_RX6_31 rfl rfl (vld_of (n := 1) rfl (by omega) (by omega)) ?_
        refine r_iconst hC dX6_nest_104 rfl ?_
        refine r_iload_n hC dX6_nest_105 rfl ?_
        refine z_iastG hM dX6_nest_106 rfl (by omega) (by omega) (by simp [Tl, DL, DF]) (by first | trivial | (simp only [Okv]; omega) | (simp [Okv]; try omega)) (fun ρ10 a_ρ10 q_ρ10 => ?_)
        refine r_aload_n hC dX6_nest_107 rfl ?_
        refine z_getR hM dX6_nest_108 fl_RX6_31 rfl rfl (vld_of (n := 1) rfl (by omega) (by omega)) ?_
        refine r_iconst hC dX6_nest_111 rfl ?_
        refine r_iload_n hC dX6_nest_112 rfl ?_
        refine z_iastG hM dX6_nest_113 rfl (by omega) (by omega) (by simp [Tl, DL, DF]) (by first | trivial | (simp only [Okv]; omega) | (simp [Okv]; try omega)) (fun ρ11 a_ρ11 q_ρ11 => ?_)
        refine r_aload_n hC dX6_nest_114 rfl ?_
        refine z_getR hM dX6_nest_115 fl_RX6_31 rfl rfl (vld_of (n := 1) rfl (by omega) (by omega)) ?_
        refine r_iconst hC dX6_nest_118 rfl ?_
        refine r_iload hC dX6_nest_119 rfl ?_
        refine z_iastG hM dX6_nest_121 rfl (by omega) (by omega) (by simp [Tl, DL, DF]) (by first | trivial | (simp only [Okv]; omega) | (simp [Okv]; try omega)) (fun ρ12 a_ρ12 q_ρ12 => ?_)
        refine y_vret hK rfl dX6_nest_122 ?_
        have hs0 : w5 = (nst (σ 37 0) n).1 := at_nat (n := n) (f := fun m => (nst (σ 37 0) m).1) i0_15 (by omega)
        have hs1 : w1 = (nst (σ 37 0) n).2.1 := at_nat (n := n) (f := fun m => (nst (σ 37 0) m).2.1) i1_15 (by omega)
        have hs2 : w6 = (nst (σ 37 0) n).2.2.1 := at_nat (n := n) (f := fun m => (nst (σ 37 0) m).2.2.1) i2_15 (by omega)
        have hs3 : w3 = (nst (σ 37 0) n).2.2.2 := at_nat (n := n) (f := fun m => (nst (σ 37 0) m).2.2.2) i3_15 (by omega)
        exact k _ (((((Gx.rf).al a_ρ9 (by first | (simp; done) | omega | (simp; omega))).al a_ρ10 (by first | (simp; done) | omega | (simp; omega))).al a_ρ11 (by first | (simp; done) | omega | (simp; omega))).al a_ρ12 (by first | (simp; done) | omega | (simp; omega))) (by have hq := ((a_ρ12 _ _ _ (by omega)).trans ((a_ρ11 _ _ _ (by omega)).trans ((a_ρ10 _ _ _ (by omega)).trans q_ρ9))); exact hq.trans hs0) (by have hq := ((a_ρ12 _ _ _ (by omega)).trans ((a_ρ11 _ _ _ (by omega)).trans q_ρ10)); exact hq.trans hs1) (by have hq := ((a_ρ12 _ _ _ (by omega)).trans q_ρ11); exact hq.trans hs2) (by have hq := q_ρ12; exact hq.trans hs3)
      · refine r_iload hC dX6_nest_24 rfl ?_
        refine r_aload_n hC dX6_nest_26 rfl ?_
        refine z_getR hM dX6_nest_27 fl_RX6_28 rfl rfl (vld_of (n := 1) rfl (by omega) (by omega)) ?_
        refine r_iload hC dX6_nest_30 rfl ?_
        refine z_iald hM dX6_nest_32 rfl (by omega) (by omega) (fun v13 h_v13 o_v13 t_v13 => ?_)
        have w_v13 := t_v13 (Or.inr (Or.inr (Or.inr ⟨rfl, by first | exact True.intro | exact (rfl : true = true)⟩)))
        subst w_v13
        refine r_if_ge (tgt := 40) hC dX6_nest_33 rfl (fun h14 => ?_) (fun h14 => ?_)
        · refine r_iconst hC dX6_nest_40 rfl ?_
          refine r_iaddE hC ((w2 + 1)) dX6_nest_41 (by omega) (by unfold inR; omega) ?_
          refine r_istore hC dX6_nest_42 rfl ?_
          refine r_iload hC dX6_nest_44 rfl ?_
          refine r_iload hC dX6_nest_46 rfl ?_
          refine r_icmp_le (tgt := 55) hC dX6_nest_48 rfl (fun h15 => ?_) (fun h15 => ?_)
          · refine r_aload_n hC dX6_nest_55 rfl ?_
            refine z_getR hM dX6_nest_56 fl_RX6_28 rfl rfl (vld_of (n := 1) rfl (by omega) (by omega)) ?_
            refine r_iload hC dX6_nest_59 rfl ?_
            refine z_iald hM dX6_nest_61 rfl (by omega) (by omega) (fun v16 h_v16 o_v16 t_v16 => ?_)
            have w_v16 := t_v16 (Or.inr (Or.inr (Or.inr ⟨rfl, by first | exact True.intro | exact (rfl : true = true)⟩)))
            subst w_v16
            refine r_if_lt (tgt := 71) hC dX6_nest_62 rfl (fun h17 => by omega) (fun h17 => ?_)
            refine r_iincE hC ((w1 + 1)) dX6_nest_65 rfl rfl (by omega) (by unfold inR; omega) ?_
            refine r_goto (tgt := 87) hC dX6_nest_68 rfl ?_
            refine r_iincE hC ((w4 + 1)) dX6_nest_87 rfl rfl (by omega) (by unfold inR; omega) ?_
            refine r_goto (tgt := 15) hC dX6_nest_90 rfl ?_
            exact ih15 ((w1 + 1)) ((w2 + 1)) (w3) ((w4 + 1)) (w5) (w6)  (by omega) (by omega) (by omega) (by omega) (by omega) (by omega) (by first | rfl | (rw [nst_stepI (by omega)]; dsimp only; split <;> (try split) <;> (try dsimp only) <;> omega)) (by first | rfl | (rw [nst_stepI (by omega)]; dsimp only; split <;> (try split) <;> (try dsimp only) <;> omega)) (by first | rfl | (rw [nst_stepI (by omega)]; dsimp only; split <;> (try split) <;> (try dsimp only) <;> omega)) (by first | rfl | (rw [nst_stepI (by omega)]; dsimp only; split <;> (try split) <;> (try dsimp only) <;> omega)) (by omega) (by omega) (by omega) (by omega) (by omega)  
          · refine r_iload hC dX6_nest_51 rfl ?_
            refine r_istore hC dX6_nest_53 rfl ?_
            refine r_aload_n hC dX6_nest_55 rfl ?_
            refine z_getR hM dX6_nest_56 fl_RX6_28 rfl rfl (vld_of (n := 1) rfl (by omega) (by omega)) ?_
            refine r_iload hC dX6_nest_59 rfl ?_
            refine z_iald hM dX6_nest_61 rfl (by omega) (by omega) (fun v18 h_v18 o_v18 t_v18 => ?_)
            have w_v18 := t_v18 (Or.inr (Or.inr (Or.inr ⟨rfl, by first | exact True.intro | exact (rfl : true = true)⟩)))
            subst w_v18
            refine r_if_lt (tgt := 71) hC dX6_nest_62 rfl (fun h19 => by omega) (fun h19 => ?_)
            refine r_iincE hC ((w1 + 1)) dX6_nest_65 rfl rfl (by omega) (by unfold inR; omega) ?_
            refine r_goto (tgt := 87) hC dX6_nest_68 rfl ?_
            refine r_iincE hC ((w4 + 1)) dX6_nest_87 rfl rfl (by omega) (by unfold inR; omega) ?_
            show K _ [_, _, _, _, _, _, _] _ _
            refine r_goto (tgt := 15) hC dX6_nest_90 rfl ?_
            exact ih15 ((w1 + 1)) ((w2 + 1)) ((w2 + 1)) ((w4 + 1)) (w5) (w6)  (by omega) (by omega) (by omega) (by omega) (by omega) (by omega) (by first | rfl | (rw [nst_stepI (by omega)]; dsimp only; split <;> (try split) <;> (try dsimp only) <;> omega)) (by first | rfl | (rw [nst_stepI (by omega)]; dsimp only; split <;> (try split) <;> (try dsimp only) <;> omega)) (by first | rfl | (rw [nst_stepI (by omega)]; dsimp only; split <;> (try split) <;> (try dsimp only) <;> omega)) (by first | rfl | (rw [nst_stepI (by omega)]; dsimp only; split <;> (try split) <;> (try dsimp only) <;> omega)) (by omega) (by omega) (by omega) (by omega) (by omega)  
        · refine r_iconst hC dX6_nest_36 rfl ?_
          refine r_goto (tgt := 41) hC dX6_nest_37 rfl ?_
          refine r_iaddE hC ((w2 - 1)) dX6_nest_41 (by omega) (by unfold inR; omega) ?_
          refine r_istore hC dX6_nest_42 rfl ?_
          refine r_iload hC dX6_nest_44 rfl ?_
          refine r_iload hC dX6_nest_46 rfl ?_
          refine r_icmp_le (tgt := 55) hC dX6_nest_48 rfl (fun h20 => ?_) (fun h20 => ?_)
          · refine r_aload_n hC dX6_nest_55 rfl ?_
            refine z_getR hM dX6_nest_56 fl_RX6_28 rfl rfl (vld_of (n := 1) rfl (by omega) (by omega)) ?_
            refine r_iload hC dX6_nest_59 rfl ?_
            refine z_iald hM dX6_nest_61 rfl (by omega) (by omega) (fun v21 h_v21 o_v21 t_v21 => ?_)
            have w_v21 := t_v21 (Or.inr (Or.inr (Or.inr ⟨rfl, by first | exact True.intro | exact (rfl : true = true)⟩)))
            subst w_v21
            refine r_if_lt (tgt := 71) hC dX6_nest_62 rfl (fun h22 => ?_) (fun h22 => by omega)
            refine r_iload_n hC dX6_nest_71 rfl ?_
            refine r_if_ne (tgt := 81) hC dX6_nest_72 rfl (fun h23 => ?_) (fun h23 => ?_)
            · refine r_iincE hC ((w1 - 1)) dX6_nest_81 rfl rfl (by omega) (by unfold inR; omega) ?_
              refine r_iincE hC ((w6 + 1)) dX6_nest_84 rfl rfl (by omega) (by unfold inR; omega) ?_
              refine r_iincE hC ((w4 + 1)) dX6_nest_87 rfl rfl (by omega) (by unfold inR; omega) ?_
              show K _ [_, _, _, _, _, _, _] _ _
              refine r_goto (tgt := 15) hC dX6_nest_90 rfl ?_
              exact ih15 ((w1 - 1)) ((w2 - 1)) (w3) ((w4 + 1)) (w5) ((w6 + 1))  (by omega) (by omega) (by omega) (by omega) (by omega) (by omega) (by first | rfl | (rw [nst_stepI (by omega)]; dsimp only; split <;> (try split) <;> (try dsimp only) <;> omega)) (by first | rfl | (rw [nst_stepI (by omega)]; dsimp only; split <;> (try split) <;> (try dsimp only) <;> omega)) (by first | rfl | (rw [nst_stepI (by omega)]; dsimp only; split <;> (try split) <;> (try dsimp only) <;> omega)) (by first | rfl | (rw [nst_stepI (by omega)]; dsimp only; split <;> (try split) <;> (try dsimp only) <;> omega)) (by omega) (by omega) (by omega) (by omega) (by omega)  
            · refine r_iincE hC ((w5 + 1)) dX6_nest_75 rfl rfl (by omega) (by unfold inR; omega) ?_
              refine r_goto (tgt := 87) hC dX6_nest_78 rfl ?_
              refine r_iincE hC ((w4 + 1)) dX6_nest_87 rfl rfl (by omega) (by unfold inR; omega) ?_
              refine r_goto (tgt := 15) hC dX6_nest_90 rfl ?_
              exact ih15 (w1) ((w2 - 1)) (w3) ((w4 + 1)) ((w5 + 1)) (w6)  (by omega) (by omega) (by omega) (by omega) (by omega) (by omega) (by first | rfl | (rw [nst_stepI (by omega)]; dsimp only; split <;> (try split) <;> (try dsimp only) <;> omega)) (by first | rfl | (rw [nst_stepI (by omega)]; dsimp only; split <;> (try split) <;> (try dsimp only) <;> omega)) (by first | rfl | (rw [nst_stepI (by omega)]; dsimp only; split <;> (try split) <;> (try dsimp only) <;> omega)) (by first | rfl | (rw [nst_stepI (by omega)]; dsimp only; split <;> (try split) <;> (try dsimp only) <;> omega)) (by omega) (by omega) (by omega) (by omega) (by omega)  
          · refine r_iload hC dX6_nest_51 rfl ?_
            refine r_istore hC dX6_nest_53 rfl ?_
            refine r_aload_n hC dX6_nest_55 rfl ?_
            refine z_getR hM dX6_nest_56 fl_RX6_28 rfl rfl (vld_of (n := 1) rfl (by omega) (by omega)) ?_
            refine r_iload hC dX6_nest_59 rfl ?_
            refine z_iald hM dX6_nest_61 rfl (by omega) (by omega) (fun v24 h_v24 o_v24 t_v24 => ?_)
            have w_v24 := t_v24 (Or.inr (Or.inr (Or.inr ⟨rfl, by first | exact True.intro | exact (rfl : true = true)⟩)))
            subst w_v24
            refine r_if_lt (tgt := 71) hC dX6_nest_62 rfl (fun h25 => ?_) (fun h25 => by omega)
            refine r_iload_n hC dX6_nest_71 rfl ?_
            refine r_if_ne (tgt := 81) hC dX6_nest_72 rfl (fun h26 => ?_) (fun h26 => ?_)
            · refine r_iincE hC ((w1 - 1)) dX6_nest_81 rfl rfl (by omega) (by unfold inR; omega) ?_
              refine r_iincE hC ((w6 + 1)) dX6_nest_84 rfl rfl (by omega) (by unfold inR; omega) ?_
              refine r_iincE hC ((w4 + 1)) dX6_nest_87 rfl rfl (by omega) (by unfold inR; omega) ?_
              show K _ [_, _, _, _, _, _, _] _ _
              refine r_goto (tgt := 15) hC dX6_nest_90 rfl ?_
              exact ih15 ((w1 - 1)) ((w2 - 1)) ((w2 - 1)) ((w4 + 1)) (w5) ((w6 + 1))  (by omega) (by omega) (by omega) (by omega) (by omega) (by omega) (by first | rfl | (rw [nst_stepI (by omega)]; dsimp only; split <;> (try split) <;> (try dsimp only) <;> omega)) (by first | rfl | (rw [nst_stepI (by omega)]; dsimp only; split <;> (try split) <;> (try dsimp only) <;> omega)) (by first | rfl | (rw [nst_stepI (by omega)]; dsimp only; split <;> (try split) <;> (try dsimp only) <;> omega)) (by first | rfl | (rw [nst_stepI (by omega)]; dsimp only; split <;> (try split) <;> (try dsimp only) <;> omega)) (by omega) (by omega) (by omega) (by omega) (by omega)  
            · refine r_iincE hC ((w5 + 1)) dX6_nest_75 rfl rfl (by omega) (by unfold inR; omega) ?_
              refine r_goto (tgt := 87) hC dX6_nest_78 rfl ?_
              refine r_iincE hC ((w4 + 1)) dX6_nest_87 rfl rfl (by omega) (by unfold inR; omega) ?_
              refine r_goto (tgt := 15) hC dX6_nest_90 rfl ?_
              exact ih15 (w1) ((w2 - 1)) ((w2 - 1)) ((w4 + 1)) ((w5 + 1)) (w6)  (by omega) (by omega) (by omega) (by omega) (by omega) (by omega) (by first | rfl | (rw [nst_stepI (by omega)]; dsimp only; split <;> (try split) <;> (try dsimp only) <;> omega)) (by first | rfl | (rw [nst_stepI (by omega)]; dsimp only; split <;> (try split) <;> (try dsimp only) <;> omega)) (by first | rfl | (rw [nst_stepI (by omega)]; dsimp only; split <;> (try split) <;> (try dsimp only) <;> omega)) (by first | rfl | (rw [nst_stepI (by omega)]; dsimp only; split <;> (try split) <;> (try dsimp only) <;> omega)) (by omega) (by omega) (by omega) (by omega) (by omega)  
  exact L15 244 (0) (0) (0) (0) (0) (0)  (by omega) (by omega) (by omega) (by omega) (by omega) (by omega) (by first | rfl | (rw [nst_stepI (by omega)]; dsimp only; split <;> (try split) <;> (try dsimp only) <;> omega)) (by first | rfl | (rw [nst_stepI (by omega)]; dsimp only; split <;> (try split) <;> (try dsimp only) <;> omega)) (by first | rfl | (rw [nst_stepI (by omega)]; dsimp only; split <;> (try split) <;> (try dsimp only) <;> omega)) (by first | rfl | (rw [nst_stepI (by omega)]; dsimp only; split <;> (try split) <;> (try dsimp only) <;> omega)) (by omega) (by omega) (by omega) (by omega) (by omega)  
theorem lin_stepW {v : Int → Int} {i : Int} (h : 0 ≤ i) (hb : -1000 ≤ v i ∧ v i ≤ 1000) : (lin v (i + 1).toNat).2 = ((v i % 997) * (lin v i.toNat).2 + wr (wr (7 * v i) + 1) % 997) % 997 := by
  rw [lin_stepI h, wr_id (a := 7 * v i) (by first | exact ⟨by omega, by omega⟩ | (simp only [inR]; omega)), wr_id (a := 7 * v i + 1) (by first | exact ⟨by omega, by omega⟩ | (simp only [inR]; omega))]
theorem y_line {eb : Bool} {n : Nat} {d : Nat} {P : Option Vl → Mm → Prop} {σ : Mm} {t0 t1 : Int} (qg0 : σ 30 0 8 = (n : Int)) (qg1 : σ 38 0 0 = t0) (qg2 : σ 38 0 1 = t1) (hn1 : 1 ≤ n) (hn : n ≤ 242) (hb : Bd (σ 37 0) n)  (k : ∀ ρ : Mm, Gx (fun c x y => c = 38 ∧ x = 0) σ ρ → ρ 38 0 0 = ((lin (σ 37 0) n).1) → ρ 38 0 1 = ((lin (σ 37 0) n).2) → P none ρ) : WT (true, eb, true) (d + 2) 163 [vR 30 0] σ P := by
  refine WT_in fun K hK => ?_
  have hK : StpY (true, eb, true) cX6_line RX6 (none) (WT (true, eb, true) (d + 1)) P K := hK
  have hM := hK.1
  have hC := hK.1.1
  show K 0 [some (vR 30 0), none, none, none, none] [] σ
  refine r_iconst hC dX6_line_0 rfl ?_
  refine r_istore_n hC dX6_line_1 rfl ?_
  refine r_iconst hC dX6_line_2 rfl ?_
  refine r_istore_n hC dX6_line_3 rfl ?_
  refine r_iconst hC dX6_line_4 rfl ?_
  refine r_istore_n hC dX6_line_5 rfl ?_
  have L6 : ∀ (n6 : Nat) (w1 w2 w3 : Int), 0 ≤ w1 ∧ w1 ≤ 996 → 0 ≤ w2 ∧ w2 ≤ 996 → 0 ≤ w3 ∧ w3 ≤ 242 → ((w1) = (lin (σ 37 0) ((w3)).toNat).1) → ((w2) = (lin (σ 37 0) ((w3)).toNat).2) → ((w3) ≤ (n : Int)) → 242 - w3 < (n6 : Int) → K 6 [some (vR 30 0), some (vI w1), some (vI w2), some (vI w3), none] [] σ := by
    intro n6
    induction n6 with
    | zero => intro w1 w2 w3  f_w1 f_w2 f_w3 i0_6 i1_6 i2_6 hm  ; omega
    | succ n6 ih6 =>
      intro w1 w2 w3  f_w1 f_w2 f_w3 i0_6 i1_6 i2_6 hm6  
      refine r_iload_n hC dX6_line_6 rfl ?_
      refine r_aload_n hC dX6_line_7 rfl ?_
      refine z_getI (jz := 8) hM dX6_line_8 fl_RX6_105 rfl rfl rfl (fun v4 h_v4 o_v4 t_v4 => ?_)
      have e_v4 : (n : Int) = v4 := ((t_v4 ((by simp [Tk, Tb, DL, DR]))).trans qg0).symm
      subst e_v4
      refine r_icmp_ge (tgt := 70) hC dX6_line_11 rfl (fun h5 => ?_) (fun h5 => ?_)
      · refine r_aload_n hC dX6_line_70 rfl ?_
        refine z_getR hM dX6_line_71 fl_RX6_31 rfl rfl (vld_of (n := 1) rfl (by omega) (by omega)) ?_
        refine r_iconst hC dX6_line_74 rfl ?_
        refine r_iload_n hC dX6_line_75 rfl ?_
        refine z_iastG hM dX6_line_76 rfl (by omega) (by omega) (by simp [Tl, DL, DF]) (by first | trivial | (simp only [Okv]; omega) | (simp [Okv]; try omega)) (fun ρ6 a_ρ6 q_ρ6 => ?_)
        refine r_aload_n hC dX6_line_77 rfl ?_
        refine z_getR hM dX6_line_78 fl_RX6_31 rfl rfl (vld_of (n := 1) rfl (by omega) (by omega)) ?_
        refine r_iconst hC dX6_line_81 rfl ?_
        refine r_iload_n hC dX6_line_82 rfl ?_
        refine z_iastG hM dX6_line_83 rfl (by omega) (by omega) (by simp [Tl, DL, DF]) (by first | trivial | (simp only [Okv]; omega) | (simp [Okv]; try omega)) (fun ρ7 a_ρ7 q_ρ7 => ?_)
        refine y_vret hK rfl dX6_line_84 ?_
        have hs0 : w1 = (lin (σ 37 0) n).1 := at_nat (n := n) (f := fun m => (lin (σ 37 0) m).1) i0_6 (by omega)
        have hs1 : w2 = (lin (σ 37 0) n).2 := at_nat (n := n) (f := fun m => (lin (σ 37 0) m).2) i1_6 (by omega)
        exact k _ (((Gx.rf).al a_ρ6 (by first | (simp; done) | omega | (simp; omega))).al a_ρ7 (by first | (simp; done) | omega | (simp; omega))) (by have hq := ((a_ρ7 _ _ _ (by omega)).trans q_ρ6); exact hq.trans hs0) (by have hq := q_ρ7; exact hq.trans hs1)
      · refine r_aload_n hC dX6_line_14 rfl ?_
        refine z_getR hM dX6_line_15 fl_RX6_28 rfl rfl (vld_of (n := 1) rfl (by omega) (by omega)) ?_
        refine r_iload_n hC dX6_line_18 rfl ?_
        refine z_iald hM dX6_line_19 rfl (by omega) (by omega) (fun v8 h_v8 o_v8 t_v8 => ?_)
        have w_v8 := t_v8 (Or.inr (Or.inr (Or.inr ⟨rfl, by first | exact True.intro | exact (rfl : true = true)⟩)))
        subst w_v8
        refine r_sipush hC dX6_line_20 rfl ?_
        refine z_ins2 hM dX6_line_23 tl_RX6_164 rfl (Nat.le_of_ble_eq_true rfl) (Nat.le_of_ble_eq_true rfl) ?_
        refine y_rest (by omega) (fun h9 => ?_)
        refine r_istore hC dX6_line_26 rfl ?_
        refine r_iload hC dX6_line_28 rfl ?_
        refine r_iload_n hC dX6_line_30 rfl ?_
        have m10 := mul_nn (a := ((σ 37 0 w3) % 997)) (b := w1) (A := 996) (B := 996) (by omega) (by omega) (by omega) (by omega)
        refine r_imulE hC ((((σ 37 0 w3) % 997) * w1)) dX6_line_31 (by omega) (by unfold inR; omega) ?_
        refine r_sipush hC dX6_line_32 rfl ?_
        refine r_iremN hC dX6_line_35 (by omega) (by omega) ?_
        refine r_istore_n hC dX6_line_36 rfl ?_
        refine r_iload hC dX6_line_37 rfl ?_
        refine r_iload_n hC dX6_line_39 rfl ?_
        have m11 := mul_nn (a := ((σ 37 0 w3) % 997)) (b := w2) (A := 996) (B := 996) (by omega) (by omega) (by omega) (by omega)
        refine r_imulE hC ((((σ 37 0 w3) % 997) * w2)) dX6_line_40 (by omega) (by unfold inR; omega) ?_
        refine r_bipush hC dX6_line_41 rfl ?_
        refine r_aload_n hC dX6_line_43 rfl ?_
        refine z_getR hM dX6_line_44 fl_RX6_28 rfl rfl (vld_of (n := 1) rfl (by omega) (by omega)) ?_
        refine r_iload_n hC dX6_line_47 rfl ?_
        refine z_iald hM dX6_line_48 rfl (by omega) (by omega) (fun v12 h_v12 o_v12 t_v12 => ?_)
        have w_v12 := t_v12 (Or.inr (Or.inr (Or.inr ⟨rfl, by first | exact True.intro | exact (rfl : true = true)⟩)))
        subst w_v12
        refine r_imul hC dX6_line_49 ?_
        have f13 := inR_le (inR_wr (7 * (σ 37 0 w3)))
        refine r_iconst hC dX6_line_50 rfl ?_
        refine r_iadd hC dX6_line_51 ?_
        have f14 := inR_le (inR_wr ((wr (7 * (σ 37 0 w3))) + 1))
        refine r_sipush hC dX6_line_52 rfl ?_
        refine z_ins2 hM dX6_line_55 tl_RX6_164 rfl (Nat.le_of_ble_eq_true rfl) (Nat.le_of_ble_eq_true rfl) ?_
        refine y_rest (by omega) (fun h15 => ?_)
        refine r_iaddE hC (((((σ 37 0 w3) % 997) * w2) + ((wr ((wr (7 * (σ 37 0 w3))) + 1)) % 997))) dX6_line_58 (by omega) (by unfold inR; omega) ?_
        refine r_sipush hC dX6_line_59 rfl ?_
        refine r_iremN hC dX6_line_62 (by omega) (by omega) ?_
        refine r_istore_n hC dX6_line_63 rfl ?_
        show K _ [_, _, _, _, _] _ _
        refine r_iincE hC ((w3 + 1)) dX6_line_64 rfl rfl (by omega) (by unfold inR; omega) ?_
        refine r_goto (tgt := 6) hC dX6_line_67 rfl ?_
        refine r_forget hC (ls2 := [some (vR 30 0), some (vI ((((σ 37 0 w3) % 997) * w1) % 997)), some (vI (((((σ 37 0 w3) % 997) * w2) + ((wr ((wr (7 * (σ 37 0 w3))) + 1)) % 997)) % 997)), some (vI (w3 + 1)), none]) (lsub_some (lsub_some (lsub_some (lsub_some (lsub_none lsub_nil))))) ?_
        exact ih6 (((((σ 37 0 w3) % 997) * w1) % 997)) ((((((σ 37 0 w3) % 997) * w2) + ((wr ((wr (7 * (σ 37 0 w3))) + 1)) % 997)) % 997)) ((w3 + 1))  (by omega) (by omega) (by omega) (by first | rfl | (rw [lin_stepI (by omega)]; dsimp only; rw [← i0_6])) (by first | rfl | (rw [lin_stepW (v := σ 37 0) (by omega) (hb _ (by omega) (by omega)), ← i1_6])) (by omega) (by omega)  
  exact L6 244 (1) (0) (0)  (by omega) (by omega) (by omega) (by first | rfl | (rw [lin_stepI (by omega)]; dsimp only; rw [← i0_6])) (by first | rfl | (rw [lin_stepW (v := σ 37 0) (by omega) (hb _ (by omega) (by omega)), ← i1_6])) (by omega) (by omega)  
theorem y_product {eb : Bool} {d : Nat} {P : Option Vl → Mm → Prop} {σ : Mm} {x y : Int} (b_x : 0 ≤ x ∧ x ≤ 3) (b_y : 0 ≤ y ∧ y ≤ 3)  (k : 0 ≤ σ 35 0 (4 * x + y) ∧ σ 35 0 (4 * x + y) ≤ 3 → P (some (vI (σ 35 0 (4 * x + y)))) σ) : WT (true, eb, true) (d + 1) 145 [vR 30 0, vI x, vI y] σ P := by
  refine WT_in fun K hK => ?_
  have hK : StpY (true, eb, true) cX6_product RX6 (some .int) (WT (true, eb, true) (d + 0)) P K := hK
  have hM := hK.1
  have hC := hK.1.1
  show K 0 [some (vR 30 0), some (vI x), some (vI y)] [] σ
  refine r_aload_n hC dX6_product_0 rfl ?_
  refine z_getR hM dX6_product_1 fl_RX6_22 rfl rfl (vld_of (n := 1) rfl (by omega) (by omega)) ?_
  refine r_iconst hC dX6_product_4 rfl ?_
  refine r_iload_n hC dX6_product_5 rfl ?_
  refine r_imulE hC ((4 * x)) dX6_product_6 (by omega) (by unfold inR; omega) ?_
  refine r_iload_n hC dX6_product_7 rfl ?_
  refine r_iaddE hC (((4 * x) + y)) dX6_product_8 (by omega) (by unfold inR; omega) ?_
  refine z_iald hM dX6_product_9 rfl (by omega) (by omega) (fun v1 h_v1 o_v1 t_v1 => ?_)
  have w_v1 := t_v1 (Or.inl trivial)
  subst w_v1
  have q_v1 : 0 ≤ (σ 35 0 ((4 * x) + y)) ∧ (σ 35 0 ((4 * x) + y)) ≤ 3 := o_v1
  refine y_iret hK rfl dX6_product_10 ?_
  exact k (by omega)
theorem y_multiply {eb : Bool} {n : Nat} {d : Nat} {P : Option Vl → Mm → Prop} {σ : Mm} {t0 : Int} (qg0 : σ 30 0 8 = (n : Int)) (qg1 : σ 38 0 0 = t0) (hn1 : 1 ≤ n) (hn : n ≤ 242)  (k : ∀ ρ : Mm, Gx (fun c x y => c = 38 ∧ x = 0) σ ρ → ρ 38 0 0 = (tbl (σ 35 0) (σ 37 0) n) → P none ρ) : WT (true, eb, true) (d + 2) 172 [vR 30 0] σ P := by
  refine WT_in fun K hK => ?_
  have hK : StpY (true, eb, true) cX6_multiply RX6 (none) (WT (true, eb, true) (d + 1)) P K := hK
  have hM := hK.1
  have hC := hK.1.1
  show K 0 [some (vR 30 0), none, none] [] σ
  refine r_aload_n hC dX6_multiply_0 rfl ?_
  refine z_getR hM dX6_multiply_1 fl_RX6_28 rfl rfl (vld_of (n := 1) rfl (by omega) (by omega)) ?_
  refine r_iconst hC dX6_multiply_4 rfl ?_
  refine z_iald hM dX6_multiply_5 rfl (by omega) (by omega) (fun v1 h_v1 o_v1 t_v1 => ?_)
  have w_v1 := t_v1 (Or.inr (Or.inr (Or.inr ⟨rfl, by first | exact True.intro | exact (rfl : true = true)⟩)))
  subst w_v1
  refine r_iconst hC dX6_multiply_6 rfl ?_
  refine z_ins2 hM dX6_multiply_7 tl_RX6_164 rfl (Nat.le_of_ble_eq_true rfl) (Nat.le_of_ble_eq_true rfl) ?_
  refine y_rest (by omega) (fun h2 => ?_)
  refine r_istore_n hC dX6_multiply_10 rfl ?_
  refine r_iconst hC dX6_multiply_11 rfl ?_
  refine r_istore_n hC dX6_multiply_12 rfl ?_
  have L13 : ∀ (n13 : Nat) (w3 w4 : Int), 0 ≤ w3 ∧ w3 ≤ 3 → 1 ≤ w4 ∧ w4 ≤ 242 → ((w3) = tbl (σ 35 0) (σ 37 0) ((w4)).toNat) → ((w4) ≤ (n : Int)) → 242 - w4 < (n13 : Int) → K 13 [some (vR 30 0), some (vI w3), some (vI w4)] [] σ := by
    intro n13
    induction n13 with
    | zero => intro w3 w4  f_w3 f_w4 i0_13 i1_13 hm  ; omega
    | succ n13 ih13 =>
      intro w3 w4  f_w3 f_w4 i0_13 i1_13 hm13  
      refine r_iload_n hC dX6_multiply_13 rfl ?_
      refine r_aload_n hC dX6_multiply_14 rfl ?_
      refine z_getI (jz := 8) hM dX6_multiply_15 fl_RX6_105 rfl rfl rfl (fun v5 h_v5 o_v5 t_v5 => ?_)
      have e_v5 : (n : Int) = v5 := ((t_v5 ((by simp [Tk, Tb, DL, DR]))).trans qg0).symm
      subst e_v5
      refine r_icmp_ge (tgt := 43) hC dX6_multiply_18 rfl (fun h6 => ?_) (fun h6 => ?_)
      · refine r_aload_n hC dX6_multiply_43 rfl ?_
        refine z_getR hM dX6_multiply_44 fl_RX6_31 rfl rfl (vld_of (n := 1) rfl (by omega) (by omega)) ?_
        refine r_iconst hC dX6_multiply_47 rfl ?_
        refine r_iload_n hC dX6_multiply_48 rfl ?_
        refine z_iastG hM dX6_multiply_49 rfl (by omega) (by omega) (by simp [Tl, DL, DF]) (by first | trivial | (simp only [Okv]; omega) | (simp [Okv]; try omega)) (fun ρ7 a_ρ7 q_ρ7 => ?_)
        refine y_vret hK rfl dX6_multiply_50 ?_
        have hs0 : w3 = tbl (σ 35 0) (σ 37 0) n := at_nat (n := n) (f := fun m => tbl (σ 35 0) (σ 37 0) m) i0_13 (by omega)
        exact k _ ((Gx.rf).al a_ρ7 (by first | (simp; done) | omega | (simp; omega))) (by have hq := q_ρ7; exact hq.trans hs0)
      · refine r_aload_n hC dX6_multiply_21 rfl ?_
        refine r_iload_n hC dX6_multiply_22 rfl ?_
        refine r_aload_n hC dX6_multiply_23 rfl ?_
        refine z_getR hM dX6_multiply_24 fl_RX6_28 rfl rfl (vld_of (n := 1) rfl (by omega) (by omega)) ?_
        refine r_iload_n hC dX6_multiply_27 rfl ?_
        refine z_iald hM dX6_multiply_28 rfl (by omega) (by omega) (fun v8 h_v8 o_v8 t_v8 => ?_)
        have w_v8 := t_v8 (Or.inr (Or.inr (Or.inr ⟨rfl, by first | exact True.intro | exact (rfl : true = true)⟩)))
        subst w_v8
        refine r_iconst hC dX6_multiply_29 rfl ?_
        refine z_ins2 hM dX6_multiply_30 tl_RX6_164 rfl (Nat.le_of_ble_eq_true rfl) (Nat.le_of_ble_eq_true rfl) ?_
        refine y_rest (by omega) (fun h9 => ?_)
        refine z_inv2 hM dX6_multiply_33 vl_RX6_88 rfl rfl rfl (Nat.le_of_ble_eq_true rfl) (Nat.le_of_ble_eq_true rfl) ?_
        refine y_product (by omega) (by omega) (fun h10 => ?_)
        refine r_istore_n hC dX6_multiply_36 rfl ?_
        refine r_iincE hC ((w4 + 1)) dX6_multiply_37 rfl rfl (by omega) (by unfold inR; omega) ?_
        refine r_goto (tgt := 13) hC dX6_multiply_40 rfl ?_
        exact ih13 ((σ 35 0 (4 * w3 + ((σ 37 0 w4) % 4)))) ((w4 + 1))  (by omega) (by omega) (by first | rfl | (rw [tbl_stepI (by omega), ← i0_13])) (by omega) (by omega)  
  exact L13 244 (((σ 37 0 0) % 4)) (1)  (by omega) (by omega) (by first | rfl | (rw [tbl_stepI (by omega), ← i0_13])) (by omega) (by omega)  
