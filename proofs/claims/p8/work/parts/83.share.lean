-- share
theorem gcd_zz {x y : Int} (h0 : 0 ≤ x) (hy : y = 0) : ((Int.gcd x y : Nat) : Int) = x := by
  subst hy
  obtain ⟨a, rfl⟩ := Int.eq_ofNat_of_zero_le h0
  simp
theorem gcd_sg {x y z : Int} (h : y = z ∨ y = -z) : Int.gcd x y = Int.gcd x z := by
  rcases h with rfl | rfl
  · rfl
  · exact Int.gcd_neg
theorem y_share {eb : Bool} {n : Nat} {d : Nat} {P : Option Vl → Mm → Prop} {σ : Mm} {t0 t1 : Int} (qg0 : σ 30 0 8 = (n : Int)) (qg1 : σ 38 0 0 = t0) (qg2 : σ 38 0 1 = t1) (hn1 : 1 ≤ n) (hn : n ≤ 242) (hb : Bd (σ 37 0) n)  (k : ∀ ρ : Mm, Gx (fun c x y => c = 38 ∧ x = 0) σ ρ → ρ 38 0 0 = ((shr (σ 37 0) n).1) → ρ 38 0 1 = ((shr (σ 37 0) n).2) → P none ρ) : WT (true, eb, true) (d + 1) 161 [vR 30 0] σ P := by
  refine WT_in fun K hK => ?_
  have hK : StpY (true, eb, true) cX6_share RX6 (none) (WT (true, eb, true) (d + 0)) P K := hK
  have hM := hK.1
  have hC := hK.1.1
  show K 0 [some (vR 30 0), none, none, none, none, none] [] σ
  refine r_iconst hC dX6_share_0 rfl ?_
  refine r_istore_n hC dX6_share_1 rfl ?_
  refine r_iconst hC dX6_share_2 rfl ?_
  refine r_istore_n hC dX6_share_3 rfl ?_
  refine r_iconst hC dX6_share_4 rfl ?_
  refine r_istore_n hC dX6_share_5 rfl ?_
  have L6 : ∀ (n6 : Nat) (w1 w2 w3 : Int), 0 ≤ w1 ∧ w1 ≤ 1000 → 0 ≤ w2 ∧ w2 ≤ 242 → 0 ≤ w3 ∧ w3 ≤ 242 → ((w1) = (shr (σ 37 0) ((w3)).toNat).1) → ((w2) = (shr (σ 37 0) ((w3)).toNat).2) → ((w2) ≤ (w3)) → ((w3) ≤ (n : Int)) → 242 - w3 < (n6 : Int) → K 6 [some (vR 30 0), some (vI w1), some (vI w2), some (vI w3), none, none] [] σ := by
    intro n6
    induction n6 with
    | zero => intro w1 w2 w3  f_w1 f_w2 f_w3 i0_6 i1_6 i2_6 i3_6 hm  ; omega
    | succ n6 ih6 =>
      intro w1 w2 w3  f_w1 f_w2 f_w3 i0_6 i1_6 i2_6 i3_6 hm6  
      refine r_iload_n hC dX6_share_6 rfl ?_
      refine r_aload_n hC dX6_share_7 rfl ?_
      refine z_getI (jz := 8) hM dX6_share_8 fl_RX6_105 rfl rfl rfl (fun v4 h_v4 o_v4 t_v4 => ?_)
      have e_v4 : (n : Int) = v4 := ((t_v4 ((by simp [Tk, Tb, DL, DR]))).trans qg0).symm
      subst e_v4
      refine r_icmp_ge (tgt := 81) hC dX6_share_11 rfl (fun h5 => ?_) (fun h5 => ?_)
      · refine r_aload_n hC dX6_share_81 rfl ?_
        refine z_getR hM dX6_share_82 fl_RX6_31 rfl rfl (vld_of (n := 1) rfl (by omega) (by omega)) ?_
        refine r_iconst hC dX6_share_85 rfl ?_
        refine r_iload_n hC dX6_share_86 rfl ?_
        refine z_iastG hM dX6_share_87 rfl (by omega) (by omega) (by simp [Tl, DL, DF]) (by first | trivial | (simp only [Okv]; omega) | (simp [Okv]; try omega)) (fun ρ6 a_ρ6 q_ρ6 => ?_)
        refine r_aload_n hC dX6_share_88 rfl ?_
        refine z_getR hM dX6_share_89 fl_RX6_31 rfl rfl (vld_of (n := 1) rfl (by omega) (by omega)) ?_
        refine r_iconst hC dX6_share_92 rfl ?_
        refine r_iload_n hC dX6_share_93 rfl ?_
        refine z_iastG hM dX6_share_94 rfl (by omega) (by omega) (by simp [Tl, DL, DF]) (by first | trivial | (simp only [Okv]; omega) | (simp [Okv]; try omega)) (fun ρ7 a_ρ7 q_ρ7 => ?_)
        refine y_vret hK rfl dX6_share_95 ?_
        have hs0 : w1 = (shr (σ 37 0) n).1 := at_nat (n := n) (f := fun m => (shr (σ 37 0) m).1) i0_6 (by omega)
        have hs1 : w2 = (shr (σ 37 0) n).2 := at_nat (n := n) (f := fun m => (shr (σ 37 0) m).2) i1_6 (by omega)
        exact k _ (((Gx.rf).al a_ρ6 (by first | (simp; done) | omega | (simp; omega))).al a_ρ7 (by first | (simp; done) | omega | (simp; omega))) (by have hq := ((a_ρ7 _ _ _ (by omega)).trans q_ρ6); exact hq.trans hs0) (by have hq := q_ρ7; exact hq.trans hs1)
      · refine r_aload_n hC dX6_share_14 rfl ?_
        refine z_getR hM dX6_share_15 fl_RX6_28 rfl rfl (vld_of (n := 1) rfl (by omega) (by omega)) ?_
        refine r_iload_n hC dX6_share_18 rfl ?_
        refine z_iald hM dX6_share_19 rfl (by omega) (by omega) (fun v8 h_v8 o_v8 t_v8 => ?_)
        have w_v8 := t_v8 (Or.inr (Or.inr (Or.inr ⟨rfl, by first | exact True.intro | exact (rfl : true = true)⟩)))
        subst w_v8
        have b_v8 := hb w3 (by omega) (by omega)
        refine r_if_ge (tgt := 33) hC dX6_share_20 rfl (fun h9 => ?_) (fun h9 => ?_)
        · refine r_aload_n hC dX6_share_33 rfl ?_
          refine z_getR hM dX6_share_34 fl_RX6_28 rfl rfl (vld_of (n := 1) rfl (by omega) (by omega)) ?_
          refine r_iload_n hC dX6_share_37 rfl ?_
          refine z_iald hM dX6_share_38 rfl (by omega) (by omega) (fun v10 h_v10 o_v10 t_v10 => ?_)
          have w_v10 := t_v10 (Or.inr (Or.inr (Or.inr ⟨rfl, by first | exact True.intro | exact (rfl : true = true)⟩)))
          subst w_v10
          have b_v10 := hb w3 (by omega) (by omega)
          refine r_istore hC dX6_share_39 rfl ?_
          refine r_iload_n hC dX6_share_41 rfl ?_
          refine r_iload hC dX6_share_42 rfl ?_
          refine r_if_ne (tgt := 51) hC dX6_share_44 rfl (fun h11 => ?_) (fun h11 => ?_)
          · refine r_iconst hC dX6_share_51 rfl ?_
            refine r_iaddE hC ((w2 + 1)) dX6_share_52 (by omega) (by unfold inR; omega) ?_
            refine r_istore_n hC dX6_share_53 rfl ?_
            have L54 : ∀ (n54 : Nat) (w12 w13 : Int), 0 ≤ w12 ∧ w12 ≤ 1000 → 0 ≤ w13 ∧ w13 ≤ 1000 → (((Int.gcd (w12) (w13) : Nat) : Int) = (shr (σ 37 0) ((w3) + 1).toNat).1) → (((w2 + 1)) = (shr (σ 37 0) ((w3) + 1).toNat).2) → (((w2 + 1)) ≤ (w3) + 1) → ((w3) < (n : Int)) → w13 < (n54 : Int) → K 54 [some (vR 30 0), some (vI w12), some (vI (w2 + 1)), some (vI w3), some (vI w13), none] [] σ := by
              intro n54
              induction n54 with
              | zero => intro w12 w13  f_w12 f_w13 i0_54 i1_54 i2_54 i3_54 hm  ; omega
              | succ n54 ih54 =>
                intro w12 w13  f_w12 f_w13 i0_54 i1_54 i2_54 i3_54 hm54  
                refine r_iload hC dX6_share_54 rfl ?_
                refine r_if_le (tgt := 75) hC dX6_share_56 rfl (fun h14 => ?_) (fun h14 => ?_)
                · refine r_iincE hC ((w3 + 1)) dX6_share_75 rfl rfl (by omega) (by unfold inR; omega) ?_
                  refine r_goto (tgt := 6) hC dX6_share_78 rfl ?_
                  refine r_forget hC (ls2 := [some (vR 30 0), some (vI w12), some (vI (w2 + 1)), some (vI (w3 + 1)), none, none]) (lsub_some (lsub_some (lsub_some (lsub_some (lsub_none (lsub_none lsub_nil)))))) ?_
                  exact ih6 (w12) ((w2 + 1)) ((w3 + 1))  (by omega) (by omega) (by omega) (by first | rfl | exact (gcd_zz (by omega) (by omega)).symm.trans i0_54 | (rw [shr_stepI (by omega), ← i0_6]; exact (gcd_zz (by omega) (by omega)).symm)) (by first | rfl | exact i1_54 | (rw [shr_stepI (by omega)]; dsimp only; rw [← i1_6]; first | done | (split <;> omega))) (by omega) (by omega) (by omega)  
                · refine r_iload_n hC dX6_share_59 rfl ?_
                  refine r_iload hC dX6_share_60 rfl ?_
                  refine r_iremN hC dX6_share_62 (by omega) (by omega) ?_
                  have f_v15 := emod_fr (a := w12) (b := w13) (by omega)
                  refine r_istore hC dX6_share_63 rfl ?_
                  refine r_iload hC dX6_share_65 rfl ?_
                  refine r_istore_n hC dX6_share_67 rfl ?_
                  refine r_iload hC dX6_share_68 rfl ?_
                  refine r_istore hC dX6_share_70 rfl ?_
                  show K _ [_, _, _, _, _, _] _ _
                  refine r_goto (tgt := 54) hC dX6_share_72 rfl ?_
                  refine r_forget hC (ls2 := [some (vR 30 0), some (vI w13), some (vI (w2 + 1)), some (vI w3), some (vI (w12 % w13)), none]) (lsub_some (lsub_some (lsub_some (lsub_some (lsub_some (lsub_none lsub_nil)))))) ?_
                  exact ih54 (w13) ((w12 % w13))  (by omega) (by omega) (by first | (rw [gcd_st (by omega) (by omega)]; exact i0_54) | (rw [shr_stepI (by omega), ← i0_6]; first | done | exact congrArg Int.ofNat (gcd_sg (by omega)))) (by first | exact i1_54 | (rw [shr_stepI (by omega)]; dsimp only; rw [← i1_6]; first | done | (split <;> omega))) (by omega) (by omega) (by omega)  
            exact L54 1002 (w1) ((σ 37 0 w3))  (by omega) (by omega) (by first | (rw [gcd_st (by omega) (by omega)]; exact i0_54) | (rw [shr_stepI (by omega), ← i0_6]; first | done | exact congrArg Int.ofNat (gcd_sg (by omega)))) (by first | exact i1_54 | (rw [shr_stepI (by omega)]; dsimp only; rw [← i1_6]; first | done | (split <;> omega))) (by omega) (by omega) (by omega)  
          · refine r_iconst hC dX6_share_47 rfl ?_
            refine r_goto (tgt := 52) hC dX6_share_48 rfl ?_
            refine r_iaddE hC (w2) dX6_share_52 (by omega) (by unfold inR; omega) ?_
            refine r_istore_n hC dX6_share_53 rfl ?_
            refine r_iload hC dX6_share_54 rfl ?_
            refine r_if_le (tgt := 75) hC dX6_share_56 rfl (fun h16 => ?_) (fun h16 => by omega)
            refine r_iincE hC ((w3 + 1)) dX6_share_75 rfl rfl (by omega) (by unfold inR; omega) ?_
            refine r_goto (tgt := 6) hC dX6_share_78 rfl ?_
            refine r_forget hC (ls2 := [some (vR 30 0), some (vI w1), some (vI w2), some (vI (w3 + 1)), none, none]) (lsub_some (lsub_some (lsub_some (lsub_some (lsub_none (lsub_none lsub_nil)))))) ?_
            exact ih6 (w1) (w2) ((w3 + 1))  (by omega) (by omega) (by omega) (by first | rfl | exact (gcd_zz (by omega) (by omega)).symm.trans i0_54 | (rw [shr_stepI (by omega), ← i0_6]; exact (gcd_zz (by omega) (by omega)).symm)) (by first | rfl | exact i1_54 | (rw [shr_stepI (by omega)]; dsimp only; rw [← i1_6]; first | done | (split <;> omega))) (by omega) (by omega) (by omega)  
        · refine r_aload_n hC dX6_share_23 rfl ?_
          refine z_getR hM dX6_share_24 fl_RX6_28 rfl rfl (vld_of (n := 1) rfl (by omega) (by omega)) ?_
          refine r_iload_n hC dX6_share_27 rfl ?_
          refine z_iald hM dX6_share_28 rfl (by omega) (by omega) (fun v17 h_v17 o_v17 t_v17 => ?_)
          have w_v17 := t_v17 (Or.inr (Or.inr (Or.inr ⟨rfl, by first | exact True.intro | exact (rfl : true = true)⟩)))
          subst w_v17
          have b_v17 := hb w3 (by omega) (by omega)
          refine r_inegS hC dX6_share_29 (by unfold inR; omega) ?_
          refine r_goto (tgt := 39) hC dX6_share_30 rfl ?_
          refine r_istore hC dX6_share_39 rfl ?_
          refine r_iload_n hC dX6_share_41 rfl ?_
          refine r_iload hC dX6_share_42 rfl ?_
          refine r_if_ne (tgt := 51) hC dX6_share_44 rfl (fun h18 => ?_) (fun h18 => ?_)
          · refine r_iconst hC dX6_share_51 rfl ?_
            refine r_iaddE hC ((w2 + 1)) dX6_share_52 (by omega) (by unfold inR; omega) ?_
            refine r_istore_n hC dX6_share_53 rfl ?_
            have L54 : ∀ (n54 : Nat) (w19 w20 : Int), 0 ≤ w19 ∧ w19 ≤ 1000 → 0 ≤ w20 ∧ w20 ≤ 1000 → (((Int.gcd (w19) (w20) : Nat) : Int) = (shr (σ 37 0) ((w3) + 1).toNat).1) → (((w2 + 1)) = (shr (σ 37 0) ((w3) + 1).toNat).2) → (((w2 + 1)) ≤ (w3) + 1) → ((w3) < (n : Int)) → w20 < (n54 : Int) → K 54 [some (vR 30 0), some (vI w19), some (vI (w2 + 1)), some (vI w3), some (vI w20), none] [] σ := by
              intro n54
              induction n54 with
              | zero => intro w19 w20  f_w19 f_w20 i0_54 i1_54 i2_54 i3_54 hm  ; omega
              | succ n54 ih54 =>
                intro w19 w20  f_w19 f_w20 i0_54 i1_54 i2_54 i3_54 hm54  
                refine r_iload hC dX6_share_54 rfl ?_
                refine r_if_le (tgt := 75) hC dX6_share_56 rfl (fun h21 => ?_) (fun h21 => ?_)
                · refine r_iincE hC ((w3 + 1)) dX6_share_75 rfl rfl (by omega) (by unfold inR; omega) ?_
                  refine r_goto (tgt := 6) hC dX6_share_78 rfl ?_
                  refine r_forget hC (ls2 := [some (vR 30 0), some (vI w19), some (vI (w2 + 1)), some (vI (w3 + 1)), none, none]) (lsub_some (lsub_some (lsub_some (lsub_some (lsub_none (lsub_none lsub_nil)))))) ?_
                  exact ih6 (w19) ((w2 + 1)) ((w3 + 1))  (by omega) (by omega) (by omega) (by first | rfl | exact (gcd_zz (by omega) (by omega)).symm.trans i0_54 | (rw [shr_stepI (by omega), ← i0_6]; exact (gcd_zz (by omega) (by omega)).symm)) (by first | rfl | exact i1_54 | (rw [shr_stepI (by omega)]; dsimp only; rw [← i1_6]; first | done | (split <;> omega))) (by omega) (by omega) (by omega)  
                · refine r_iload_n hC dX6_share_59 rfl ?_
                  refine r_iload hC dX6_share_60 rfl ?_
                  refine r_iremN hC dX6_share_62 (by omega) (by omega) ?_
                  have f_v22 := emod_fr (a := w19) (b := w20) (by omega)
                  refine r_istore hC dX6_share_63 rfl ?_
                  refine r_iload hC dX6_share_65 rfl ?_
                  refine r_istore_n hC dX6_share_67 rfl ?_
                  refine r_iload hC dX6_share_68 rfl ?_
                  refine r_istore hC dX6_share_70 rfl ?_
                  show K _ [_, _, _, _, _, _] _ _
                  refine r_goto (tgt := 54) hC dX6_share_72 rfl ?_
                  refine r_forget hC (ls2 := [some (vR 30 0), some (vI w20), some (vI (w2 + 1)), some (vI w3), some (vI (w19 % w20)), none]) (lsub_some (lsub_some (lsub_some (lsub_some (lsub_some (lsub_none lsub_nil)))))) ?_
                  exact ih54 (w20) ((w19 % w20))  (by omega) (by omega) (by first | (rw [gcd_st (by omega) (by omega)]; exact i0_54) | (rw [shr_stepI (by omega), ← i0_6]; first | done | exact congrArg Int.ofNat (gcd_sg (by omega)))) (by first | exact i1_54 | (rw [shr_stepI (by omega)]; dsimp only; rw [← i1_6]; first | done | (split <;> omega))) (by omega) (by omega) (by omega)  
            exact L54 1002 (w1) ((-(σ 37 0 w3)))  (by omega) (by omega) (by first | (rw [gcd_st (by omega) (by omega)]; exact i0_54) | (rw [shr_stepI (by omega), ← i0_6]; first | done | exact congrArg Int.ofNat (gcd_sg (by omega)))) (by first | exact i1_54 | (rw [shr_stepI (by omega)]; dsimp only; rw [← i1_6]; first | done | (split <;> omega))) (by omega) (by omega) (by omega)  
          · refine r_iconst hC dX6_share_47 rfl ?_
            refine r_goto (tgt := 52) hC dX6_share_48 rfl ?_
            refine r_iaddE hC (w2) dX6_share_52 (by omega) (by unfold inR; omega) ?_
            refine r_istore_n hC dX6_share_53 rfl ?_
            refine r_iload hC dX6_share_54 rfl ?_
            refine r_if_le (tgt := 75) hC dX6_share_56 rfl (fun h23 => ?_) (fun h23 => by omega)
            refine r_iincE hC ((w3 + 1)) dX6_share_75 rfl rfl (by omega) (by unfold inR; omega) ?_
            refine r_goto (tgt := 6) hC dX6_share_78 rfl ?_
            refine r_forget hC (ls2 := [some (vR 30 0), some (vI w1), some (vI w2), some (vI (w3 + 1)), none, none]) (lsub_some (lsub_some (lsub_some (lsub_some (lsub_none (lsub_none lsub_nil)))))) ?_
            exact ih6 (w1) (w2) ((w3 + 1))  (by omega) (by omega) (by omega) (by first | rfl | exact (gcd_zz (by omega) (by omega)).symm.trans i0_54 | (rw [shr_stepI (by omega), ← i0_6]; exact (gcd_zz (by omega) (by omega)).symm)) (by first | rfl | exact i1_54 | (rw [shr_stepI (by omega)]; dsimp only; rw [← i1_6]; first | done | (split <;> omega))) (by omega) (by omega) (by omega)  
  exact L6 244 (0) (0) (0)  (by omega) (by omega) (by omega) (by first | rfl | exact (gcd_zz (by omega) (by omega)).symm.trans i0_54 | (rw [shr_stepI (by omega), ← i0_6]; exact (gcd_zz (by omega) (by omega)).symm)) (by first | rfl | exact i1_54 | (rw [shr_stepI (by omega)]; dsimp only; rw [← i1_6]; first | done | (split <;> omega))) (by omega) (by omega) (by omega)  
