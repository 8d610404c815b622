-- share
theorem gcd_zz {x y : Int} (h0 : 0 ≤ x) (hy : y = 0) : ((Int.gcd x y : Nat) : Int) = x := by
  subst hy
  obtain ⟨a, rfl⟩ := Int.eq_ofNat_of_zero_le h0
  simp
theorem gcd_sg {x y z : Int} (h : y = z ∨ y = -z) : Int.gcd x y = Int.gcd x z := by
  rcases h with rfl | rfl
  · rfl
  · exact Int.gcd_neg
theorem y_share {eb : Bool} {n : Nat} {d : Nat} {P : Option Vl → Mm → Prop} {σ : Mm} {t0 t1 : Int} (qg0 : σ 30 0 8 = (n : Int)) (qg1 : σ 38 0 0 = t0) (qg2 : σ 38 0 1 = t1) (hn1 : 1 ≤ n) (hn : n ≤ 242) (hb : Bd (σ 37 0) n)  (k : ∀ ρ : Mm, Gx (fun c x y => c = 38 ∧ x = 0) σ ρ → ρ 38 0 0 = ((shr (σ 37 0) n).1) → ρ 38 0 1 = ((shr (σ 37 0) n).2) → P none ρ) : WT (true, eb, true) (d + 1) 161 [vR 30 0] σ P := by
  refine WT_in fun K hK => ?_
  have hK : StpY (true, eb, true) cX6_share RX6 (none) (WT (true, eb, true) (d + 0)) P K := hK
  have hM := hK.1
  have hC := hK.1.1
  show K 0 [some (vR 30 0), none, none, none, none, none] [] σ
  refine r_iconst hC dX6_share_0 rfl ?_
  refine r_istore_n hC dX6_share_1 rfl ?_
  refine r_iconst hC dX6_share_2 rfl ?_
  refine r_istore_n hC dX6_share_3 rfl ?_
  refine r_iconst hC dX6_share_4 rfl ?_
  refine r_istore_n hC dX6_share_5 rfl ?_
  have L6 : ∀ (n6 : Nat) (w1 w2 w3 : Int), 0 ≤ w1 ∧ w1 ≤ 1000 → 0 ≤ w2 ∧ w2 ≤ 242 → 0 ≤ w3 ∧ w3 ≤ 242 → ((w1) = (shr (σ 37 0) ((w3)).toNat).1) → ((w2) = (shr (σ 37 0) ((w3)).toNat).2) → ((w2) ≤ (w3)) → ((w3) ≤ (n : Int)) → 242 - w3 < (n6 : Int) → K 6 [some (vR 30 0), some (vI w1), some (vI w2), some (vI w3), none, none] [] σ := by
    intro n6
    induction n6 with
    | zero => intro w1 w2 w3  f_w1 f_w2 f_w3 i0_6 i1_6 i2_6 i3_6 hm  ; omega
    | succ n6 ih6 =>
      intro w1 w2 w3  f_w1 f_w2 f_w3 i0_6 i1_6 i2_6 i3_6 hm6  
      refine r_iload_n hC dX6_share_6 rfl ?_
      refine r_aload_n hC dX6_share_7 rfl ?_
      refine z_getI (jz := 8) hM dX6_share_8 fl_RX6_105 rfl rfl rfl (fun v4 h_v4 o_v4 t_v4 => ?_)
      have e_v4 : (n : Int) = v4 := ((t_v4 ((by simp [Tk, Tb, DL, DR]))).trans qg0).symm
      subst e_v4
      refine r_icmp_ge (tgt := 81) hC dX6_share_11 rfl (fun h5 => ?_) (fun h5 => ?_)
      · refine r_aload_n hC dX6_share_81 rfl ?_
        refine z_getR hM dX6_share_82 fl_RX6_31 rfl rfl (vld_of (n := 1) rfl (by omega) (by omega)) ?_
        refine r_iconst hC dX6_share_85 rfl ?_
        refine r_iload_n hC dX6_share_86 rfl ?_
        refine z_iastG hM dX6_share_87 rfl (by omega) (by omega) (by simp [Tl, DL, DF]) (by first | trivial | (simp only [Okv]; omega) | (simp [Okv]; try omega)) (fun ρ6 a_ρ6 q_ρ6 => ?_)
        refine r_aload_n hC dX6_share_88 rfl ?_
        refine z_getR hM dX6_share_89 fl_RX6_31 rfl rfl (vld_of (n := 1) rfl (by omega) (by omega)) ?_
        refine r_iconst hC dX6_share_92 rfl ?_
        refine r_iload_n hC dX6_share_93 rfl ?_
        refine z_iastG hM dX6_share_94 rfl (by omega) (by omega) (by simp [Tl, DL, DF]) (by first | trivial | (simp only [Okv]; omega) | (simp [Okv]; try omega)) (fun ρ7 a_ρ7 q_ρ7 => ?_)
        refine y_vret hK rfl dX6_share_95 ?_
        have hs0 : w1 = (shr (σ 37 0) n).1 := at_nat (n := n) (f := fun m => (shr (σ 37 0) m).1) i0_6 (by omega)
        have hs1 : w2 = (shr (σ 37 0) n).2 := at_nat (n := n) (f := fun m => (shr (σ 37 0) m).2) i1_6 (by omega)
        exact k _ (((Gx.rf).al a_ρ6 (by first | (simp; done) | omega | (simp; omega))).al a_ρ7 (by first | (simp; done) | omega | (simp; omega))) (by have hq := ((a_ρ7 _ _ _ (by omega)).trans q_ρ6); exact hq.trans hs0) (by have hq := q_ρ7; exact hq.trans hs1)
      · refine r_aload_n hC dX6_share_14 rfl ?_
        refine z_getR hM dX6_share_15 fl_RX6_28 rfl rfl (vld_of (n := 1) rfl (by omega) (by omega)) ?_
        refine r_iload_n hC dX6_share_18 rfl ?_
        refine z_iald hM dX6_share_19 rfl (by omega) (by omega) (fun v8 h_v8 o_v8 t_v8 => ?_)
        have w_v8 := t_v8 (Or.inr (Or.inr (Or.inr ⟨rfl, by first | exact True.intro | exact (rfl : true = true)⟩)))
        subst w_v8
        have b_v8 := hb w3 (by omega) (by omega)
        refine r_if_ge (tgt := 33) hC dX6_share_20 rfl (fun h9 => ?_) (fun h9 => ?_)
        · refine r_aload_n hC dX6_share_33 rfl ?_
          refine z_getR hM dX6_share_34 fl_RX6_28 rfl rfl (vld_of (n := 1) rfl (by omega) (by omega)) ?_
          refine r_iload_n hC dX6_share_37 rfl ?_
          refine z_iald hM dX6_share_38 rfl (by omega) (by omega) (fun v10 h_v10 o_v10 t_v10 => ?_)
          have w_v10 := t_v10 (Or.inr (Or.inr (Or.inr ⟨rfl, by first | exact True.intro | exact (rfl : true = true)⟩)))
          subst w_v10
          have b_v10 := hb w3 (by omega) (by omega)
          refine r_istore hC dX6_share_39 rfl ?_
          refine r_iload_n hC dX6_share_41 rfl ?_
          refine r_iload hC dX6_share_42 rfl ?_
          refine r_if_ne (tgt := 51) hC dX6_share_44 rfl (fun h11 => ?_) (fun h11 => ?_)
          · refine r_iconst hC dX6_share_51 rfl ?_
            refine r_iaddE hC ((w2 + 1)) dX6_share_52 (by omega) (by unfold inR; omega) ?_
            refine r_istore_n hC dX6_share_53 rfl ?_
            have L54 : ∀ (n54 : Nat) (w12 w13 : Int), 0 ≤ w12 ∧ w12 ≤ 1000 → 0 ≤ w13 ∧ w13 ≤ 1000 → (((Int.gcd (w12) (w13) : Nat) : Int) = (shr (σ 37 0) ((w3) + 1).toNat).1) → (((w2 + 1)) = (shr (σ 37 0) ((w3) + 1).toNat).2) → (((w2 + 1)) ≤ (w3) + 1) → ((w3) < (n : Int)) → w13 < (n54 : Int) → K 54 [some (vR 30 0), some (vI w12), some (vI (w2 + 1)), some (vI w3), some (vI w13), none] [] σ := by
              intro n54
              induction n54 with
              | zero => intro w12 w13  f_w12 f_w13 i0_54 i1_54 i2_54 i3_54 hm  ; omega
              | succ n54 ih54 =>
                intro w12 w13  f_w12 f_w13 i0_54 i1_54 i2_54 i3_54 hm54  
                refine r_iload hC dX6_share_54 rfl ?_
                refine r_if_le (tgt := 75) hC dX6_share_56 rfl (fun h14 => ?_) (fun h14 => ?_)
                · refine r_iincE hC ((w3 + 1)) dX6_share_75 rfl rfl (by omega) (by unfold inR; omega) ?_
                  refine r_goto (tgt := 6) hC dX6_share_78 rfl ?_
                  refine r_forget hC (ls2 := [some (vR 30 0), some (vI w12), some (vI (w2 + 1)), some (vI (w3 + 1)), none, none]) (lsub_some (lsub_some (lsub_some (lsub_some (lsub_none (lsub_none lsub_nil)))))) ?_
                  exact ih6 (w12) ((w2 + 1)) ((w3 + 1))  (by omega) (by omega) (by omega) (by first | rfl | exact (gcd_zz (by omega) (by omega)).symm.trans i0_54 | (rw [shr_stepI (by omega), ← i0_6]; exact (gcd_zz (by omega) (by omega)).symm)) (by first | rfl | exact i1_54 | (rw [shr_stepI (by omega)]; dsimp only; rw [← i1_6]; first | done | (split <;> omega))) (by omega) (by omega) (by omega)  
                · refine r_iload_n hC dX6_share_59 rfl ?_
                  refine r_iload hC dX6_share_60 rfl ?_
                  refine r_iremN hC dX6_share_62 (by omega) (by omega) ?_
                  have f_v15 := emod_fr (a := w12) (b := w13) (by omega)
                  refine r_istore hC dX6_share_63 rfl ?_
                  refine r_iload hC dX6_share_65 rfl ?_
                  refine r_istore_n hC dX6_share_67 rfl ?_
                  refine r_iload hC dX6_share_68 rfl ?_
                  refine r_istore hC dX6_share_70 rfl ?_
                  show K _ [_, _, _, _, _, _] _ _
                  refine r_goto (tgt := 54) hC dX6_share_72 rfl ?_
                  refine r_forget hC (ls2 := [some (vR 30 0), some (vI w13), some (vI (w2 + 1)), some (vI w3), some (vI (w12 % w13)), none]) (lsub_some (lsub_some (lsub_some (lsub_some (lsub_some (lsub_none lsub_nil)))))) ?_
                  exact ih54 (w13) ((w12 % w13))  (by omega) (by omega) (by first | (rw [gcd_st (by omega) (by omega)]; exact i0_54) | (rw [shr_stepI (by omega), ← i0_6]; first | done | exact congrArg Int.ofNat (gcd_sg (by omega)))) (by first | exact i1_54 | (rw [shr_stepI (by omega)]; dsimp only; rw [← i1_6]; first | done | (split <;> omega))) (by omega) (by omega) (by omega)  
            exact L54 1002 (w1) ((σ 37 0 w3))  (by omega) (by omega) (by first | (rw [gcd_st (by omega) (by omega)]; exact i0_54) | (rw [shr_stepI (by omega), ← i0_6]; first | done | exact congrArg Int.ofNat (gcd_sg (by omega)))) (by first | exact i1_54 | (rw [shr_stepI (by omega)]; dsimp only; rw [← i1_6]; first | done | (split <;> omega))) (by omega) (by omega) (by omega)  
          · refine r_iconst hC dX6_share_47 rfl ?_
            refine r_goto (tgt := 52) hC dX6_share_48 rfl ?_
            refine r_iaddE hC (w2) dX6_share_52 (by omega) (by unfold inR; omega) ?_
            refine r_istore_n hC dX6_share_53 rfl ?_
            refine r_iload hC dX6_share_54 rfl ?_
            refine r_if_le (tgt := 75) hC dX6_share_56 rfl (fun h16 => ?_) (fun h16 => by omega)
            refine r_iincE hC ((w3 + 1)) dX6_share_75 rfl rfl (by omega) (by unfold inR; omega) ?_
            refine r_goto (tgt := 6) hC dX6_share_78 rfl ?_
            refine r_forget hC (ls2 := [some (vR 30 0), some (vI w1), some (vI w2), some (vI (w3 + 1)), none, none]) (lsub_some (lsub_some (lsub_some (lsub_some (lsub_none (lsub_none lsub_nil)))))) ?_
            exact ih6 (w1) (w2) ((w3 + 1))  (by omega) (by omega) (by omega) (by first | rfl | exact (gcd_zz (by omega) (by omega)).symm.trans i0_54 | (rw [shr_stepI (by omega), ← i0_6]; exact (gcd_zz (by omega) (by omega)).symm)) (by first | rfl | exact i1_54 | (rw [shr_stepI (by omega)]; dsimp only; rw [← i1_6]; first | done | (split <;> omega))) (by omega) (by omega) (by omega)  
        · refine r_aload_n hC dX6_share_23 rfl ?_
          refine z_getR hM dX6_share_24 fl_RX6_28 rfl rfl (vld_of (n := 1) rfl (by omega) (by omega)) ?_
          refine r_iload_n hC dX6_share_27 rfl ?_
          refine z_iald hM dX6_share_28 rfl (by omega) (by omega) (fun v17 h_v17 o_v17 t_v17 => ?_)
          have w_v17 := t_v17 (Or.inr (Or.inr (Or.inr ⟨rfl, by first | exact True.intro | exact (rfl : true = true)⟩)))
          subst w_v17
          have b_v17 := hb w3 (by omega) (by omega)
          refine r_inegS hC dX6_share_29 (by unfold inR; omega) ?_
          refine r_goto (tgt := 39) hC dX6_share_30 rfl ?_
          refine r_istore hC dX6_share_39 rfl ?_
          refine r_iload_n hC dX6_share_41 rfl ?_
          refine r_iload hC dX6_share_42 rfl ?_
          refine r_if_ne (tgt := 51) hC dX6_share_44 rfl (fun h18 => ?_) (fun h18 => ?_)
          · refine r_iconst hC dX6_share_51 rfl ?_
            refine r_iaddE hC ((w2 + 1)) dX6_share_52 (by omega) (by unfold inR; omega) ?_
            refine r_istore_n hC dX6_share_53 rfl ?_
            have L54 : ∀ (n54 : Nat) (w19 w20 : Int), 0 ≤ w19 ∧ w19 ≤ 1000 → 0 ≤ w20 ∧ w20 ≤ 1000 → (((Int.gcd (w19) (w20) : Nat) : Int) = (shr (σ 37 0) ((w3) + 1).toNat).1) → (((w2 + 1)) = (shr (σ 37 0) ((w3) + 1).toNat).2) → (((w2 + 1)) ≤ (w3) + 1) → ((w3) < (n : Int)) → w20 < (n54 : Int) → K 54 [some (vR 30 0), some (vI w19), some (vI (w2 + 1)), some (vI w3), some (vI w20), none] [] σ := by
              intro n54
              induction n54 with
              | zero => intro w19 w20  f_w19 f_w20 i0_54 i1_54 i2_54 i3_54 hm  ; omega
              | succ n54 ih54 =>
                intro w19 w20  f_w19 f_w20 i0_54 i1_54 i2_54 i3_54 hm54  
                refine r_iload hC dX6_share_54 rfl ?_
                refine r_if_le (tgt := 75) hC dX6_share_56 rfl (fun h21 => ?_) (fun h21 => ?_)
                · refine r_iincE hC ((w3 + 1)) dX6_share_75 rfl rfl (by omega) (by unfold inR; omega) ?_
                  refine r_goto (tgt := 6) hC dX6_share_78 rfl ?_
                  refine r_forget hC (ls2 := [some (vR 30 0), some (vI w19), some (vI (w2 + 1)), some (vI (w3 + 1)), none, none]) (lsub_some (lsub_some (lsub_some (lsub_some (lsub_none (lsub_none lsub_nil)))))) ?_
                  exact ih6 (w19) ((w2 + 1)) ((w3 + 1))  (by omega) (by omega) (by omega) (by first | rfl | exact (gcd_zz (by omega) (by omega)).symm.trans i0_54 | (rw [shr_stepI (by omega), ← i0_6]; exact (gcd_zz (by omega) (by omega)).symm)) (by first | rfl | exact i1_54 | (rw [shr_stepI (by omega)]; dsimp only; rw [← i1_6]; first | done | (split <;> omega))) (by omega) (by omega) (by omega)  
                · refine r_iload_n hC dX6_share_59 rfl ?_
                  refine r_iload hC dX6_share_60 rfl ?_
                  refine r_iremN hC dX6_share_62 (by omega) (by omega) ?_
                  have f_v22 := emod_fr (a := w19) (b := w20) (by omega)
                  refine r_istore hC dX6_share_63 rfl ?_
                  refine r_iload hC dX6_share_65 rfl ?_
                  refine r_istore_n hC dX6_share_67 rfl ?_
                  refine r_iload hC dX6_share_68 rfl ?_
                  refine r_istore hC dX6_share_70 rfl ?_
                  show K _ [_, _, _, _, _, _] _ _
                  refine r_goto (tgt := 54) hC dX6_share_72 rfl ?_
                  refine r_forget hC (ls2 := [some (vR 30 0), some (vI w20), some (vI (w2 + 1)), some (vI w3), some (vI (w19 % w20)), none]) (lsub_some (lsub_some (lsub_some (lsub_some (lsub_some (lsub_none lsub_nil)))))) ?_
                  exact ih54 (w20) ((w19 % w20))  (by omega) (by omega) (by first | (rw [gcd_st (by omega) (by omega)]; exact i0_54) | (rw [shr_stepI (by omega), ← i0_6]; first | done | exact congrArg Int.ofNat (gcd_sg (by omega)))) (by first | exact i1_54 | (rw [shr_stepI (by omega)]; dsimp only; rw [← i1_6]; first | done | (split <;> omega))) (by omega) (by omega) (by omega)  
            exact L54 1002 (w1) ((-(σ 37 0 w3)))  (by omega) (by omega) (by first | (rw [gcd_st (by omega) (by omega)]; exact i0_54) | (rw [shr_stepI (by omega), ← i0_6]; first | done | exact congrArg Int.ofNat (gcd_sg (by omega)))) (by first | exact i1_54 | (rw [shr_stepI (by omega)]; dsimp only; rw [← i1_6]; first | done | (split <;> omega))) (by omega) (by omega) (by omega)  
          · refine r_iconst hC dX6_share_47 rfl ?_
            refine r_goto (tgt := 52) hC dX6_share_48 rfl ?_
            refine r_iaddE hC (w2) dX6_share_52 (by omega) (by unfold inR; omega) ?_
            refine r_istore_n hC dX6_share_53 rfl ?_
            refine r_iload hC dX6_share_54 rfl ?_
            refine r_if_le (tgt := 75) hC dX6_share_56 rfl (fun h23 => ?_) (fun h23 => by omega)
            refine r_iincE hC ((w3 + 1)) dX6_share_75 rfl rfl (by omega) (by unfold inR; omega) ?_
            refine r_goto (tgt := 6) hC dX6_share_78 rfl ?_
            refine r_forget hC (ls2 := [some (vR 30 0), some (vI w1), some (vI w2), some (vI (w3 + 1)), none, none]) (lsub_some (lsub_some (lsub_some (lsub_some (lsub_none (lsub_none lsub_nil)))))) ?_
            exact ih6 (w1) (w2) ((w3 + 1))  (by omega) (by omega) (by omega) (by first | rfl | exact (gcd_zz (by omega) (by omega)).symm.trans i0_54 | (rw [shr_stepI (by omega), ← i0_6]; exact (gcd_zz (by omega) (by omega)).symm)) (by first | rfl | exact i1_54 | (rw [shr_stepI (by omega)]; dsimp only; rw [← i1_6]; first | done | (split <;> omega))) (by omega) (by omega) (by omega)  
  exact L6 244 (0) (0) (0)  (by omega) (by omega) (by omega) (by first | rfl | exact (gcd_zz (by omega) (by omega)).symm.trans i0_54 | (rw [shr_stepI (by omega), ← i0_6]; exact (gcd_zz (by omega) (by omega)).symm)) (by first | rfl | exact i1_54 | (rw [shr_stepI (by omega)]; dsimp only; rw [← i1_6]; first | done | (split <;> omega))) (by omega) (by omega) (by omega)  
-- B: the reference: run, send, like
def IsMx (P : Int → Prop) (b : Int) : Prop := (∀ x, P x → x ≤ b) ∧ (P b ∨ (b = -2147483648 ∧ ∀ x, ¬ P x))
theorem mx_0 {P : Int → Prop} (h : ∀ x, ¬ P x) : IsMx P (-2147483648) := ⟨fun x q => absurd q (h x), Or.inr ⟨rfl, h⟩⟩
theorem mx_y {P Q : Int → Prop} {a b : Int} (h : IsMx P b) (hq : ∀ x, Q x ↔ P x ∨ x = a) (hab : b < a) : IsMx Q a := ⟨fun x q => by
  rcases (hq x).mp q with p | p
  · have := h.1 x p; omega
  · omega, Or.inl ((hq a).mpr (Or.inr rfl))⟩
theorem mx_n {P Q : Int → Prop} {a b : Int} (h : IsMx P b) (hq : ∀ x, Q x ↔ P x ∨ x = a) (hab : a ≤ b) (hn : -2147483648 < a) : IsMx Q b := ⟨fun x q => by
  rcases (hq x).mp q with p | p
  · exact h.1 x p
  · omega, by
  rcases h.2 with p | p
  · exact Or.inl ((hq b).mpr (Or.inl p))
  · omega⟩
theorem mx_c {P Q : Int → Prop} {b : Int} (h : IsMx P b) (hq : ∀ x, Q x ↔ P x) : IsMx Q b := ⟨fun x q => h.1 x ((hq x).mp q), by
  rcases h.2 with p | p
  · exact Or.inl ((hq b).mpr p)
  · exact Or.inr ⟨p.1, fun x q => p.2 x ((hq x).mp q)⟩⟩
theorem mx_u {P : Int → Prop} {b c : Int} (h : IsMx P b) (h1 : ∀ x, P x → x ≤ c) (h2 : P c) : b = c := by
  have := h.1 c h2
  rcases h.2 with p | p
  · have := h1 b p; omega
  · exact absurd h2 (p.2 c)
def PF (v : Int → Int) (i : Nat) (x : Int) : Prop := ∃ m : Nat, 1 ≤ m ∧ m ≤ i ∧ x = sm v 0 m
def PL (v : Int → Int) (n i : Nat) (x : Int) : Prop := ∃ j : Nat, j < i ∧ x = sm v j (n - j)
def PB (v : Int → Int) (n i : Nat) (x : Int) : Prop := ∃ j m : Nat, j < i ∧ 1 ≤ m ∧ j + m ≤ n ∧ x = sm v j m
def PI (v : Int → Int) (n i t : Nat) (x : Int) : Prop := PB v n i x ∨ ∃ m : Nat, 1 ≤ m ∧ m ≤ t ∧ x = sm v i m
theorem PF_s {v : Int → Int} {i : Nat} (x : Int) : PF v (i + 1) x ↔ PF v i x ∨ x = sm v 0 (i + 1) := by
  constructor
  · rintro ⟨m, h1, h2, h3⟩
    by_cases hm : m = i + 1
    · subst hm; exact Or.inr h3
    · exact Or.inl ⟨m, h1, by omega, h3⟩
  · rintro (⟨m, h1, h2, h3⟩ | h)
    · exact ⟨m, h1, by omega, h3⟩
    · exact ⟨i + 1, by omega, by omega, h⟩
theorem PL_s {v : Int → Int} {n i : Nat} (x : Int) : PL v n (i + 1) x ↔ PL v n i x ∨ x = sm v i (n - i) := by
  constructor
  · rintro ⟨m, h1, h3⟩
    by_cases hm : m = i
    · subst hm; exact Or.inr h3
    · exact Or.inl ⟨m, by omega, h3⟩
  · rintro (⟨m, h1, h3⟩ | h)
    · exact ⟨m, by omega, h3⟩
    · exact ⟨i, by omega, h⟩
theorem PI_s {v : Int → Int} {n i t : Nat} (x : Int) : PI v n i (t + 1) x ↔ PI v n i t x ∨ x = sm v i (t + 1) := by
  constructor
  · rintro (h | ⟨m, h1, h2, h3⟩)
    · exact Or.inl (Or.inl h)
    · by_cases hm : m = t + 1
      · subst hm; exact Or.inr h3
      · exact Or.inl (Or.inr ⟨m, h1, by omega, h3⟩)
  · rintro ((h | ⟨m, h1, h2, h3⟩) | h)
    · exact Or.inl h
    · exact Or.inr ⟨m, h1, by omega, h3⟩
    · exact Or.inr ⟨t + 1, by omega, by omega, h⟩
theorem PI_0 {v : Int → Int} {n i : Nat} (x : Int) : PI v n i 0 x ↔ PB v n i x := by
  constructor
  · rintro (h | ⟨m, h1, h2, h3⟩)
    · exact h
    · omega
  · exact fun h => Or.inl h
theorem PI_n {v : Int → Int} {n i t : Nat} (ht : t = n - i) (hi : i < n) (x : Int) : PB v n (i + 1) x ↔ PI v n i t x := by
  subst ht
  constructor
  · rintro ⟨j, m, h1, h2, h3, h4⟩
    by_cases hj : j = i
    · subst hj; exact Or.inr ⟨m, h2, by omega, h4⟩
    · exact Or.inl ⟨j, m, by omega, h2, h3, h4⟩
  · rintro (⟨j, m, h1, h2, h3, h4⟩ | ⟨m, h1, h2, h3⟩)
    · exact ⟨j, m, by omega, h2, h3, h4⟩
    · exact ⟨i, m, by omega, h1, by omega, h3⟩
theorem sm_s {v : Int → Int} {i t a : Int} (h : 0 ≤ t) (ha : a = sm v i t.toNat + v (i + t)) : sm v i (t + 1).toNat = a := by
  rw [nat_succ h, ha]
  show sm v i t.toNat + v (i + (t.toNat : Int)) = _
  rw [Int.toNat_of_nonneg h]
theorem rnn_mx {v : Int → Int} {n : Nat} (hn : 1 ≤ n) {a b f l : Int} (ha : a = sm v 0 n) (hb : IsMx (PB v n n) b) (hf : IsMx (PF v n) f) (hl : IsMx (PL v n n) l) : b = (rnn v n).1 ∧ a = (rnn v n).2.1 ∧ f = (rnn v n).2.2.1 ∧ l = (rnn v n).2.2.2 := by
  obtain ⟨s1, ⟨s2, m2, u2, w2, e2⟩, ⟨s3, m3, u3, w3, e3⟩, s4, i4, m4, u4, w4, e4⟩ := rnn_spec v n hn
  refine ⟨mx_u hb ?_ ?_, by rw [ha, s1], mx_u hf ?_ ?_, mx_u hl ?_ ?_⟩
  · rintro x ⟨j, m, h1, h2, h3, rfl⟩; exact s4 j m h2 h3
  · exact ⟨i4, m4, by omega, u4, w4, e4.symm⟩
  · rintro x ⟨m, h1, h2, rfl⟩; exact s2 m h1 h2
  · exact ⟨m2, u2, w2, e2.symm⟩
  · rintro x ⟨j, h1, rfl⟩
    have := s3 (n - j) (by omega) (by omega)
    rw [show (n : Int) - ((n - j : Nat) : Int) = (j : Int) from by omega] at this
    exact this
  · refine ⟨n - m3, by omega, ?_⟩
    rw [show ((n - m3 : Nat) : Int) = (n : Int) - (m3 : Int) from by omega, show n - (n - m3) = m3 from by omega]
    exact e3.symm
theorem mxF {v : Int → Int} {i : Int} (h : 0 ≤ i) (x : Int) : PF v (i + 1).toNat x ↔ PF v i.toNat x ∨ x = sm v 0 (i + 1).toNat := by
  rw [nat_succ h]; exact PF_s x
theorem mxL {v : Int → Int} {n : Nat} {i : Int} (h : 0 ≤ i) (x : Int) : PL v n (i + 1).toNat x ↔ PL v n i.toNat x ∨ x = sm v i ((n : Int) - i).toNat := by
  rw [nat_succ h, PL_s, Int.toNat_of_nonneg h, show n - i.toNat = ((n : Int) - i).toNat from by omega]
theorem mxI {v : Int → Int} {n : Nat} {i t : Int} (hi : 0 ≤ i) (h : 0 ≤ t) (x : Int) : PI v n i.toNat (t + 1).toNat x ↔ PI v n i.toNat t.toNat x ∨ x = sm v i (t + 1).toNat := by
  rw [nat_succ h, PI_s, Int.toNat_of_nonneg hi]
theorem mxB {v : Int → Int} {n : Nat} {i t : Int} (h : 0 ≤ i) (hi : i < n) (ht : t = n - i) (x : Int) : PB v n (i + 1).toNat x ↔ PI v n i.toNat t.toNat x := by
  rw [nat_succ h]; exact PI_n (by omega) (by omega) x
theorem y_run {eb : Bool} {n : Nat} {d : Nat} {P : Option Vl → Mm → Prop} {σ : Mm} {t0 t1 t2 t3 : Int} (qg0 : σ 30 0 8 = (n : Int)) (qg1 : σ 38 0 0 = t0) (qg2 : σ 38 0 1 = t1) (qg3 : σ 38 0 2 = t2) (qg4 : σ 38 0 3 = t3) (hn1 : 1 ≤ n) (hn : n ≤ 242) (hb : Bd (σ 37 0) n)  (k : ∀ ρ : Mm, Gx (fun c x y => c = 38 ∧ x = 0) σ ρ → ρ 38 0 0 = ((rnn (σ 37 0) n).1) → ρ 38 0 1 = ((rnn (σ 37 0) n).2.1) → ρ 38 0 2 = ((rnn (σ 37 0) n).2.2.1) → ρ 38 0 3 = ((rnn (σ 37 0) n).2.2.2) → P none ρ) : WT (true, eb, true) (d + 1) 164 [vR 30 0] σ P := by
  refine WT_in fun K hK => ?_
  have hK : StpY (true, eb, true) cX6_run RX6 (none) (WT (true, eb, true) (d + 0)) P K := hK
  have hM := hK.1
  have hC := hK.1.1
  show K 0 [some (vR 30 0), none, none, none, none, none, none, none] [] σ
  refine r_iconst hC dX6_run_0 rfl ?_
  refine r_istore_n hC dX6_run_1 rfl ?_
  refine r_ldc hC dX6_run_2 co_RX6_160 rfl ?_
  refine r_istore_n hC dX6_run_4 rfl ?_
  refine r_ldc hC dX6_run_5 co_RX6_160 rfl ?_
  refine r_istore_n hC dX6_run_7 rfl ?_
  show K _ [_, _, _, _, _, _, _, _] _ _
  refine r_ldc hC dX6_run_8 co_RX6_160 rfl ?_
  refine r_istore hC dX6_run_10 rfl ?_
  refine r_iconst hC dX6_run_12 rfl ?_
  refine r_istore hC dX6_run_13 rfl ?_
  have L15 : ∀ (n15 : Nat) (w1 w2 w3 w4 w5 : Int), -242000 ≤ w1 ∧ w1 ≤ 242000 → -2147483648 ≤ w2 ∧ w2 ≤ 242000 → -2147483648 ≤ w3 ∧ w3 ≤ 242000 → -2147483648 ≤ w4 ∧ w4 ≤ 242000 → 0 ≤ w5 ∧ w5 ≤ 242 → ((w1) = sm (σ 37 0) 0 ((w5)).toNat) → (IsMx (PB (σ 37 0) n ((w5)).toNat) (w2)) → (IsMx (PF (σ 37 0) ((w5)).toNat) (w3)) → (IsMx (PL (σ 37 0) n ((w5)).toNat) (w4)) → (-1000 * (w5) ≤ (w1) ∧ (w1) ≤ 1000 * (w5)) → ((w5) ≤ (n : Int)) → 242 - w5 < (n15 : Int) → K 15 [some (vR 30 0), some (vI w1), some (vI w2), some (vI w3), some (vI w4), some (vI w5), none, none] [] σ := by
    intro n15
    induction n15 with
    | zero => intro w1 w2 w3 w4 w5  f_w1 f_w2 f_w3 f_w4 f_w5 i0_15 i1_15 i2_15 i3_15 i4_15 i5_15 hm  ; omega
    | succ n15 ih15 =>
      intro w1 w2 w3 w4 w5  f_w1 f_w2 f_w3 f_w4 f_w5 i0_15 i1_15 i2_15 i3_15 i4_15 i5_15 hm15  
      refine r_iload hC dX6_run_15 rfl ?_
      refine r_aload_n hC dX6_run_17 rfl ?_
      refine z_getI (jz := 8) hM dX6_run_18 fl_RX6_105 rfl rfl rfl (fun v6 h_v6 o_v6 t_v6 => ?_)
      have e_v6 : (n : Int) = v6 := ((t_v6 ((by simp [Tk, Tb, DL, DR]))).trans qg0).symm
      subst e_v6
      refine r_icmp_ge (tgt := 101) hC dX6_run_21 rfl (fun h7 => ?_) (fun h7 => ?_)
      · refine r_aload_n hC dX6_run_101 rfl ?_
        refine z_getR hM dX6_run_102 fl_RX6_31 rfl rfl (vld_of (n := 1) rfl (by omega) (by omega)) ?_
        refine r_iconst hC dX6_run_105 rfl ?_
        refine r_iload_n hC dX6_run_106 rfl ?_
        refine z_iastG hM dX6_run_107 rfl (by omega) (by omega) (by simp [Tl, DL, DF]) (by first | trivial | (simp only [Okv]; omega) | (simp [Okv]; try omega)) (fun ρ8 a_ρ8 q_ρ8 => ?_)
        refine r_aload_n hC dX6_run_108 rfl ?_
        refine z_getR hM dX6_run_109 fl_RX6_31 rfl rfl (vld_of (n := 1) rfl (by omega) (by omega)) ?_
        refine r_iconst hC dX6_run_112 rfl ?_
        refine r_iload_n hC dX6_run_113 rfl ?_
        refine z_iastG hM dX6_run_114 rfl (by omega) (by omega) (by simp [Tl, DL, DF]) (by first | trivial | (simp only [Okv]; omega) | (simp [Okv]; try omega)) (fun ρ9 a_ρ9 q_ρ9 => ?_)
        refine r_aload_n hC dX6_run_115 rfl ?_
        refine z_getR hM dX6_run_116 fl_RX6_31 rfl rfl (vld_of (n := 1) rfl (by omega) (by omega)) ?_
        refine r_iconst hC dX6_run_119 rfl ?_
        refine r_iload_n hC dX6_run_120 rfl ?_
        refine z_iastG hM dX6_run_121 rfl (by omega) (by omega) (by simp [Tl, DL, DF]) (by first | trivial | (simp only [Okv]; omega) | (simp [Okv]; try omega)) (fun ρ10 a_ρ10 q_ρ10 => ?_)
        refine r_aload_n hC dX6_run_122 rfl ?_
        refine z_getR hM dX6_run_123 fl_RX6_31 rfl rfl (vld_of (n := 1) rfl (by omega) (by omega)) ?_
        refine r_iconst hC dX6_run_126 rfl ?_
        refine r_iload hC dX6_run_127 rfl ?_
        refine z_iastG hM dX6_run_129 rfl (by omega) (by omega) (by simp [Tl, DL, DF]) (by first | trivial | (simp only [Okv]; omega) | (simp [Okv]; try omega)) (fun ρ11 a_ρ11 q_ρ11 => ?_)
        refine y_vret hK rfl dX6_run_130 ?_
        have hn_ : (w5).toNat = n := by omega
        have hz := rnn_mx hn1 (a := w1) (b := w2) (f := w3) (l := w4) (by rw [i0_15, hn_]) (by have h := i1_15; rw [hn_] at h; exact h) (by have h := i2_15; rw [hn_] at h; exact h) (by have h := i3_15; rw [hn_] at h; exact h)
        exact k _ (((((Gx.rf).al a_ρ8 (by first | (simp; done) | omega | (simp; omega))).al a_ρ9 (by first | (simp; done) | omega | (simp; omega))).al a_ρ10 (by first | (simp; done) | omega | (simp; omega))).al a_ρ11 (by first | (simp; done) | omega | (simp; omega))) (by have hq := ((a_ρ11 _ _ _ (by omega)).trans ((a_ρ10 _ _ _ (by omega)).trans ((a_ρ9 _ _ _ (by omega)).trans q_ρ8))); exact hq.trans hz.1) (by have hq := ((a_ρ11 _ _ _ (by omega)).trans ((a_ρ10 _ _ _ (by omega)).trans q_ρ9)); exact hq.trans hz.2.1) (by have hq := ((a_ρ11 _ _ _ (by omega)).trans q_ρ10); exact hq.trans hz.2.2.1) (by have hq := q_ρ11; exact hq.trans hz.2.2.2)
      · refine r_iload_n hC dX6_run_24 rfl ?_
        refine r_aload_n hC dX6_run_25 rfl ?_
        refine z_getR hM dX6_run_26 fl_RX6_28 rfl rfl (vld_of (n := 1) rfl (by omega) (by omega)) ?_
        refine r_iload hC dX6_run_29 rfl ?_
        refine z_iald hM dX6_run_31 rfl (by omega) (by omega) (fun v12 h_v12 o_v12 t_v12 => ?_)
        have w_v12 := ((t_v12 (Or.inr (Or.inr (Or.inr ⟨rfl, by first | exact True.intro | exact (rfl : true = true)⟩)))).trans (rfl)).symm
        subst w_v12
        have b_v12 := hb w5 (by omega) (by omega)
        refine r_iaddE hC ((w1 + (σ 37 0 w5))) dX6_run_32 (by omega) (by unfold inR; omega) ?_
        refine r_istore_n hC dX6_run_33 rfl ?_
        refine r_iload_n hC dX6_run_34 rfl ?_
        refine r_iload_n hC dX6_run_35 rfl ?_
        refine r_icmp_le (tgt := 41) hC dX6_run_36 rfl (fun h13 => ?_) (fun h13 => ?_)
        · refine r_iconst hC dX6_run_41 rfl ?_
          refine r_istore hC dX6_run_42 rfl ?_
          refine r_iload hC dX6_run_44 rfl ?_
          refine r_istore hC dX6_run_46 rfl ?_
          have L48 : ∀ (n48 : Nat) (w14 w15 w16 : Int), -242000 ≤ w14 ∧ w14 ≤ 242000 → 0 ≤ w15 ∧ w15 ≤ 242 → -2147483648 ≤ w16 ∧ w16 ≤ 242000 → ((w14) = sm (σ 37 0) (w5) ((w15) - (w5)).toNat) → (IsMx (PI (σ 37 0) n ((w5)).toNat ((w15) - (w5)).toNat) (w16)) → (-1000 * ((w15) - (w5)) ≤ (w14) ∧ (w14) ≤ 1000 * ((w15) - (w5))) → ((w15) ≤ (n : Int)) → ((w5) ≤ (w15)) → 242 - w15 < (n48 : Int) → K 48 [some (vR 30 0), some (vI (w1 + (σ 37 0 w5))), some (vI w16), some (vI w3), some (vI w4), some (vI w5), some (vI w14), some (vI w15)] [] σ := by
            intro n48
            induction n48 with
            | zero => intro w14 w15 w16  f_w14 f_w15 f_w16 i0_48 i1_48 i2_48 i3_48 i4_48 hm  ; omega
            | succ n48 ih48 =>
              intro w14 w15 w16  f_w14 f_w15 f_w16 i0_48 i1_48 i2_48 i3_48 i4_48 hm48  
              refine r_iload hC dX6_run_48 rfl ?_
              refine r_aload_n hC dX6_run_50 rfl ?_
              refine z_getI (jz := 8) hM dX6_run_51 fl_RX6_105 rfl rfl rfl (fun v17 h_v17 o_v17 t_v17 => ?_)
              have e_v17 : (n : Int) = v17 := ((t_v17 ((by simp [Tk, Tb, DL, DR]))).trans qg0).symm
              subst e_v17
              refine r_icmp_ge (tgt := 84) hC dX6_run_54 rfl (fun h18 => ?_) (fun h18 => ?_)
              · have hsm : sm (σ 37 0) w5 ((n : Int) - w5).toNat = w14 := by rw [i0_48, show w15 = (n : Int) from by omega]
                refine r_iload hC dX6_run_84 rfl ?_
                refine r_iload hC dX6_run_86 rfl ?_
                refine r_icmp_le (tgt := 95) hC dX6_run_88 rfl (fun h19 => ?_) (fun h19 => ?_)
                · refine r_iincE hC ((w5 + 1)) dX6_run_95 rfl rfl (by omega) (by unfold inR; omega) ?_
                  refine r_goto (tgt := 15) hC dX6_run_98 rfl ?_
                  refine r_forget hC (ls2 := [some (vR 30 0), some (vI (w1 + (σ 37 0 w5))), some (vI w16), some (vI w3), some (vI w4), some (vI (w5 + 1)), none, none]) (lsub_some (lsub_some (lsub_some (lsub_some (lsub_some (lsub_some (lsub_none (lsub_none lsub_nil)))))))) ?_
                  exact ih15 ((w1 + (σ 37 0 w5))) (w16) (w3) (w4) ((w5 + 1))  (by omega) (by omega) (by omega) (by omega) (by omega) (by first | rfl | exact (sm_s (by omega) (by rw [← i0_15, Int.zero_add])).symm) (by first | exact mx_0 (by rintro x ⟨j, m, h1, h2, h3, h4⟩; omega) | exact mx_c i1_48 (mxB (by omega) (by omega) (by omega))) (by first | exact mx_0 (by rintro x ⟨m, h1, h2, h3⟩; omega) | exact mx_y i2_15 (fun x => by rw [mxF (by omega), sm_s (by omega) (by rw [← i0_15, Int.zero_add])]) (by omega) | exact mx_n i2_15 (fun x => by rw [mxF (by omega), sm_s (by omega) (by rw [← i0_15, Int.zero_add])]) (by omega) (by omega)) (by first | exact mx_0 (by rintro x ⟨m, h1, h3⟩; omega) | exact mx_y i3_15 (fun x => by rw [mxL (by omega), hsm]) (by omega) | exact mx_n i3_15 (fun x => by rw [mxL (by omega), hsm]) (by omega) (by omega)) (by omega) (by omega) (by omega)  
                · refine r_iload hC dX6_run_91 rfl ?_
                  refine r_istore hC dX6_run_93 rfl ?_
                  refine r_iincE hC ((w5 + 1)) dX6_run_95 rfl rfl (by omega) (by unfold inR; omega) ?_
                  refine r_goto (tgt := 15) hC dX6_run_98 rfl ?_
                  refine r_forget hC (ls2 := [some (vR 30 0), some (vI (w1 + (σ 37 0 w5))), some (vI w16), some (vI w3), some (vI w14), some (vI (w5 + 1)), none, none]) (lsub_some (lsub_some (lsub_some (lsub_some (lsub_some (lsub_some (lsub_none (lsub_none lsub_nil)))))))) ?_
                  exact ih15 ((w1 + (σ 37 0 w5))) (w16) (w3) (w14) ((w5 + 1))  (by omega) (by omega) (by omega) (by omega) (by omega) (by first | rfl | exact (sm_s (by omega) (by rw [← i0_15, Int.zero_add])).symm) (by first | exact mx_0 (by rintro x ⟨j, m, h1, h2, h3, h4⟩; omega) | exact mx_c i1_48 (mxB (by omega) (by omega) (by omega))) (by first | exact mx_0 (by rintro x ⟨m, h1, h2, h3⟩; omega) | exact mx_y i2_15 (fun x => by rw [mxF (by omega), sm_s (by omega) (by rw [← i0_15, Int.zero_add])]) (by omega) | exact mx_n i2_15 (fun x => by rw [mxF (by omega), sm_s (by omega) (by rw [← i0_15, Int.zero_add])]) (by omega) (by omega)) (by first | exact mx_0 (by rintro x ⟨m, h1, h3⟩; omega) | exact mx_y i3_15 (fun x => by rw [mxL (by omega), hsm]) (by omega) | exact mx_n i3_15 (fun x => by rw [mxL (by omega), hsm]) (by omega) (by omega)) (by omega) (by omega) (by omega)  
              · refine r_iload hC dX6_run_57 rfl ?_
                refine r_aload_n hC dX6_run_59 rfl ?_
                refine z_getR hM dX6_run_60 fl_RX6_28 rfl rfl (vld_of (n := 1) rfl (by omega) (by omega)) ?_
                refine r_iload hC dX6_run_63 rfl ?_
                refine z_iald hM dX6_run_65 rfl (by omega) (by omega) (fun v20 h_v20 o_v20 t_v20 => ?_)
                have w_v20 := ((t_v20 (Or.inr (Or.inr (Or.inr ⟨rfl, by first | exact True.intro | exact (rfl : true = true)⟩)))).trans (rfl)).symm
                subst w_v20
                have b_v20 := hb w15 (by omega) (by omega)
                refine r_iaddE hC ((w14 + (σ 37 0 w15))) dX6_run_66 (by omega) (by unfold inR; omega) ?_
                refine r_istore hC dX6_run_67 rfl ?_
                refine r_iload hC dX6_run_69 rfl ?_
                refine r_iload_n hC dX6_run_71 rfl ?_
                refine r_icmp_le (tgt := 78) hC dX6_run_72 rfl (fun h21 => ?_) (fun h21 => ?_)
                · refine r_iincE hC ((w15 + 1)) dX6_run_78 rfl rfl (by omega) (by unfold inR; omega) ?_
                  refine r_goto (tgt := 48) hC dX6_run_81 rfl ?_
                  exact ih48 ((w14 + (σ 37 0 w15))) ((w15 + 1)) (w16)  (by omega) (by omega) (by omega) (by first | (rw [Int.sub_self]; rfl) | (rw [show (w15 + 1 - w5) = (w15 - w5) + 1 from by omega]; exact (sm_s (by omega) (by rw [show w5 + (w15 - w5) = w15 from by omega, ← i0_48])).symm)) (by first | (rw [Int.sub_self]; exact mx_c i1_15 PI_0) | (rw [show (w15 + 1 - w5) = (w15 - w5) + 1 from by omega]; first | exact mx_y i1_48 (fun x => by rw [mxI (by omega) (by omega), sm_s (by omega) (by rw [show w5 + (w15 - w5) = w15 from by omega, ← i0_48])]) (by omega) | exact mx_n i1_48 (fun x => by rw [mxI (by omega) (by omega), sm_s (by omega) (by rw [show w5 + (w15 - w5) = w15 from by omega, ← i0_48])]) (by omega) (by omega))) (by omega) (by omega) (by omega) (by omega)  
                · refine r_iload hC dX6_run_75 rfl ?_
                  refine r_istore_n hC dX6_run_77 rfl ?_
                  refine r_iincE hC ((w15 + 1)) dX6_run_78 rfl rfl (by omega) (by unfold inR; omega) ?_
                  refine r_goto (tgt := 48) hC dX6_run_81 rfl ?_
                  exact ih48 ((w14 + (σ 37 0 w15))) ((w15 + 1)) ((w14 + (σ 37 0 w15)))  (by omega) (by omega) (by omega) (by first | (rw [Int.sub_self]; rfl) | (rw [show (w15 + 1 - w5) = (w15 - w5) + 1 from by omega]; exact (sm_s (by omega) (by rw [show w5 + (w15 - w5) = w15 from by omega, ← i0_48])).symm)) (by first | (rw [Int.sub_self]; exact mx_c i1_15 PI_0) | (rw [show (w15 + 1 - w5) = (w15 - w5) + 1 from by omega]; first | exact mx_y i1_48 (fun x => by rw [mxI (by omega) (by omega), sm_s (by omega) (by rw [show w5 + (w15 - w5) = w15 from by omega, ← i0_48])]) (by omega) | exact mx_n i1_48 (fun x => by rw [mxI (by omega) (by omega), sm_s (by omega) (by rw [show w5 + (w15 - w5) = w15 from by omega, ← i0_48])]) (by omega) (by omega))) (by omega) (by omega) (by omega) (by omega)  
          exact L48 244 (0) (w5) (w2)  (by omega) (by omega) (by omega) (by first | (rw [Int.sub_self]; rfl) | (rw [show (w15 + 1 - w5) = (w15 - w5) + 1 from by omega]; exact (sm_s (by omega) (by rw [show w5 + (w15 - w5) = w15 from by omega, ← i0_48])).symm)) (by first | (rw [Int.sub_self]; exact mx_c i1_15 PI_0) | (rw [show (w15 + 1 - w5) = (w15 - w5) + 1 from by omega]; first | exact mx_y i1_48 (fun x => by rw [mxI (by omega) (by omega), sm_s (by omega) (by rw [show w5 + (w15 - w5) = w15 from by omega, ← i0_48])]) (by omega) | exact mx_n i1_48 (fun x => by rw [mxI (by omega) (by omega), sm_s (by omega) (by rw [show w5 + (w15 - w5) = w15 from by omega, ← i0_48])]) (by omega) (by omega))) (by omega) (by omega) (by omega) (by omega)  
        · refine r_iload_n hC dX6_run_39 rfl ?_
          refine r_istore_n hC dX6_run_40 rfl ?_
          refine r_iconst hC dX6_run_41 rfl ?_
          refine r_istore hC dX6_run_42 rfl ?_
          refine r_iload hC dX6_run_44 rfl ?_
          refine r_istore hC dX6_run_46 rfl ?_
          have L48 : ∀ (n48 : Nat) (w22 w23 w24 : Int), -242000 ≤ w22 ∧ w22 ≤ 242000 → 0 ≤ w23 ∧ w23 ≤ 242 → -2147483648 ≤ w24 ∧ w24 ≤ 242000 → ((w22) = sm (σ 37 0) (w5) ((w23) - (w5)).toNat) → (IsMx (PI (σ 37 0) n ((w5)).toNat ((w23) - (w5)).toNat) (w24)) → (-1000 * ((w23) - (w5)) ≤ (w22) ∧ (w22) ≤ 1000 * ((w23) - (w5))) → ((w23) ≤ (n : Int)) → ((w5) ≤ (w23)) → 242 - w23 < (n48 : Int) → K 48 [some (vR 30 0), some (vI (w1 + (σ 37 0 w5))), some (vI w24), some (vI (w1 + (σ 37 0 w5))), some (vI w4), some (vI w5), some (vI w22), some (vI w23)] [] σ := by
            intro n48
            induction n48 with
            | zero => intro w22 w23 w24  f_w22 f_w23 f_w24 i0_48 i1_48 i2_48 i3_48 i4_48 hm  ; omega
            | succ n48 ih48 =>
              intro w22 w23 w24  f_w22 f_w23 f_w24 i0_48 i1_48 i2_48 i3_48 i4_48 hm48  
              refine r_iload hC dX6_run_48 rfl ?_
              refine r_aload_n hC dX6_run_50 rfl ?_
              refine z_getI (jz := 8) hM dX6_run_51 fl_RX6_105 rfl rfl rfl (fun v25 h_v25 o_v25 t_v25 => ?_)
              have e_v25 : (n : Int) = v25 := ((t_v25 ((by simp [Tk, Tb, DL, DR]))).trans qg0).symm
              subst e_v25
              refine r_icmp_ge (tgt := 84) hC dX6_run_54 rfl (fun h26 => ?_) (fun h26 => ?_)
              · have hsm : sm (σ 37 0) w5 ((n : Int) - w5).toNat = w22 := by rw [i0_48, show w23 = (n : Int) from by omega]
                refine r_iload hC dX6_run_84 rfl ?_
                refine r_iload hC dX6_run_86 rfl ?_
                refine r_icmp_le (tgt := 95) hC dX6_run_88 rfl (fun h27 => ?_) (fun h27 => ?_)
                · refine r_iincE hC ((w5 + 1)) dX6_run_95 rfl rfl (by omega) (by unfold inR; omega) ?_
                  refine r_goto (tgt := 15) hC dX6_run_98 rfl ?_
                  refine r_forget hC (ls2 := [some (vR 30 0), some (vI (w1 + (σ 37 0 w5))), some (vI w24), some (vI (w1 + (σ 37 0 w5))), some (vI w4), some (vI (w5 + 1)), none, none]) (lsub_some (lsub_some (lsub_some (lsub_some (lsub_some (lsub_some (lsub_none (lsub_none lsub_nil)))))))) ?_
                  exact ih15 ((w1 + (σ 37 0 w5))) (w24) ((w1 + (σ 37 0 w5))) (w4) ((w5 + 1))  (by omega) (by omega) (by omega) (by omega) (by omega) (by first | rfl | exact (sm_s (by omega) (by rw [← i0_15, Int.zero_add])).symm) (by first | exact mx_0 (by rintro x ⟨j, m, h1, h2, h3, h4⟩; omega) | exact mx_c i1_48 (mxB (by omega) (by omega) (by omega))) (by first | exact mx_0 (by rintro x ⟨m, h1, h2, h3⟩; omega) | exact mx_y i2_15 (fun x => by rw [mxF (by omega), sm_s (by omega) (by rw [← i0_15, Int.zero_add])]) (by omega) | exact mx_n i2_15 (fun x => by rw [mxF (by omega), sm_s (by omega) (by rw [← i0_15, Int.zero_add])]) (by omega) (by omega)) (by first | exact mx_0 (by rintro x ⟨m, h1, h3⟩; omega) | exact mx_y i3_15 (fun x => by rw [mxL (by omega), hsm]) (by omega) | exact mx_n i3_15 (fun x => by rw [mxL (by omega), hsm]) (by omega) (by omega)) (by omega) (by omega) (by omega)  
                · refine r_iload hC dX6_run_91 rfl ?_
                  refine r_istore hC dX6_run_93 rfl ?_
                  refine r_iincE hC ((w5 + 1)) dX6_run_95 rfl rfl (by omega) (by unfold inR; omega) ?_
                  refine r_goto (tgt := 15) hC dX6_run_98 rfl ?_
                  refine r_forget hC (ls2 := [some (vR 30 0), some (vI (w1 + (σ 37 0 w5))), some (vI w24), some (vI (w1 + (σ 37 0 w5))), some (vI w22), some (vI (w5 + 1)), none, none]) (lsub_some (lsub_some (lsub_some (lsub_some (lsub_some (lsub_some (lsub_none (lsub_none lsub_nil)))))))) ?_
                  exact ih15 ((w1 + (σ 37 0 w5))) (w24) ((w1 + (σ 37 0 w5))) (w22) ((w5 + 1))  (by omega) (by omega) (by omega) (by omega) (by omega) (by first | rfl | exact (sm_s (by omega) (by rw [← i0_15, Int.zero_add])).symm) (by first | exact mx_0 (by rintro x ⟨j, m, h1, h2, h3, h4⟩; omega) | exact mx_c i1_48 (mxB (by omega) (by omega) (by omega))) (by first | exact mx_0 (by rintro x ⟨m, h1, h2, h3⟩; omega) | exact mx_y i2_15 (fun x => by rw [mxF (by omega), sm_s (by omega) (by rw [← i0_15, Int.zero_add])]) (by omega) | exact mx_n i2_15 (fun x => by rw [mxF (by omega), sm_s (by omega) (by rw [← i0_15, Int.zero_add])]) (by omega) (by omega)) (by first | exact mx_0 (by rintro x ⟨m, h1, h3⟩; omega) | exact mx_y i3_15 (fun x => by rw [mxL (by omega), hsm]) (by omega) | exact mx_n i3_15 (fun x => by rw [mxL (by omega), hsm]) (by omega) (by omega)) (by omega) (by omega) (by omega)  
              · refine r_iload hC dX6_run_57 rfl ?_
                refine r_aload_n hC dX6_run_59 rfl ?_
                refine z_getR hM dX6_run_60 fl_RX6_28 rfl rfl (vld_of (n := 1) rfl (by omega) (by omega)) ?_
                refine r_iload hC dX6_run_63 rfl ?_
                refine z_iald hM dX6_run_65 rfl (by omega) (by omega) (fun v28 h_v28 o_v28 t_v28 => ?_)
                have w_v28 := ((t_v28 (Or.inr (Or.inr (Or.inr ⟨rfl, by first | exact True.intro | exact (rfl : true = true)⟩)))).trans (rfl)).symm
                subst w_v28
                have b_v28 := hb w23 (by omega) (by omega)
                refine r_iaddE hC ((w22 + (σ 37 0 w23))) dX6_run_66 (by omega) (by unfold inR; omega) ?_
                refine r_istore hC dX6_run_67 rfl ?_
                refine r_iload hC dX6_run_69 rfl ?_
                refine r_iload_n hC dX6_run_71 rfl ?_
                refine r_icmp_le (tgt := 78) hC dX6_run_72 rfl (fun h29 => ?_) (fun h29 => ?_)
                · refine r_iincE hC ((w23 + 1)) dX6_run_78 rfl rfl (by omega) (by unfold inR; omega) ?_
                  refine r_goto (tgt := 48) hC dX6_run_81 rfl ?_
                  exact ih48 ((w22 + (σ 37 0 w23))) ((w23 + 1)) (w24)  (by omega) (by omega) (by omega) (by first | (rw [Int.sub_self]; rfl) | (rw [show (w23 + 1 - w5) = (w23 - w5) + 1 from by omega]; exact (sm_s (by omega) (by rw [show w5 + (w23 - w5) = w23 from by omega, ← i0_48])).symm)) (by first | (rw [Int.sub_self]; exact mx_c i1_15 PI_0) | (rw [show (w23 + 1 - w5) = (w23 - w5) + 1 from by omega]; first | exact mx_y i1_48 (fun x => by rw [mxI (by omega) (by omega), sm_s (by omega) (by rw [show w5 + (w23 - w5) = w23 from by omega, ← i0_48])]) (by omega) | exact mx_n i1_48 (fun x => by rw [mxI (by omega) (by omega), sm_s (by omega) (by rw [show w5 + (w23 - w5) = w23 from by omega, ← i0_48])]) (by omega) (by omega))) (by omega) (by omega) (by omega) (by omega)  
                · refine r_iload hC dX6_run_75 rfl ?_
                  refine r_istore_n hC dX6_run_77 rfl ?_
                  refine r_iincE hC ((w23 + 1)) dX6_run_78 rfl rfl (by omega) (by unfold inR; omega) ?_
                  refine r_goto (tgt := 48) hC dX6_run_81 rfl ?_
                  exact ih48 ((w22 + (σ 37 0 w23))) ((w23 + 1)) ((w22 + (σ 37 0 w23)))  (by omega) (by omega) (by omega) (by first | (rw [Int.sub_self]; rfl) | (rw [show (w23 + 1 - w5) = (w23 - w5) + 1 from by omega]; exact (sm_s (by omega) (by rw [show w5 + (w23 - w5) = w23 from by omega, ← i0_48])).symm)) (by first | (rw [Int.sub_self]; exact mx_c i1_15 PI_0) | (rw [show (w23 + 1 - w5) = (w23 - w5) + 1 from by omega]; first | exact mx_y i1_48 (fun x => by rw [mxI (by omega) (by omega), sm_s (by omega) (by rw [show w5 + (w23 - w5) = w23 from by omega, ← i0_48])]) (by omega) | exact mx_n i1_48 (fun x => by rw [mxI (by omega) (by omega), sm_s (by omega) (by rw [show w5 + (w23 - w5) = w23 from by omega, ← i0_48])]) (by omega) (by omega))) (by omega) (by omega) (by omega) (by omega)  
          exact L48 244 (0) (w5) (w2)  (by omega) (by omega) (by omega) (by first | (rw [Int.sub_self]; rfl) | (rw [show (w23 + 1 - w5) = (w23 - w5) + 1 from by omega]; exact (sm_s (by omega) (by rw [show w5 + (w23 - w5) = w23 from by omega, ← i0_48])).symm)) (by first | (rw [Int.sub_self]; exact mx_c i1_15 PI_0) | (rw [show (w23 + 1 - w5) = (w23 - w5) + 1 from by omega]; first | exact mx_y i1_48 (fun x => by rw [mxI (by omega) (by omega), sm_s (by omega) (by rw [show w5 + (w23 - w5) = w23 from by omega, ← i0_48])]) (by omega) | exact mx_n i1_48 (fun x => by rw [mxI (by omega) (by omega), sm_s (by omega) (by rw [show w5 + (w23 - w5) = w23 from by omega, ← i0_48])]) (by omega) (by omega))) (by omega) (by omega) (by omega) (by omega)  
  exact L15 244 (0) ((-2147483648)) ((-2147483648)) ((-2147483648)) (0)  (by omega) (by omega) (by omega) (by omega) (by omega) (by first | rfl | exact (sm_s (by omega) (by rw [← i0_15, Int.zero_add])).symm) (by first | exact mx_0 (by rintro x ⟨j, m, h1, h2, h3, h4⟩; omega) | exact mx_c i1_48 (mxB (by omega) (by omega) (by omega))) (by first | exact mx_0 (by rintro x ⟨m, h1, h2, h3⟩; omega) | exact mx_y i2_15 (fun x => by rw [mxF (by omega), sm_s (by omega) (by rw [← i0_15, Int.zero_add])]) (by omega) | exact mx_n i2_15 (fun x => by rw [mxF (by omega), sm_s (by omega) (by rw [← i0_15, Int.zero_add])]) (by omega) (by omega)) (by first | exact mx_0 (by rintro x ⟨m, h1, h3⟩; omega) | exact mx_y i3_15 (fun x => by rw [mxL (by omega), hsm]) (by omega) | exact mx_n i3_15 (fun x => by rw [mxL (by omega), hsm]) (by omega) (by omega)) (by omega) (by omega) (by omega)  
-- B: the reference: send, like
theorem y_bits0 {e : Ev} {d : Nat} {P : Option Vl → Mm → Prop} {σ : Mm}   (k : P (some (vI 0)) σ) : WT e (d + 1) 166 [vI 0] σ P := by
  refine WT_in fun K hK => ?_
  have hK : StpY e cX6_bits RX6 (some .int) (WT e (d + 0)) P K := hK
  have hM := hK.1
  have hC := hK.1.1
  show K 0 [some (vI 0), none, none] [] σ
  refine r_iconst hC dX6_bits_0 rfl ?_
  refine r_istore_n hC dX6_bits_1 rfl ?_
  refine r_iconst hC dX6_bits_2 rfl ?_
  refine r_istore_n hC dX6_bits_3 rfl ?_
  refine r_iload_n hC dX6_bits_4 rfl ?_
  refine r_iconst hC dX6_bits_5 rfl ?_
  refine r_icmp_ge (tgt := 23) hC dX6_bits_6 rfl (fun h1 => by omega) (fun h1 => ?_)
  refine r_iload_n hC dX6_bits_9 rfl ?_
  refine r_iload_n hC dX6_bits_10 rfl ?_
  refine r_iload_n hC dX6_bits_11 rfl ?_
  refine r_ishr hC dX6_bits_12 ?_
  rw [show ishr (0) (0) = (0 : Int) from by decide +kernel]
  refine r_iconst hC dX6_bits_13 rfl ?_
  refine r_iand hC dX6_bits_14 ?_
  rw [show iand (0) (1) = (0 : Int) from by decide +kernel]
  refine r_iaddE hC (0) dX6_bits_15 (by omega) (by unfold inR; omega) ?_
  refine r_istore_n hC dX6_bits_16 rfl ?_
  show K _ [_, _, _] _ _
  refine r_iincE hC (1) dX6_bits_17 rfl rfl (by omega) (by unfold inR; omega) ?_
  refine r_goto (tgt := 4) hC dX6_bits_20 rfl ?_
  refine r_iload_n hC dX6_bits_4 rfl ?_
  refine r_iconst hC dX6_bits_5 rfl ?_
  refine r_icmp_ge (tgt := 23) hC dX6_bits_6 rfl (fun h4 => by omega) (fun h4 => ?_)
  refine r_iload_n hC dX6_bits_9 rfl ?_
  refine r_iload_n hC dX6_bits_10 rfl ?_
  refine r_iload_n hC dX6_bits_11 rfl ?_
  refine r_ishr hC dX6_bits_12 ?_
  rw [show ishr (0) (1) = (0 : Int) from by decide +kernel]
  refine r_iconst hC dX6_bits_13 rfl ?_
  refine r_iand hC dX6_bits_14 ?_
  rw [show iand (0) (1) = (0 : Int) from by decide +kernel]
  refine r_iaddE hC (0) dX6_bits_15 (by omega) (by unfold inR; omega) ?_
  refine r_istore_n hC dX6_bits_16 rfl ?_
  refine r_iincE hC (2) dX6_bits_17 rfl rfl (by omega) (by unfold inR; omega) ?_
  show K _ [_, _, _] _ _
  refine r_goto (tgt := 4) hC dX6_bits_20 rfl ?_
  refine r_iload_n hC dX6_bits_4 rfl ?_
  refine r_iconst hC dX6_bits_5 rfl ?_
  refine r_icmp_ge (tgt := 23) hC dX6_bits_6 rfl (fun h7 => by omega) (fun h7 => ?_)
  refine r_iload_n hC dX6_bits_9 rfl ?_
  refine r_iload_n hC dX6_bits_10 rfl ?_
  refine r_iload_n hC dX6_bits_11 rfl ?_
  refine r_ishr hC dX6_bits_12 ?_
  rw [show ishr (0) (2) = (0 : Int) from by decide +kernel]
  refine r_iconst hC dX6_bits_13 rfl ?_
  refine r_iand hC dX6_bits_14 ?_
  rw [show iand (0) (1) = (0 : Int) from by decide +kernel]
  refine r_iaddE hC (0) dX6_bits_15 (by omega) (by unfold inR; omega) ?_
  refine r_istore_n hC dX6_bits_16 rfl ?_
  refine r_iincE hC (3) dX6_bits_17 rfl rfl (by omega) (by unfold inR; omega) ?_
  refine r_goto (tgt := 4) hC dX6_bits_20 rfl ?_
  refine r_iload_n hC dX6_bits_4 rfl ?_
  refine r_iconst hC dX6_bits_5 rfl ?_
  refine r_icmp_ge (tgt := 23) hC dX6_bits_6 rfl (fun h10 => by omega) (fun h10 => ?_)
  refine r_iload_n hC dX6_bits_9 rfl ?_
  refine r_iload_n hC dX6_bits_10 rfl ?_
  refine r_iload_n hC dX6_bits_11 rfl ?_
  refine r_ishr hC dX6_bits_12 ?_
  rw [show ishr (0) (3) = (0 : Int) from by decide +kernel]
  refine r_iconst hC dX6_bits_13 rfl ?_
  refine r_iand hC dX6_bits_14 ?_
  rw [show iand (0) (1) = (0 : Int) from by decide +kernel]
  refine r_iaddE hC (0) dX6_bits_15 (by omega) (by unfold inR; omega) ?_
  refine r_istore_n hC dX6_bits_16 rfl ?_
  show K _ [_, _, _] _ _
  refine r_iincE hC (4) dX6_bits_17 rfl rfl (by omega) (by unfold inR; omega) ?_
  refine r_goto (tgt := 4) hC dX6_bits_20 rfl ?_
  refine r_iload_n hC dX6_bits_4 rfl ?_
  refine r_iconst hC dX6_bits_5 rfl ?_
  refine r_icmp_ge (tgt := 23) hC dX6_bits_6 rfl (fun h13 => ?_) (fun h13 => by omega)
  refine r_iload_n hC dX6_bits_23 rfl ?_
  refine y_iret hK rfl dX6_bits_24 ?_
  exact k
theorem y_bits1 {e : Ev} {d : Nat} {P : Option Vl → Mm → Prop} {σ : Mm}   (k : P (some (vI 1)) σ) : WT e (d + 1) 166 [vI 1] σ P := by
  refine WT_in fun K hK => ?_
  have hK : StpY e cX6_bits RX6 (some .int) (WT e (d + 0)) P K := hK
  have hM := hK.1
  have hC := hK.1.1
  show K 0 [some (vI 1), none, none] [] σ
  refine r_iconst hC dX6_bits_0 rfl ?_
  refine r_istore_n hC dX6_bits_1 rfl ?_
  refine r_iconst hC dX6_bits_2 rfl ?_
  refine r_istore_n hC dX6_bits_3 rfl ?_
  refine r_iload_n hC dX6_bits_4 rfl ?_
  refine r_iconst hC dX6_bits_5 rfl ?_
  refine r_icmp_ge (tgt := 23) hC dX6_bits_6 rfl (fun h1 => by omega) (fun h1 => ?_)
  refine r_iload_n hC dX6_bits_9 rfl ?_
  refine r_iload_n hC dX6_bits_10 rfl ?_
  refine r_iload_n hC dX6_bits_11 rfl ?_
  refine r_ishr hC dX6_bits_12 ?_
  rw [show ishr (1) (0) = (1 : Int) from by decide +kernel]
  refine r_iconst hC dX6_bits_13 rfl ?_
  refine r_iand hC dX6_bits_14 ?_
  rw [show iand (1) (1) = (1 : Int) from by decide +kernel]
  refine r_iaddE hC (1) dX6_bits_15 (by omega) (by unfold inR; omega) ?_
  refine r_istore_n hC dX6_bits_16 rfl ?_
  show K _ [_, _, _] _ _
  refine r_iincE hC (1) dX6_bits_17 rfl rfl (by omega) (by unfold inR; omega) ?_
  refine r_goto (tgt := 4) hC dX6_bits_20 rfl ?_
  refine r_iload_n hC dX6_bits_4 rfl ?_
  refine r_iconst hC dX6_bits_5 rfl ?_
  refine r_icmp_ge (tgt := 23) hC dX6_bits_6 rfl (fun h4 => by omega) (fun h4 => ?_)
  refine r_iload_n hC dX6_bits_9 rfl ?_
  refine r_iload_n hC dX6_bits_10 rfl ?_
  refine r_iload_n hC dX6_bits_11 rfl ?_
  refine r_ishr hC dX6_bits_12 ?_
  rw [show ishr (1) (1) = (0 : Int) from by decide +kernel]
  refine r_iconst hC dX6_bits_13 rfl ?_
  refine r_iand hC dX6_bits_14 ?_
  rw [show iand (0) (1) = (0 : Int) from by decide +kernel]
  refine r_iaddE hC (1) dX6_bits_15 (by omega) (by unfold inR; omega) ?_
  refine r_istore_n hC dX6_bits_16 rfl ?_
  refine r_iincE hC (2) dX6_bits_17 rfl rfl (by omega) (by unfold inR; omega) ?_
  show K _ [_, _, _] _ _
  refine r_goto (tgt := 4) hC dX6_bits_20 rfl ?_
  refine r_iload_n hC dX6_bits_4 rfl ?_
  refine r_iconst hC dX6_bits_5 rfl ?_
  refine r_icmp_ge (tgt := 23) hC dX6_bits_6 rfl (fun h7 => by omega) (fun h7 => ?_)
  refine r_iload_n hC dX6_bits_9 rfl ?_
  refine r_iload_n hC dX6_bits_10 rfl ?_
  refine r_iload_n hC dX6_bits_11 rfl ?_
  refine r_ishr hC dX6_bits_12 ?_
  rw [show ishr (1) (2) = (0 : Int) from by decide +kernel]
  refine r_iconst hC dX6_bits_13 rfl ?_
  refine r_iand hC dX6_bits_14 ?_
  rw [show iand (0) (1) = (0 : Int) from by decide +kernel]
  refine r_iaddE hC (1) dX6_bits_15 (by omega) (by unfold inR; omega) ?_
  refine r_istore_n hC dX6_bits_16 rfl ?_
  refine r_iincE hC (3) dX6_bits_17 rfl rfl (by omega) (by unfold inR; omega) ?_
  refine r_goto (tgt := 4) hC dX6_bits_20 rfl ?_
  refine r_iload_n hC dX6_bits_4 rfl ?_
  refine r_iconst hC dX6_bits_5 rfl ?_
  refine r_icmp_ge (tgt := 23) hC dX6_bits_6 rfl (fun h10 => by omega) (fun h10 => ?_)
  refine r_iload_n hC dX6_bits_9 rfl ?_
  refine r_iload_n hC dX6_bits_10 rfl ?_
  refine r_iload_n hC dX6_bits_11 rfl ?_
  refine r_ishr hC dX6_bits_12 ?_
  rw [show ishr (1) (3) = (0 : Int) from by decide +kernel]
  refine r_iconst hC dX6_bits_13 rfl ?_
  refine r_iand hC dX6_bits_14 ?_
  rw [show iand (0) (1) = (0 : Int) from by decide +kernel]
  refine r_iaddE hC (1) dX6_bits_15 (by omega) (by unfold inR; omega) ?_
  refine r_istore_n hC dX6_bits_16 rfl ?_
  show K _ [_, _, _] _ _
  refine r_iincE hC (4) dX6_bits_17 rfl rfl (by omega) (by unfold inR; omega) ?_
  refine r_goto (tgt := 4) hC dX6_bits_20 rfl ?_
  refine r_iload_n hC dX6_bits_4 rfl ?_
  refine r_iconst hC dX6_bits_5 rfl ?_
  refine r_icmp_ge (tgt := 23) hC dX6_bits_6 rfl (fun h13 => ?_) (fun h13 => by omega)
  refine r_iload_n hC dX6_bits_23 rfl ?_
  refine y_iret hK rfl dX6_bits_24 ?_
  exact k
theorem y_bits2 {e : Ev} {d : Nat} {P : Option Vl → Mm → Prop} {σ : Mm}   (k : P (some (vI 1)) σ) : WT e (d + 1) 166 [vI 2] σ P := by
  refine WT_in fun K hK => ?_
  have hK : StpY e cX6_bits RX6 (some .int) (WT e (d + 0)) P K := hK
  have hM := hK.1
  have hC := hK.1.1
  show K 0 [some (vI 2), none, none] [] σ
  refine r_iconst hC dX6_bits_0 rfl ?_
  refine r_istore_n hC dX6_bits_1 rfl ?_
  refine r_iconst hC dX6_bits_2 rfl ?_
  refine r_istore_n hC dX6_bits_3 rfl ?_
  refine r_iload_n hC dX6_bits_4 rfl ?_
  refine r_iconst hC dX6_bits_5 rfl ?_
  refine r_icmp_ge (tgt := 23) hC dX6_bits_6 rfl (fun h1 => by omega) (fun h1 => ?_)
  refine r_iload_n hC dX6_bits_9 rfl ?_
  refine r_iload_n hC dX6_bits_10 rfl ?_
  refine r_iload_n hC dX6_bits_11 rfl ?_
  refine r_ishr hC dX6_bits_12 ?_
  rw [show ishr (2) (0) = (2 : Int) from by decide +kernel]
  refine r_iconst hC dX6_bits_13 rfl ?_
  refine r_iand hC dX6_bits_14 ?_
  rw [show iand (2) (1) = (0 : Int) from by decide +kernel]
  refine r_iaddE hC (0) dX6_bits_15 (by omega) (by unfold inR; omega) ?_
  refine r_istore_n hC dX6_bits_16 rfl ?_
  show K _ [_, _, _] _ _
  refine r_iincE hC (1) dX6_bits_17 rfl rfl (by omega) (by unfold inR; omega) ?_
  refine r_goto (tgt := 4) hC dX6_bits_20 rfl ?_
  refine r_iload_n hC dX6_bits_4 rfl ?_
  refine r_iconst hC dX6_bits_5 rfl ?_
  refine r_icmp_ge (tgt := 23) hC dX6_bits_6 rfl (fun h4 => by omega) (fun h4 => ?_)
  refine r_iload_n hC dX6_bits_9 rfl ?_
  refine r_iload_n hC dX6_bits_10 rfl ?_
  refine r_iload_n hC dX6_bits_11 rfl ?_
  refine r_ishr hC dX6_bits_12 ?_
  rw [show ishr (2) (1) = (1 : Int) from by decide +kernel]
  refine r_iconst hC dX6_bits_13 rfl ?_
  refine r_iand hC dX6_bits_14 ?_
  rw [show iand (1) (1) = (1 : Int) from by decide +kernel]
  refine r_iaddE hC (1) dX6_bits_15 (by omega) (by unfold inR; omega) ?_
  refine r_istore_n hC dX6_bits_16 rfl ?_
  refine r_iincE hC (2) dX6_bits_17 rfl rfl (by omega) (by unfold inR; omega) ?_
  show K _ [_, _, _] _ _
  refine r_goto (tgt := 4) hC dX6_bits_20 rfl ?_
  refine r_iload_n hC dX6_bits_4 rfl ?_
  refine r_iconst hC dX6_bits_5 rfl ?_
  refine r_icmp_ge (tgt := 23) hC dX6_bits_6 rfl (fun h7 => by omega) (fun h7 => ?_)
  refine r_iload_n hC dX6_bits_9 rfl ?_
  refine r_iload_n hC dX6_bits_10 rfl ?_
  refine r_iload_n hC dX6_bits_11 rfl ?_
  refine r_ishr hC dX6_bits_12 ?_
  rw [show ishr (2) (2) = (0 : Int) from by decide +kernel]
  refine r_iconst hC dX6_bits_13 rfl ?_
  refine r_iand hC dX6_bits_14 ?_
  rw [show iand (0) (1) = (0 : Int) from by decide +kernel]
  refine r_iaddE hC (1) dX6_bits_15 (by omega) (by unfold inR; omega) ?_
  refine r_istore_n hC dX6_bits_16 rfl ?_
  refine r_iincE hC (3) dX6_bits_17 rfl rfl (by omega) (by unfold inR; omega) ?_
  refine r_goto (tgt := 4) hC dX6_bits_20 rfl ?_
  refine r_iload_n hC dX6_bits_4 rfl ?_
  refine r_iconst hC dX6_bits_5 rfl ?_
  refine r_icmp_ge (tgt := 23) hC dX6_bits_6 rfl (fun h10 => by omega) (fun h10 => ?_)
  refine r_iload_n hC dX6_bits_9 rfl ?_
  refine r_iload_n hC dX6_bits_10 rfl ?_
  refine r_iload_n hC dX6_bits_11 rfl ?_
  refine r_ishr hC dX6_bits_12 ?_
  rw [show ishr (2) (3) = (0 : Int) from by decide +kernel]
  refine r_iconst hC dX6_bits_13 rfl ?_
  refine r_iand hC dX6_bits_14 ?_
  rw [show iand (0) (1) = (0 : Int) from by decide +kernel]
  refine r_iaddE hC (1) dX6_bits_15 (by omega) (by unfold inR; omega) ?_
  refine r_istore_n hC dX6_bits_16 rfl ?_
  show K _ [_, _, _] _ _
  refine r_iincE hC (4) dX6_bits_17 rfl rfl (by omega) (by unfold inR; omega) ?_
  refine r_goto (tgt := 4) hC dX6_bits_20 rfl ?_
  refine r_iload_n hC dX6_bits_4 rfl ?_
  refine r_iconst hC dX6_bits_5 rfl ?_
  refine r_icmp_ge (tgt := 23) hC dX6_bits_6 rfl (fun h13 => ?_) (fun h13 => by omega)
  refine r_iload_n hC dX6_bits_23 rfl ?_
  refine y_iret hK rfl dX6_bits_24 ?_
  exact k
theorem y_bits3 {e : Ev} {d : Nat} {P : Option Vl → Mm → Prop} {σ : Mm}   (k : P (some (vI 2)) σ) : WT e (d + 1) 166 [vI 3] σ P := by
  refine WT_in fun K hK => ?_
  have hK : StpY e cX6_bits RX6 (some .int) (WT e (d + 0)) P K := hK
  have hM := hK.1
  have hC := hK.1.1
  show K 0 [some (vI 3), none, none] [] σ
  refine r_iconst hC dX6_bits_0 rfl ?_
  refine r_istore_n hC dX6_bits_1 rfl ?_
  refine r_iconst hC dX6_bits_2 rfl ?_
  refine r_istore_n hC dX6_bits_3 rfl ?_
  refine r_iload_n hC dX6_bits_4 rfl ?_
  refine r_iconst hC dX6_bits_5 rfl ?_
  refine r_icmp_ge (tgt := 23) hC dX6_bits_6 rfl (fun h1 => by omega) (fun h1 => ?_)
  refine r_iload_n hC dX6_bits_9 rfl ?_
  refine r_iload_n hC dX6_bits_10 rfl ?_
  refine r_iload_n hC dX6_bits_11 rfl ?_
  refine r_ishr hC dX6_bits_12 ?_
  rw [show ishr (3) (0) = (3 : Int) from by decide +kernel]
  refine r_iconst hC dX6_bits_13 rfl ?_
  refine r_iand hC dX6_bits_14 ?_
  rw [show iand (3) (1) = (1 : Int) from by decide +kernel]
  refine r_iaddE hC (1) dX6_bits_15 (by omega) (by unfold inR; omega) ?_
  refine r_istore_n hC dX6_bits_16 rfl ?_
  show K _ [_, _, _] _ _
  refine r_iincE hC (1) dX6_bits_17 rfl rfl (by omega) (by unfold inR; omega) ?_
  refine r_goto (tgt := 4) hC dX6_bits_20 rfl ?_
  refine r_iload_n hC dX6_bits_4 rfl ?_
  refine r_iconst hC dX6_bits_5 rfl ?_
  refine r_icmp_ge (tgt := 23) hC dX6_bits_6 rfl (fun h4 => by omega) (fun h4 => ?_)
  refine r_iload_n hC dX6_bits_9 rfl ?_
  refine r_iload_n hC dX6_bits_10 rfl ?_
  refine r_iload_n hC dX6_bits_11 rfl ?_
  refine r_ishr hC dX6_bits_12 ?_
  rw [show ishr (3) (1) = (1 : Int) from by decide +kernel]
  refine r_iconst hC dX6_bits_13 rfl ?_
  refine r_iand hC dX6_bits_14 ?_
  rw [show iand (1) (1) = (1 : Int) from by decide +kernel]
  refine r_iaddE hC (2) dX6_bits_15 (by omega) (by unfold inR; omega) ?_
  refine r_istore_n hC dX6_bits_16 rfl ?_
  refine r_iincE hC (2) dX6_bits_17 rfl rfl (by omega) (by unfold inR; omega) ?_
  show K _ [_, _, _] _ _
  refine r_goto (tgt := 4) hC dX6_bits_20 rfl ?_
  refine r_iload_n hC dX6_bits_4 rfl ?_
  refine r_iconst hC dX6_bits_5 rfl ?_
  refine r_icmp_ge (tgt := 23) hC dX6_bits_6 rfl (fun h7 => by omega) (fun h7 => ?_)
  refine r_iload_n hC dX6_bits_9 rfl ?_
  refine r_iload_n hC dX6_bits_10 rfl ?_
  refine r_iload_n hC dX6_bits_11 rfl ?_
  refine r_ishr hC dX6_bits_12 ?_
  rw [show ishr (3) (2) = (0 : Int) from by decide +kernel]
  refine r_iconst hC dX6_bits_13 rfl ?_
  refine r_iand hC dX6_bits_14 ?_
  rw [show iand (0) (1) = (0 : Int) from by decide +kernel]
  refine r_iaddE hC (2) dX6_bits_15 (by omega) (by unfold inR; omega) ?_
  refine r_istore_n hC dX6_bits_16 rfl ?_
  refine r_iincE hC (3) dX6_bits_17 rfl rfl (by omega) (by unfold inR; omega) ?_
  refine r_goto (tgt := 4) hC dX6_bits_20 rfl ?_
  refine r_iload_n hC dX6_bits_4 rfl ?_
  refine r_iconst hC dX6_bits_5 rfl ?_
  refine r_icmp_ge (tgt := 23) hC dX6_bits_6 rfl (fun h10 => by omega) (fun h10 => ?_)
  refine r_iload_n hC dX6_bits_9 rfl ?_
  refine r_iload_n hC dX6_bits_10 rfl ?_
  refine r_iload_n hC dX6_bits_11 rfl ?_
  refine r_ishr hC dX6_bits_12 ?_
  rw [show ishr (3) (3) = (0 : Int) from by decide +kernel]
  refine r_iconst hC dX6_bits_13 rfl ?_
  refine r_iand hC dX6_bits_14 ?_
  rw [show iand (0) (1) = (0 : Int) from by decide +kernel]
  refine r_iaddE hC (2) dX6_bits_15 (by omega) (by unfold inR; omega) ?_
  refine r_istore_n hC dX6_bits_16 rfl ?_
  show K _ [_, _, _] _ _
  refine r_iincE hC (4) dX6_bits_17 rfl rfl (by omega) (by unfold inR; omega) ?_
  refine r_goto (tgt := 4) hC dX6_bits_20 rfl ?_
  refine r_iload_n hC dX6_bits_4 rfl ?_
  refine r_iconst hC dX6_bits_5 rfl ?_
  refine r_icmp_ge (tgt := 23) hC dX6_bits_6 rfl (fun h13 => ?_) (fun h13 => by omega)
  refine r_iload_n hC dX6_bits_23 rfl ?_
  refine y_iret hK rfl dX6_bits_24 ?_
  exact k
theorem y_bits4 {e : Ev} {d : Nat} {P : Option Vl → Mm → Prop} {σ : Mm}   (k : P (some (vI 1)) σ) : WT e (d + 1) 166 [vI 4] σ P := by
  refine WT_in fun K hK => ?_
  have hK : StpY e cX6_bits RX6 (some .int) (WT e (d + 0)) P K := hK
  have hM := hK.1
  have hC := hK.1.1
  show K 0 [some (vI 4), none, none] [] σ
  refine r_iconst hC dX6_bits_0 rfl ?_
  refine r_istore_n hC dX6_bits_1 rfl ?_
  refine r_iconst hC dX6_bits_2 rfl ?_
  refine r_istore_n hC dX6_bits_3 rfl ?_
  refine r_iload_n hC dX6_bits_4 rfl ?_
  refine r_iconst hC dX6_bits_5 rfl ?_
  refine r_icmp_ge (tgt := 23) hC dX6_bits_6 rfl (fun h1 => by omega) (fun h1 => ?_)
  refine r_iload_n hC dX6_bits_9 rfl ?_
  refine r_iload_n hC dX6_bits_10 rfl ?_
  refine r_iload_n hC dX6_bits_11 rfl ?_
  refine r_ishr hC dX6_bits_12 ?_
  rw [show ishr (4) (0) = (4 : Int) from by decide +kernel]
  refine r_iconst hC dX6_bits_13 rfl ?_
  refine r_iand hC dX6_bits_14 ?_
  rw [show iand (4) (1) = (0 : Int) from by decide +kernel]
  refine r_iaddE hC (0) dX6_bits_15 (by omega) (by unfold inR; omega) ?_
  refine r_istore_n hC dX6_bits_16 rfl ?_
  show K _ [_, _, _] _ _
  refine r_iincE hC (1) dX6_bits_17 rfl rfl (by omega) (by unfold inR; omega) ?_
  refine r_goto (tgt := 4) hC dX6_bits_20 rfl ?_
  refine r_iload_n hC dX6_bits_4 rfl ?_
  refine r_iconst hC dX6_bits_5 rfl ?_
  refine r_icmp_ge (tgt := 23) hC dX6_bits_6 rfl (fun h4 => by omega) (fun h4 => ?_)
  refine r_iload_n hC dX6_bits_9 rfl ?_
  refine r_iload_n hC dX6_bits_10 rfl ?_
  refine r_iload_n hC dX6_bits_11 rfl ?_
  refine r_ishr hC dX6_bits_12 ?_
  rw [show ishr (4) (1) = (2 : Int) from by decide +kernel]
  refine r_iconst hC dX6_bits_13 rfl ?_
  refine r_iand hC dX6_bits_14 ?_
  rw [show iand (2) (1) = (0 : Int) from by decide +kernel]
  refine r_iaddE hC (0) dX6_bits_15 (by omega) (by unfold inR; omega) ?_
  refine r_istore_n hC dX6_bits_16 rfl ?_
  refine r_iincE hC (2) dX6_bits_17 rfl rfl (by omega) (by unfold inR; omega) ?_
  show K _ [_, _, _] _ _
  refine r_goto (tgt := 4) hC dX6_bits_20 rfl ?_
  refine r_iload_n hC dX6_bits_4 rfl ?_
  refine r_iconst hC dX6_bits_5 rfl ?_
  refine r_icmp_ge (tgt := 23) hC dX6_bits_6 rfl (fun h7 => by omega) (fun h7 => ?_)
  refine r_iload_n hC dX6_bits_9 rfl ?_
  refine r_iload_n hC dX6_bits_10 rfl ?_
  refine r_iload_n hC dX6_bits_11 rfl ?_
  refine r_ishr hC dX6_bits_12 ?_
  rw [show ishr (4) (2) = (1 : Int) from by decide +kernel]
  refine r_iconst hC dX6_bits_13 rfl ?_
  refine r_iand hC dX6_bits_14 ?_
  rw [show iand (1) (1) = (1 : Int) from by decide +kernel]
  refine r_iaddE hC (1) dX6_bits_15 (by omega) (by unfold inR; omega) ?_
  refine r_istore_n hC dX6_bits_16 rfl ?_
  refine r_iincE hC (3) dX6_bits_17 rfl rfl (by omega) (by unfold inR; omega) ?_
  refine r_goto (tgt := 4) hC dX6_bits_20 rfl ?_
  refine r_iload_n hC dX6_bits_4 rfl ?_
  refine r_iconst hC dX6_bits_5 rfl ?_
  refine r_icmp_ge (tgt := 23) hC dX6_bits_6 rfl (fun h10 => by omega) (fun h10 => ?_)
  refine r_iload_n hC dX6_bits_9 rfl ?_
  refine r_iload_n hC dX6_bits_10 rfl ?_
  refine r_iload_n hC dX6_bits_11 rfl ?_
  refine r_ishr hC dX6_bits_12 ?_
  rw [show ishr (4) (3) = (0 : Int) from by decide +kernel]
  refine r_iconst hC dX6_bits_13 rfl ?_
  refine r_iand hC dX6_bits_14 ?_
  rw [show iand (0) (1) = (0 : Int) from by decide +kernel]
  refine r_iaddE hC (1) dX6_bits_15 (by omega) (by unfold inR; omega) ?_
  refine r_istore_n hC dX6_bits_16 rfl ?_
  show K _ [_, _, _] _ _
  refine r_iincE hC (4) dX6_bits_17 rfl rfl (by omega) (by unfold inR; omega) ?_
  refine r_goto (tgt := 4) hC dX6_bits_20 rfl ?_
  refine r_iload_n hC dX6_bits_4 rfl ?_
  refine r_iconst hC dX6_bits_5 rfl ?_
  refine r_icmp_ge (tgt := 23) hC dX6_bits_6 rfl (fun h13 => ?_) (fun h13 => by omega)
  refine r_iload_n hC dX6_bits_23 rfl ?_
  refine y_iret hK rfl dX6_bits_24 ?_
  exact k
theorem y_bits5 {e : Ev} {d : Nat} {P : Option Vl → Mm → Prop} {σ : Mm}   (k : P (some (vI 2)) σ) : WT e (d + 1) 166 [vI 5] σ P := by
  refine WT_in fun K hK => ?_
  have hK : StpY e cX6_bits RX6 (some .int) (WT e (d + 0)) P K := hK
  have hM := hK.1
  have hC := hK.1.1
  show K 0 [some (vI 5), none, none] [] σ
  refine r_iconst hC dX6_bits_0 rfl ?_
  refine r_istore_n hC dX6_bits_1 rfl ?_
  refine r_iconst hC dX6_bits_2 rfl ?_
  refine r_istore_n hC dX6_bits_3 rfl ?_
  refine r_iload_n hC dX6_bits_4 rfl ?_
  refine r_iconst hC dX6_bits_5 rfl ?_
  refine r_icmp_ge (tgt := 23) hC dX6_bits_6 rfl (fun h1 => by omega) (fun h1 => ?_)
  refine r_iload_n hC dX6_bits_9 rfl ?_
  refine r_iload_n hC dX6_bits_10 rfl ?_
  refine r_iload_n hC dX6_bits_11 rfl ?_
  refine r_ishr hC dX6_bits_12 ?_
  rw [show ishr (5) (0) = (5 : Int) from by decide +kernel]
  refine r_iconst hC dX6_bits_13 rfl ?_
  refine r_iand hC dX6_bits_14 ?_
  rw [show iand (5) (1) = (1 : Int) from by decide +kernel]
  refine r_iaddE hC (1) dX6_bits_15 (by omega) (by unfold inR; omega) ?_
  refine r_istore_n hC dX6_bits_16 rfl ?_
  show K _ [_, _, _] _ _
  refine r_iincE hC (1) dX6_bits_17 rfl rfl (by omega) (by unfold inR; omega) ?_
  refine r_goto (tgt := 4) hC dX6_bits_20 rfl ?_
  refine r_iload_n hC dX6_bits_4 rfl ?_
  refine r_iconst hC dX6_bits_5 rfl ?_
  refine r_icmp_ge (tgt := 23) hC dX6_bits_6 rfl (fun h4 => by omega) (fun h4 => ?_)
  refine r_iload_n hC dX6_bits_9 rfl ?_
  refine r_iload_n hC dX6_bits_10 rfl ?_
  refine r_iload_n hC dX6_bits_11 rfl ?_
  refine r_ishr hC dX6_bits_12 ?_
  rw [show ishr (5) (1) = (2 : Int) from by decide +kernel]
  refine r_iconst hC dX6_bits_13 rfl ?_
  refine r_iand hC dX6_bits_14 ?_
  rw [show iand (2) (1) = (0 : Int) from by decide +kernel]
  refine r_iaddE hC (1) dX6_bits_15 (by omega) (by unfold inR; omega) ?_
  refine r_istore_n hC dX6_bits_16 rfl ?_
  refine r_iincE hC (2) dX6_bits_17 rfl rfl (by omega) (by unfold inR; omega) ?_
  show K _ [_, _, _] _ _
  refine r_goto (tgt := 4) hC dX6_bits_20 rfl ?_
  refine r_iload_n hC dX6_bits_4 rfl ?_
  refine r_iconst hC dX6_bits_5 rfl ?_
  refine r_icmp_ge (tgt := 23) hC dX6_bits_6 rfl (fun h7 => by omega) (fun h7 => ?_)
  refine r_iload_n hC dX6_bits_9 rfl ?_
  refine r_iload_n hC dX6_bits_10 rfl ?_
  refine r_iload_n hC dX6_bits_11 rfl ?_
  refine r_ishr hC dX6_bits_12 ?_
  rw [show ishr (5) (2) = (1 : Int) from by decide +kernel]
  refine r_iconst hC dX6_bits_13 rfl ?_
  refine r_iand hC dX6_bits_14 ?_
  rw [show iand (1) (1) = (1 : Int) from by decide +kernel]
  refine r_iaddE hC (2) dX6_bits_15 (by omega) (by unfold inR; omega) ?_
  refine r_istore_n hC dX6_bits_16 rfl ?_
  refine r_iincE hC (3) dX6_bits_17 rfl rfl (by omega) (by unfold inR; omega) ?_
  refine r_goto (tgt := 4) hC dX6_bits_20 rfl ?_
  refine r_iload_n hC dX6_bits_4 rfl ?_
  refine r_iconst hC dX6_bits_5 rfl ?_
  refine r_icmp_ge (tgt := 23) hC dX6_bits_6 rfl (fun h10 => by omega) (fun h10 => ?_)
  refine r_iload_n hC dX6_bits_9 rfl ?_
  refine r_iload_n hC dX6_bits_10 rfl ?_
  refine r_iload_n hC dX6_bits_11 rfl ?_
  refine r_ishr hC dX6_bits_12 ?_
  rw [show ishr (5) (3) = (0 : Int) from by decide +kernel]
  refine r_iconst hC dX6_bits_13 rfl ?_
  refine r_iand hC dX6_bits_14 ?_
  rw [show iand (0) (1) = (0 : Int) from by decide +kernel]
  refine r_iaddE hC (2) dX6_bits_15 (by omega) (by unfold inR; omega) ?_
  refine r_istore_n hC dX6_bits_16 rfl ?_
  show K _ [_, _, _] _ _
  refine r_iincE hC (4) dX6_bits_17 rfl rfl (by omega) (by unfold inR; omega) ?_
  refine r_goto (tgt := 4) hC dX6_bits_20 rfl ?_
  refine r_iload_n hC dX6_bits_4 rfl ?_
  refine r_iconst hC dX6_bits_5 rfl ?_
  refine r_icmp_ge (tgt := 23) hC dX6_bits_6 rfl (fun h13 => ?_) (fun h13 => by omega)
  refine r_iload_n hC dX6_bits_23 rfl ?_
  refine y_iret hK rfl dX6_bits_24 ?_
  exact k
theorem y_bits6 {e : Ev} {d : Nat} {P : Option Vl → Mm → Prop} {σ : Mm}   (k : P (some (vI 2)) σ) : WT e (d + 1) 166 [vI 6] σ P := by
  refine WT_in fun K hK => ?_
  have hK : StpY e cX6_bits RX6 (some .int) (WT e (d + 0)) P K := hK
  have hM := hK.1
  have hC := hK.1.1
  show K 0 [some (vI 6), none, none] [] σ
  refine r_iconst hC dX6_bits_0 rfl ?_
  refine r_istore_n hC dX6_bits_1 rfl ?_
  refine r_iconst hC dX6_bits_2 rfl ?_
  refine r_istore_n hC dX6_bits_3 rfl ?_
  refine r_iload_n hC dX6_bits_4 rfl ?_
  refine r_iconst hC dX6_bits_5 rfl ?_
  refine r_icmp_ge (tgt := 23) hC dX6_bits_6 rfl (fun h1 => by omega) (fun h1 => ?_)
  refine r_iload_n hC dX6_bits_9 rfl ?_
  refine r_iload_n hC dX6_bits_10 rfl ?_
  refine r_iload_n hC dX6_bits_11 rfl ?_
  refine r_ishr hC dX6_bits_12 ?_
  rw [show ishr (6) (0) = (6 : Int) from by decide +kernel]
  refine r_iconst hC dX6_bits_13 rfl ?_
  refine r_iand hC dX6_bits_14 ?_
  rw [show iand (6) (1) = (0 : Int) from by decide +kernel]
  refine r_iaddE hC (0) dX6_bits_15 (by omega) (by unfold inR; omega) ?_
  refine r_istore_n hC dX6_bits_16 rfl ?_
  show K _ [_, _, _] _ _
  refine r_iincE hC (1) dX6_bits_17 rfl rfl (by omega) (by unfold inR; omega) ?_
  refine r_goto (tgt := 4) hC dX6_bits_20 rfl ?_
  refine r_iload_n hC dX6_bits_4 rfl ?_
  refine r_iconst hC dX6_bits_5 rfl ?_
  refine r_icmp_ge (tgt := 23) hC dX6_bits_6 rfl (fun h4 => by omega) (fun h4 => ?_)
  refine r_iload_n hC dX6_bits_9 rfl ?_
  refine r_iload_n hC dX6_bits_10 rfl ?_
  refine r_iload_n hC dX6_bits_11 rfl ?_
  refine r_ishr hC dX6_bits_12 ?_
  rw [show ishr (6) (1) = (3 : Int) from by decide +kernel]
  refine r_iconst hC dX6_bits_13 rfl ?_
  refine r_iand hC dX6_bits_14 ?_
  rw [show iand (3) (1) = (1 : Int) from by decide +kernel]
  refine r_iaddE hC (1) dX6_bits_15 (by omega) (by unfold inR; omega) ?_
  refine r_istore_n hC dX6_bits_16 rfl ?_
  refine r_iincE hC (2) dX6_bits_17 rfl rfl (by omega) (by unfold inR; omega) ?_
  show K _ [_, _, _] _ _
  refine r_goto (tgt := 4) hC dX6_bits_20 rfl ?_
  refine r_iload_n hC dX6_bits_4 rfl ?_
  refine r_iconst hC dX6_bits_5 rfl ?_
  refine r_icmp_ge (tgt := 23) hC dX6_bits_6 rfl (fun h7 => by omega) (fun h7 => ?_)
  refine r_iload_n hC dX6_bits_9 rfl ?_
  refine r_iload_n hC dX6_bits_10 rfl ?_
  refine r_iload_n hC dX6_bits_11 rfl ?_
  refine r_ishr hC dX6_bits_12 ?_
  rw [show ishr (6) (2) = (1 : Int) from by decide +kernel]
  refine r_iconst hC dX6_bits_13 rfl ?_
  refine r_iand hC dX6_bits_14 ?_
  rw [show iand (1) (1) = (1 : Int) from by decide +kernel]
  refine r_iaddE hC (2) dX6_bits_15 (by omega) (by unfold inR; omega) ?_
  refine r_istore_n hC dX6_bits_16 rfl ?_
  refine r_iincE hC (3) dX6_bits_17 rfl rfl (by omega) (by unfold inR; omega) ?_
  refine r_goto (tgt := 4) hC dX6_bits_20 rfl ?_
  refine r_iload_n hC dX6_bits_4 rfl ?_
  refine r_iconst hC dX6_bits_5 rfl ?_
  refine r_icmp_ge (tgt := 23) hC dX6_bits_6 rfl (fun h10 => by omega) (fun h10 => ?_)
  refine r_iload_n hC dX6_bits_9 rfl ?_
  refine r_iload_n hC dX6_bits_10 rfl ?_
  refine r_iload_n hC dX6_bits_11 rfl ?_
  refine r_ishr hC dX6_bits_12 ?_
  rw [show ishr (6) (3) = (0 : Int) from by decide +kernel]
  refine r_iconst hC dX6_bits_13 rfl ?_
  refine r_iand hC dX6_bits_14 ?_
  rw [show iand (0) (1) = (0 : Int) from by decide +kernel]
  refine r_iaddE hC (2) dX6_bits_15 (by omega) (by unfold inR; omega) ?_
  refine r_istore_n hC dX6_bits_16 rfl ?_
  show K _ [_, _, _] _ _
  refine r_iincE hC (4) dX6_bits_17 rfl rfl (by omega) (by unfold inR; omega) ?_
  refine r_goto (tgt := 4) hC dX6_bits_20 rfl ?_
  refine r_iload_n hC dX6_bits_4 rfl ?_
  refine r_iconst hC dX6_bits_5 rfl ?_
  refine r_icmp_ge (tgt := 23) hC dX6_bits_6 rfl (fun h13 => ?_) (fun h13 => by omega)
  refine r_iload_n hC dX6_bits_23 rfl ?_
  refine y_iret hK rfl dX6_bits_24 ?_
  exact k
theorem y_bits7 {e : Ev} {d : Nat} {P : Option Vl → Mm → Prop} {σ : Mm}   (k : P (some (vI 3)) σ) : WT e (d + 1) 166 [vI 7] σ P := by
  refine WT_in fun K hK => ?_
  have hK : StpY e cX6_bits RX6 (some .int) (WT e (d + 0)) P K := hK
  have hM := hK.1
  have hC := hK.1.1
  show K 0 [some (vI 7), none, none] [] σ
  refine r_iconst hC dX6_bits_0 rfl ?_
  refine r_istore_n hC dX6_bits_1 rfl ?_
  refine r_iconst hC dX6_bits_2 rfl ?_
  refine r_istore_n hC dX6_bits_3 rfl ?_
  refine r_iload_n hC dX6_bits_4 rfl ?_
  refine r_iconst hC dX6_bits_5 rfl ?_
  refine r_icmp_ge (tgt := 23) hC dX6_bits_6 rfl (fun h1 => by omega) (fun h1 => ?_)
  refine r_iload_n hC dX6_bits_9 rfl ?_
  refine r_iload_n hC dX6_bits_10 rfl ?_
  refine r_iload_n hC dX6_bits_11 rfl ?_
  refine r_ishr hC dX6_bits_12 ?_
  rw [show ishr (7) (0) = (7 : Int) from by decide +kernel]
  refine r_iconst hC dX6_bits_13 rfl ?_
  refine r_iand hC dX6_bits_14 ?_
  rw [show iand (7) (1) = (1 : Int) from by decide +kernel]
  refine r_iaddE hC (1) dX6_bits_15 (by omega) (by unfold inR; omega) ?_
  refine r_istore_n hC dX6_bits_16 rfl ?_
  show K _ [_, _, _] _ _
  refine r_iincE hC (1) dX6_bits_17 rfl rfl (by omega) (by unfold inR; omega) ?_
  refine r_goto (tgt := 4) hC dX6_bits_20 rfl ?_
  refine r_iload_n hC dX6_bits_4 rfl ?_
  refine r_iconst hC dX6_bits_5 rfl ?_
  refine r_icmp_ge (tgt := 23) hC dX6_bits_6 rfl (fun h4 => by omega) (fun h4 => ?_)
  refine r_iload_n hC dX6_bits_9 rfl ?_
  refine r_iload_n hC dX6_bits_10 rfl ?_
  refine r_iload_n hC dX6_bits_11 rfl ?_
  refine r_ishr hC dX6_bits_12 ?_
  rw [show ishr (7) (1) = (3 : Int) from by decide +kernel]
  refine r_iconst hC dX6_bits_13 rfl ?_
  refine r_iand hC dX6_bits_14 ?_
  rw [show iand (3) (1) = (1 : Int) from by decide +kernel]
  refine r_iaddE hC (2) dX6_bits_15 (by omega) (by unfold inR; omega) ?_
  refine r_istore_n hC dX6_bits_16 rfl ?_
  refine r_iincE hC (2) dX6_bits_17 rfl rfl (by omega) (by unfold inR; omega) ?_
  show K _ [_, _, _] _ _
  refine r_goto (tgt := 4) hC dX6_bits_20 rfl ?_
  refine r_iload_n hC dX6_bits_4 rfl ?_
  refine r_iconst hC dX6_bits_5 rfl ?_
  refine r_icmp_ge (tgt := 23) hC dX6_bits_6 rfl (fun h7 => by omega) (fun h7 => ?_)
  refine r_iload_n hC dX6_bits_9 rfl ?_
  refine r_iload_n hC dX6_bits_10 rfl ?_
  refine r_iload_n hC dX6_bits_11 rfl ?_
  refine r_ishr hC dX6_bits_12 ?_
  rw [show ishr (7) (2) = (1 : Int) from by decide +kernel]
  refine r_iconst hC dX6_bits_13 rfl ?_
  refine r_iand hC dX6_bits_14 ?_
  rw [show iand (1) (1) = (1 : Int) from by decide +kernel]
  refine r_iaddE hC (3) dX6_bits_15 (by omega) (by unfold inR; omega) ?_
  refine r_istore_n hC dX6_bits_16 rfl ?_
  refine r_iincE hC (3) dX6_bits_17 rfl rfl (by omega) (by unfold inR; omega) ?_
  refine r_goto (tgt := 4) hC dX6_bits_20 rfl ?_
  refine r_iload_n hC dX6_bits_4 rfl ?_
  refine r_iconst hC dX6_bits_5 rfl ?_
  refine r_icmp_ge (tgt := 23) hC dX6_bits_6 rfl (fun h10 => by omega) (fun h10 => ?_)
  refine r_iload_n hC dX6_bits_9 rfl ?_
  refine r_iload_n hC dX6_bits_10 rfl ?_
  refine r_iload_n hC dX6_bits_11 rfl ?_
  refine r_ishr hC dX6_bits_12 ?_
  rw [show ishr (7) (3) = (0 : Int) from by decide +kernel]
  refine r_iconst hC dX6_bits_13 rfl ?_
  refine r_iand hC dX6_bits_14 ?_
  rw [show iand (0) (1) = (0 : Int) from by decide +kernel]
  refine r_iaddE hC (3) dX6_bits_15 (by omega) (by unfold inR; omega) ?_
  refine r_istore_n hC dX6_bits_16 rfl ?_
  show K _ [_, _, _] _ _
  refine r_iincE hC (4) dX6_bits_17 rfl rfl (by omega) (by unfold inR; omega) ?_
  refine r_goto (tgt := 4) hC dX6_bits_20 rfl ?_
  refine r_iload_n hC dX6_bits_4 rfl ?_
  refine r_iconst hC dX6_bits_5 rfl ?_
  refine r_icmp_ge (tgt := 23) hC dX6_bits_6 rfl (fun h13 => ?_) (fun h13 => by omega)
  refine r_iload_n hC dX6_bits_23 rfl ?_
  refine y_iret hK rfl dX6_bits_24 ?_
  exact k
theorem y_bits8 {e : Ev} {d : Nat} {P : Option Vl → Mm → Prop} {σ : Mm}   (k : P (some (vI 1)) σ) : WT e (d + 1) 166 [vI 8] σ P := by
  refine WT_in fun K hK => ?_
  have hK : StpY e cX6_bits RX6 (some .int) (WT e (d + 0)) P K := hK
  have hM := hK.1
  have hC := hK.1.1
  show K 0 [some (vI 8), none, none] [] σ
  refine r_iconst hC dX6_bits_0 rfl ?_
  refine r_istore_n hC dX6_bits_1 rfl ?_
  refine r_iconst hC dX6_bits_2 rfl ?_
  refine r_istore_n hC dX6_bits_3 rfl ?_
  refine r_iload_n hC dX6_bits_4 rfl ?_
  refine r_iconst hC dX6_bits_5 rfl ?_
  refine r_icmp_ge (tgt := 23) hC dX6_bits_6 rfl (fun h1 => by omega) (fun h1 => ?_)
  refine r_iload_n hC dX6_bits_9 rfl ?_
  refine r_iload_n hC dX6_bits_10 rfl ?_
  refine r_iload_n hC dX6_bits_11 rfl ?_
  refine r_ishr hC dX6_bits_12 ?_
  rw [show ishr (8) (0) = (8 : Int) from by decide +kernel]
  refine r_iconst hC dX6_bits_13 rfl ?_
  refine r_iand hC dX6_bits_14 ?_
  rw [show iand (8) (1) = (0 : Int) from by decide +kernel]
  refine r_iaddE hC (0) dX6_bits_15 (by omega) (by unfold inR; omega) ?_
  refine r_istore_n hC dX6_bits_16 rfl ?_
  show K _ [_, _, _] _ _
  refine r_iincE hC (1) dX6_bits_17 rfl rfl (by omega) (by unfold inR; omega) ?_
  refine r_goto (tgt := 4) hC dX6_bits_20 rfl ?_
  refine r_iload_n hC dX6_bits_4 rfl ?_
  refine r_iconst hC dX6_bits_5 rfl ?_
  refine r_icmp_ge (tgt := 23) hC dX6_bits_6 rfl (fun h4 => by omega) (fun h4 => ?_)
  refine r_iload_n hC dX6_bits_9 rfl ?_
  refine r_iload_n hC dX6_bits_10 rfl ?_
  refine r_iload_n hC dX6_bits_11 rfl ?_
  refine r_ishr hC dX6_bits_12 ?_
  rw [show ishr (8) (1) = (4 : Int) from by decide +kernel]
  refine r_iconst hC dX6_bits_13 rfl ?_
  refine r_iand hC dX6_bits_14 ?_
  rw [show iand (4) (1) = (0 : Int) from by decide +kernel]
  refine r_iaddE hC (0) dX6_bits_15 (by omega) (by unfold inR; omega) ?_
  refine r_istore_n hC dX6_bits_16 rfl ?_
  refine r_iincE hC (2) dX6_bits_17 rfl rfl (by omega) (by unfold inR; omega) ?_
  show K _ [_, _, _] _ _
  refine r_goto (tgt := 4) hC dX6_bits_20 rfl ?_
  refine r_iload_n hC dX6_bits_4 rfl ?_
  refine r_iconst hC dX6_bits_5 rfl ?_
  refine r_icmp_ge (tgt := 23) hC dX6_bits_6 rfl (fun h7 => by omega) (fun h7 => ?_)
  refine r_iload_n hC dX6_bits_9 rfl ?_
  refine r_iload_n hC dX6_bits_10 rfl ?_
  refine r_iload_n hC dX6_bits_11 rfl ?_
  refine r_ishr hC dX6_bits_12 ?_
  rw [show ishr (8) (2) = (2 : Int) from by decide +kernel]
  refine r_iconst hC dX6_bits_13 rfl ?_
  refine r_iand hC dX6_bits_14 ?_
  rw [show iand (2) (1) = (0 : Int) from by decide +kernel]
  refine r_iaddE hC (0) dX6_bits_15 (by omega) (by unfold inR; omega) ?_
  refine r_istore_n hC dX6_bits_16 rfl ?_
  refine r_iincE hC (3) dX6_bits_17 rfl rfl (by omega) (by unfold inR; omega) ?_
  refine r_goto (tgt := 4) hC dX6_bits_20 rfl ?_
  refine r_iload_n hC dX6_bits_4 rfl ?_
  refine r_iconst hC dX6_bits_5 rfl ?_
  refine r_icmp_ge (tgt := 23) hC dX6_bits_6 rfl (fun h10 => by omega) (fun h10 => ?_)
  refine r_iload_n hC dX6_bits_9 rfl ?_
  refine r_iload_n hC dX6_bits_10 rfl ?_
  refine r_iload_n hC dX6_bits_11 rfl ?_
  refine r_ishr hC dX6_bits_12 ?_
  rw [show ishr (8) (3) = (1 : Int) from by decide +kernel]
  refine r_iconst hC dX6_bits_13 rfl ?_
  refine r_iand hC dX6_bits_14 ?_
  rw [show iand (1) (1) = (1 : Int) from by decide +kernel]
  refine r_iaddE hC (1) dX6_bits_15 (by omega) (by unfold inR; omega) ?_
  refine r_istore_n hC dX6_bits_16 rfl ?_
  show K _ [_, _, _] _ _
  refine r_iincE hC (4) dX6_bits_17 rfl rfl (by omega) (by unfold inR; omega) ?_
  refine r_goto (tgt := 4) hC dX6_bits_20 rfl ?_
  refine r_iload_n hC dX6_bits_4 rfl ?_
  refine r_iconst hC dX6_bits_5 rfl ?_
  refine r_icmp_ge (tgt := 23) hC dX6_bits_6 rfl (fun h13 => ?_) (fun h13 => by omega)
  refine r_iload_n hC dX6_bits_23 rfl ?_
  refine y_iret hK rfl dX6_bits_24 ?_
  exact k
theorem y_bits9 {e : Ev} {d : Nat} {P : Option Vl → Mm → Prop} {σ : Mm}   (k : P (some (vI 2)) σ) : WT e (d + 1) 166 [vI 9] σ P := by
  refine WT_in fun K hK => ?_
  have hK : StpY e cX6_bits RX6 (some .int) (WT e (d + 0)) P K := hK
  have hM := hK.1
  have hC := hK.1.1
  show K 0 [some (vI 9), none, none] [] σ
  refine r_iconst hC dX6_bits_0 rfl ?_
  refine r_istore_n hC dX6_bits_1 rfl ?_
  refine r_iconst hC dX6_bits_2 rfl ?_
  refine r_istore_n hC dX6_bits_3 rfl ?_
  refine r_iload_n hC dX6_bits_4 rfl ?_
  refine r_iconst hC dX6_bits_5 rfl ?_
  refine r_icmp_ge (tgt := 23) hC dX6_bits_6 rfl (fun h1 => by omega) (fun h1 => ?_)
  refine r_iload_n hC dX6_bits_9 rfl ?_
  refine r_iload_n hC dX6_bits_10 rfl ?_
  refine r_iload_n hC dX6_bits_11 rfl ?_
  refine r_ishr hC dX6_bits_12 ?_
  rw [show ishr (9) (0) = (9 : Int) from by decide +kernel]
  refine r_iconst hC dX6_bits_13 rfl ?_
  refine r_iand hC dX6_bits_14 ?_
  rw [show iand (9) (1) = (1 : Int) from by decide +kernel]
  refine r_iaddE hC (1) dX6_bits_15 (by omega) (by unfold inR; omega) ?_
  refine r_istore_n hC dX6_bits_16 rfl ?_
  show K _ [_, _, _] _ _
  refine r_iincE hC (1) dX6_bits_17 rfl rfl (by omega) (by unfold inR; omega) ?_
  refine r_goto (tgt := 4) hC dX6_bits_20 rfl ?_
  refine r_iload_n hC dX6_bits_4 rfl ?_
  refine r_iconst hC dX6_bits_5 rfl ?_
  refine r_icmp_ge (tgt := 23) hC dX6_bits_6 rfl (fun h4 => by omega) (fun h4 => ?_)
  refine r_iload_n hC dX6_bits_9 rfl ?_
  refine r_iload_n hC dX6_bits_10 rfl ?_
  refine r_iload_n hC dX6_bits_11 rfl ?_
  refine r_ishr hC dX6_bits_12 ?_
  rw [show ishr (9) (1) = (4 : Int) from by decide +kernel]
  refine r_iconst hC dX6_bits_13 rfl ?_
  refine r_iand hC dX6_bits_14 ?_
  rw [show iand (4) (1) = (0 : Int) from by decide +kernel]
  refine r_iaddE hC (1) dX6_bits_15 (by omega) (by unfold inR; omega) ?_
  refine r_istore_n hC dX6_bits_16 rfl ?_
  refine r_iincE hC (2) dX6_bits_17 rfl rfl (by omega) (by unfold inR; omega) ?_
  show K _ [_, _, _] _ _
  refine r_goto (tgt := 4) hC dX6_bits_20 rfl ?_
  refine r_iload_n hC dX6_bits_4 rfl ?_
  refine r_iconst hC dX6_bits_5 rfl ?_
  refine r_icmp_ge (tgt := 23) hC dX6_bits_6 rfl (fun h7 => by omega) (fun h7 => ?_)
  refine r_iload_n hC dX6_bits_9 rfl ?_
  refine r_iload_n hC dX6_bits_10 rfl ?_
  refine r_iload_n hC dX6_bits_11 rfl ?_
  refine r_ishr hC dX6_bits_12 ?_
  rw [show ishr (9) (2) = (2 : Int) from by decide +kernel]
  refine r_iconst hC dX6_bits_13 rfl ?_
  refine r_iand hC dX6_bits_14 ?_
  rw [show iand (2) (1) = (0 : Int) from by decide +kernel]
  refine r_iaddE hC (1) dX6_bits_15 (by omega) (by unfold inR; omega) ?_
  refine r_istore_n hC dX6_bits_16 rfl ?_
  refine r_iincE hC (3) dX6_bits_17 rfl rfl (by omega) (by unfold inR; omega) ?_
  refine r_goto (tgt := 4) hC dX6_bits_20 rfl ?_
  refine r_iload_n hC dX6_bits_4 rfl ?_
  refine r_iconst hC dX6_bits_5 rfl ?_
  refine r_icmp_ge (tgt := 23) hC dX6_bits_6 rfl (fun h10 => by omega) (fun h10 => ?_)
  refine r_iload_n hC dX6_bits_9 rfl ?_
  refine r_iload_n hC dX6_bits_10 rfl ?_
  refine r_iload_n hC dX6_bits_11 rfl ?_
  refine r_ishr hC dX6_bits_12 ?_
  rw [show ishr (9) (3) = (1 : Int) from by decide +kernel]
  refine r_iconst hC dX6_bits_13 rfl ?_
  refine r_iand hC dX6_bits_14 ?_
  rw [show iand (1) (1) = (1 : Int) from by decide +kernel]
  refine r_iaddE hC (2) dX6_bits_15 (by omega) (by unfold inR; omega) ?_
  refine r_istore_n hC dX6_bits_16 rfl ?_
  show K _ [_, _, _] _ _
  refine r_iincE hC (4) dX6_bits_17 rfl rfl (by omega) (by unfold inR; omega) ?_
  refine r_goto (tgt := 4) hC dX6_bits_20 rfl ?_
  refine r_iload_n hC dX6_bits_4 rfl ?_
  refine r_iconst hC dX6_bits_5 rfl ?_
  refine r_icmp_ge (tgt := 23) hC dX6_bits_6 rfl (fun h13 => ?_) (fun h13 => by omega)
  refine r_iload_n hC dX6_bits_23 rfl ?_
  refine y_iret hK rfl dX6_bits_24 ?_
  exact k
theorem y_bits10 {e : Ev} {d : Nat} {P : Option Vl → Mm → Prop} {σ : Mm}   (k : P (some (vI 2)) σ) : WT e (d + 1) 166 [vI 10] σ P := by
  refine WT_in fun K hK => ?_
  have hK : StpY e cX6_bits RX6 (some .int) (WT e (d + 0)) P K := hK
  have hM := hK.1
  have hC := hK.1.1
  show K 0 [some (vI 10), none, none] [] σ
  refine r_iconst hC dX6_bits_0 rfl ?_
  refine r_istore_n hC dX6_bits_1 rfl ?_
  refine r_iconst hC dX6_bits_2 rfl ?_
  refine r_istore_n hC dX6_bits_3 rfl ?_
  refine r_iload_n hC dX6_bits_4 rfl ?_
  refine r_iconst hC dX6_bits_5 rfl ?_
  refine r_icmp_ge (tgt := 23) hC dX6_bits_6 rfl (fun h1 => by omega) (fun h1 => ?_)
  refine r_iload_n hC dX6_bits_9 rfl ?_
  refine r_iload_n hC dX6_bits_10 rfl ?_
  refine r_iload_n hC dX6_bits_11 rfl ?_
  refine r_ishr hC dX6_bits_12 ?_
  rw [show ishr (10) (0) = (10 : Int) from by decide +kernel]
  refine r_iconst hC dX6_bits_13 rfl ?_
  refine r_iand hC dX6_bits_14 ?_
  rw [show iand (10) (1) = (0 : Int) from by decide +kernel]
  refine r_iaddE hC (0) dX6_bits_15 (by omega) (by unfold inR; omega) ?_
  refine r_istore_n hC dX6_bits_16 rfl ?_
  show K _ [_, _, _] _ _
  refine r_iincE hC (1) dX6_bits_17 rfl rfl (by omega) (by unfold inR; omega) ?_
  refine r_goto (tgt := 4) hC dX6_bits_20 rfl ?_
  refine r_iload_n hC dX6_bits_4 rfl ?_
  refine r_iconst hC dX6_bits_5 rfl ?_
  refine r_icmp_ge (tgt := 23) hC dX6_bits_6 rfl (fun h4 => by omega) (fun h4 => ?_)
  refine r_iload_n hC dX6_bits_9 rfl ?_
  refine r_iload_n hC dX6_bits_10 rfl ?_
  refine r_iload_n hC dX6_bits_11 rfl ?_
  refine r_ishr hC dX6_bits_12 ?_
  rw [show ishr (10) (1) = (5 : Int) from by decide +kernel]
  refine r_iconst hC dX6_bits_13 rfl ?_
  refine r_iand hC dX6_bits_14 ?_
  rw [show iand (5) (1) = (1 : Int) from by decide +kernel]
  refine r_iaddE hC (1) dX6_bits_15 (by omega) (by unfold inR; omega) ?_
  refine r_istore_n hC dX6_bits_16 rfl ?_
  refine r_iincE hC (2) dX6_bits_17 rfl rfl (by omega) (by unfold inR; omega) ?_
  show K _ [_, _, _] _ _
  refine r_goto (tgt := 4) hC dX6_bits_20 rfl ?_
  refine r_iload_n hC dX6_bits_4 rfl ?_
  refine r_iconst hC dX6_bits_5 rfl ?_
  refine r_icmp_ge (tgt := 23) hC dX6_bits_6 rfl (fun h7 => by omega) (fun h7 => ?_)
  refine r_iload_n hC dX6_bits_9 rfl ?_
  refine r_iload_n hC dX6_bits_10 rfl ?_
  refine r_iload_n hC dX6_bits_11 rfl ?_
  refine r_ishr hC dX6_bits_12 ?_
  rw [show ishr (10) (2) = (2 : Int) from by decide +kernel]
  refine r_iconst hC dX6_bits_13 rfl ?_
  refine r_iand hC dX6_bits_14 ?_
  rw [show iand (2) (1) = (0 : Int) from by decide +kernel]
  refine r_iaddE hC (1) dX6_bits_15 (by omega) (by unfold inR; omega) ?_
  refine r_istore_n hC dX6_bits_16 rfl ?_
  refine r_iincE hC (3) dX6_bits_17 rfl rfl (by omega) (by unfold inR; omega) ?_
  refine r_goto (tgt := 4) hC dX6_bits_20 rfl ?_
  refine r_iload_n hC dX6_bits_4 rfl ?_
  refine r_iconst hC dX6_bits_5 rfl ?_
  refine r_icmp_ge (tgt := 23) hC dX6_bits_6 rfl (fun h10 => by omega) (fun h10 => ?_)
  refine r_iload_n hC dX6_bits_9 rfl ?_
  refine r_iload_n hC dX6_bits_10 rfl ?_
  refine r_iload_n hC dX6_bits_11 rfl ?_
  refine r_ishr hC dX6_bits_12 ?_
  rw [show ishr (10) (3) = (1 : Int) from by decide +kernel]
  refine r_iconst hC dX6_bits_13 rfl ?_
  refine r_iand hC dX6_bits_14 ?_
  rw [show iand (1) (1) = (1 : Int) from by decide +kernel]
  refine r_iaddE hC (2) dX6_bits_15 (by omega) (by unfold inR; omega) ?_
  refine r_istore_n hC dX6_bits_16 rfl ?_
  show K _ [_, _, _] _ _
  refine r_iincE hC (4) dX6_bits_17 rfl rfl (by omega) (by unfold inR; omega) ?_
  refine r_goto (tgt := 4) hC dX6_bits_20 rfl ?_
  refine r_iload_n hC dX6_bits_4 rfl ?_
  refine r_iconst hC dX6_bits_5 rfl ?_
  refine r_icmp_ge (tgt := 23) hC dX6_bits_6 rfl (fun h13 => ?_) (fun h13 => by omega)
  refine r_iload_n hC dX6_bits_23 rfl ?_
  refine y_iret hK rfl dX6_bits_24 ?_
  exact k
theorem y_bits11 {e : Ev} {d : Nat} {P : Option Vl → Mm → Prop} {σ : Mm}   (k : P (some (vI 3)) σ) : WT e (d + 1) 166 [vI 11] σ P := by
  refine WT_in fun K hK => ?_
  have hK : StpY e cX6_bits RX6 (some .int) (WT e (d + 0)) P K := hK
  have hM := hK.1
  have hC := hK.1.1
  show K 0 [some (vI 11), none, none] [] σ
  refine r_iconst hC dX6_bits_0 rfl ?_
  refine r_istore_n hC dX6_bits_1 rfl ?_
  refine r_iconst hC dX6_bits_2 rfl ?_
  refine r_istore_n hC dX6_bits_3 rfl ?_
  refine r_iload_n hC dX6_bits_4 rfl ?_
  refine r_iconst hC dX6_bits_5 rfl ?_
  refine r_icmp_ge (tgt := 23) hC dX6_bits_6 rfl (fun h1 => by omega) (fun h1 => ?_)
  refine r_iload_n hC dX6_bits_9 rfl ?_
  refine r_iload_n hC dX6_bits_10 rfl ?_
  refine r_iload_n hC dX6_bits_11 rfl ?_
  refine r_ishr hC dX6_bits_12 ?_
  rw [show ishr (11) (0) = (11 : Int) from by decide +kernel]
  refine r_iconst hC dX6_bits_13 rfl ?_
  refine r_iand hC dX6_bits_14 ?_
  rw [show iand (11) (1) = (1 : Int) from by decide +kernel]
  refine r_iaddE hC (1) dX6_bits_15 (by omega) (by unfold inR; omega) ?_
  refine r_istore_n hC dX6_bits_16 rfl ?_
  show K _ [_, _, _] _ _
  refine r_iincE hC (1) dX6_bits_17 rfl rfl (by omega) (by unfold inR; omega) ?_
  refine r_goto (tgt := 4) hC dX6_bits_20 rfl ?_
  refine r_iload_n hC dX6_bits_4 rfl ?_
  refine r_iconst hC dX6_bits_5 rfl ?_
  refine r_icmp_ge (tgt := 23) hC dX6_bits_6 rfl (fun h4 => by omega) (fun h4 => ?_)
  refine r_iload_n hC dX6_bits_9 rfl ?_
  refine r_iload_n hC dX6_bits_10 rfl ?_
  refine r_iload_n hC dX6_bits_11 rfl ?_
  refine r_ishr hC dX6_bits_12 ?_
  rw [show ishr (11) (1) = (5 : Int) from by decide +kernel]
  refine r_iconst hC dX6_bits_13 rfl ?_
  refine r_iand hC dX6_bits_14 ?_
  rw [show iand (5) (1) = (1 : Int) from by decide +kernel]
  refine r_iaddE hC (2) dX6_bits_15 (by omega) (by unfold inR; omega) ?_
  refine r_istore_n hC dX6_bits_16 rfl ?_
  refine r_iincE hC (2) dX6_bits_17 rfl rfl (by omega) (by unfold inR; omega) ?_
  show K _ [_, _, _] _ _
  refine r_goto (tgt := 4) hC dX6_bits_20 rfl ?_
  refine r_iload_n hC dX6_bits_4 rfl ?_
  refine r_iconst hC dX6_bits_5 rfl ?_
  refine r_icmp_ge (tgt := 23) hC dX6_bits_6 rfl (fun h7 => by omega) (fun h7 => ?_)
  refine r_iload_n hC dX6_bits_9 rfl ?_
  refine r_iload_n hC dX6_bits_10 rfl ?_
  refine r_iload_n hC dX6_bits_11 rfl ?_
  refine r_ishr hC dX6_bits_12 ?_
  rw [show ishr (11) (2) = (2 : Int) from by decide +kernel]
  refine r_iconst hC dX6_bits_13 rfl ?_
  refine r_iand hC dX6_bits_14 ?_
  rw [show iand (2) (1) = (0 : Int) from by decide +kernel]
  refine r_iaddE hC (2) dX6_bits_15 (by omega) (by unfold inR; omega) ?_
  refine r_istore_n hC dX6_bits_16 rfl ?_
  refine r_iincE hC (3) dX6_bits_17 rfl rfl (by omega) (by unfold inR; omega) ?_
  refine r_goto (tgt := 4) hC dX6_bits_20 rfl ?_
  refine r_iload_n hC dX6_bits_4 rfl ?_
  refine r_iconst hC dX6_bits_5 rfl ?_
  refine r_icmp_ge (tgt := 23) hC dX6_bits_6 rfl (fun h10 => by omega) (fun h10 => ?_)
  refine r_iload_n hC dX6_bits_9 rfl ?_
  refine r_iload_n hC dX6_bits_10 rfl ?_
  refine r_iload_n hC dX6_bits_11 rfl ?_
  refine r_ishr hC dX6_bits_12 ?_
  rw [show ishr (11) (3) = (1 : Int) from by decide +kernel]
  refine r_iconst hC dX6_bits_13 rfl ?_
  refine r_iand hC dX6_bits_14 ?_
  rw [show iand (1) (1) = (1 : Int) from by decide +kernel]
  refine r_iaddE hC (3) dX6_bits_15 (by omega) (by unfold inR; omega) ?_
  refine r_istore_n hC dX6_bits_16 rfl ?_
  show K _ [_, _, _] _ _
  refine r_iincE hC (4) dX6_bits_17 rfl rfl (by omega) (by unfold inR; omega) ?_
  refine r_goto (tgt := 4) hC dX6_bits_20 rfl ?_
  refine r_iload_n hC dX6_bits_4 rfl ?_
  refine r_iconst hC dX6_bits_5 rfl ?_
  refine r_icmp_ge (tgt := 23) hC dX6_bits_6 rfl (fun h13 => ?_) (fun h13 => by omega)
  refine r_iload_n hC dX6_bits_23 rfl ?_
  refine y_iret hK rfl dX6_bits_24 ?_
  exact k
theorem y_bits12 {e : Ev} {d : Nat} {P : Option Vl → Mm → Prop} {σ : Mm}   (k : P (some (vI 2)) σ) : WT e (d + 1) 166 [vI 12] σ P := by
  refine WT_in fun K hK => ?_
  have hK : StpY e cX6_bits RX6 (some .int) (WT e (d + 0)) P K := hK
  have hM := hK.1
  have hC := hK.1.1
  show K 0 [some (vI 12), none, none] [] σ
  refine r_iconst hC dX6_bits_0 rfl ?_
  refine r_istore_n hC dX6_bits_1 rfl ?_
  refine r_iconst hC dX6_bits_2 rfl ?_
  refine r_istore_n hC dX6_bits_3 rfl ?_
  refine r_iload_n hC dX6_bits_4 rfl ?_
  refine r_iconst hC dX6_bits_5 rfl ?_
  refine r_icmp_ge (tgt := 23) hC dX6_bits_6 rfl (fun h1 => by omega) (fun h1 => ?_)
  refine r_iload_n hC dX6_bits_9 rfl ?_
  refine r_iload_n hC dX6_bits_10 rfl ?_
  refine r_iload_n hC dX6_bits_11 rfl ?_
  refine r_ishr hC dX6_bits_12 ?_
  rw [show ishr (12) (0) = (12 : Int) from by decide +kernel]
  refine r_iconst hC dX6_bits_13 rfl ?_
  refine r_iand hC dX6_bits_14 ?_
  rw [show iand (12) (1) = (0 : Int) from by decide +kernel]
  refine r_iaddE hC (0) dX6_bits_15 (by omega) (by unfold inR; omega) ?_
  refine r_istore_n hC dX6_bits_16 rfl ?_
  show K _ [_, _, _] _ _
  refine r_iincE hC (1) dX6_bits_17 rfl rfl (by omega) (by unfold inR; omega) ?_
  refine r_goto (tgt := 4) hC dX6_bits_20 rfl ?_
  refine r_iload_n hC dX6_bits_4 rfl ?_
  refine r_iconst hC dX6_bits_5 rfl ?_
  refine r_icmp_ge (tgt := 23) hC dX6_bits_6 rfl (fun h4 => by omega) (fun h4 => ?_)
  refine r_iload_n hC dX6_bits_9 rfl ?_
  refine r_iload_n hC dX6_bits_10 rfl ?_
  refine r_iload_n hC dX6_bits_11 rfl ?_
  refine r_ishr hC dX6_bits_12 ?_
  rw [show ishr (12) (1) = (6 : Int) from by decide +kernel]
  refine r_iconst hC dX6_bits_13 rfl ?_
  refine r_iand hC dX6_bits_14 ?_
  rw [show iand (6) (1) = (0 : Int) from by decide +kernel]
  refine r_iaddE hC (0) dX6_bits_15 (by omega) (by unfold inR; omega) ?_
  refine r_istore_n hC dX6_bits_16 rfl ?_
  refine r_iincE hC (2) dX6_bits_17 rfl rfl (by omega) (by unfold inR; omega) ?_
  show K _ [_, _, _] _ _
  refine r_goto (tgt := 4) hC dX6_bits_20 rfl ?_
  refine r_iload_n hC dX6_bits_4 rfl ?_
  refine r_iconst hC dX6_bits_5 rfl ?_
  refine r_icmp_ge (tgt := 23) hC dX6_bits_6 rfl (fun h7 => by omega) (fun h7 => ?_)
  refine r_iload_n hC dX6_bits_9 rfl ?_
  refine r_iload_n hC dX6_bits_10 rfl ?_
  refine r_iload_n hC dX6_bits_11 rfl ?_
  refine r_ishr hC dX6_bits_12 ?_
  rw [show ishr (12) (2) = (3 : Int) from by decide +kernel]
  refine r_iconst hC dX6_bits_13 rfl ?_
  refine r_iand hC dX6_bits_14 ?_
  rw [show iand (3) (1) = (1 : Int) from by decide +kernel]
  refine r_iaddE hC (1) dX6_bits_15 (by omega) (by unfold inR; omega) ?_
  refine r_istore_n hC dX6_bits_16 rfl ?_
  refine r_iincE hC (3) dX6_bits_17 rfl rfl (by omega) (by unfold inR; omega) ?_
  refine r_goto (tgt := 4) hC dX6_bits_20 rfl ?_
  refine r_iload_n hC dX6_bits_4 rfl ?_
  refine r_iconst hC dX6_bits_5 rfl ?_
  refine r_icmp_ge (tgt := 23) hC dX6_bits_6 rfl (fun h10 => by omega) (fun h10 => ?_)
  refine r_iload_n hC dX6_bits_9 rfl ?_
  refine r_iload_n hC dX6_bits_10 rfl ?_
  refine r_iload_n hC dX6_bits_11 rfl ?_
  refine r_ishr hC dX6_bits_12 ?_
  rw [show ishr (12) (3) = (1 : Int) from by decide +kernel]
  refine r_iconst hC dX6_bits_13 rfl ?_
  refine r_iand hC dX6_bits_14 ?_
  rw [show iand (1) (1) = (1 : Int) from by decide +kernel]
  refine r_iaddE hC (2) dX6_bits_15 (by omega) (by unfold inR; omega) ?_
  refine r_istore_n hC dX6_bits_16 rfl ?_
  show K _ [_, _, _] _ _
  refine r_iincE hC (4) dX6_bits_17 rfl rfl (by omega) (by unfold inR; omega) ?_
  refine r_goto (tgt := 4) hC dX6_bits_20 rfl ?_
  refine r_iload_n hC dX6_bits_4 rfl ?_
  refine r_iconst hC dX6_bits_5 rfl ?_
  refine r_icmp_ge (tgt := 23) hC dX6_bits_6 rfl (fun h13 => ?_) (fun h13 => by omega)
  refine r_iload_n hC dX6_bits_23 rfl ?_
  refine y_iret hK rfl dX6_bits_24 ?_
  exact k
theorem y_bits13 {e : Ev} {d : Nat} {P : Option Vl → Mm → Prop} {σ : Mm}   (k : P (some (vI 3)) σ) : WT e (d + 1) 166 [vI 13] σ P := by
  refine WT_in fun K hK => ?_
  have hK : StpY e cX6_bits RX6 (some .int) (WT e (d + 0)) P K := hK
  have hM := hK.1
  have hC := hK.1.1
  show K 0 [some (vI 13), none, none] [] σ
  refine r_iconst hC dX6_bits_0 rfl ?_
  refine r_istore_n hC dX6_bits_1 rfl ?_
  refine r_iconst hC dX6_bits_2 rfl ?_
  refine r_istore_n hC dX6_bits_3 rfl ?_
  refine r_iload_n hC dX6_bits_4 rfl ?_
  refine r_iconst hC dX6_bits_5 rfl ?_
  refine r_icmp_ge (tgt := 23) hC dX6_bits_6 rfl (fun h1 => by omega) (fun h1 => ?_)
  refine r_iload_n hC dX6_bits_9 rfl ?_
  refine r_iload_n hC dX6_bits_10 rfl ?_
  refine r_iload_n hC dX6_bits_11 rfl ?_
  refine r_ishr hC dX6_bits_12 ?_
  rw [show ishr (13) (0) = (13 : Int) from by decide +kernel]
  refine r_iconst hC dX6_bits_13 rfl ?_
  refine r_iand hC dX6_bits_14 ?_
  rw [show iand (13) (1) = (1 : Int) from by decide +kernel]
  refine r_iaddE hC (1) dX6_bits_15 (by omega) (by unfold inR; omega) ?_
  refine r_istore_n hC dX6_bits_16 rfl ?_
  show K _ [_, _, _] _ _
  refine r_iincE hC (1) dX6_bits_17 rfl rfl (by omega) (by unfold inR; omega) ?_
  refine r_goto (tgt := 4) hC dX6_bits_20 rfl ?_
  refine r_iload_n hC dX6_bits_4 rfl ?_
  refine r_iconst hC dX6_bits_5 rfl ?_
  refine r_icmp_ge (tgt := 23) hC dX6_bits_6 rfl (fun h4 => by omega) (fun h4 => ?_)
  refine r_iload_n hC dX6_bits_9 rfl ?_
  refine r_iload_n hC dX6_bits_10 rfl ?_
  refine r_iload_n hC dX6_bits_11 rfl ?_
  refine r_ishr hC dX6_bits_12 ?_
  rw [show ishr (13) (1) = (6 : Int) from by decide +kernel]
  refine r_iconst hC dX6_bits_13 rfl ?_
  refine r_iand hC dX6_bits_14 ?_
  rw [show iand (6) (1) = (0 : Int) from by decide +kernel]
  refine r_iaddE hC (1) dX6_bits_15 (by omega) (by unfold inR; omega) ?_
  refine r_istore_n hC dX6_bits_16 rfl ?_
  refine r_iincE hC (2) dX6_bits_17 rfl rfl (by omega) (by unfold inR; omega) ?_
  show K _ [_, _, _] _ _
  refine r_goto (tgt := 4) hC dX6_bits_20 rfl ?_
  refine r_iload_n hC dX6_bits_4 rfl ?_
  refine r_iconst hC dX6_bits_5 rfl ?_
  refine r_icmp_ge (tgt := 23) hC dX6_bits_6 rfl (fun h7 => by omega) (fun h7 => ?_)
  refine r_iload_n hC dX6_bits_9 rfl ?_
  refine r_iload_n hC dX6_bits_10 rfl ?_
  refine r_iload_n hC dX6_bits_11 rfl ?_
  refine r_ishr hC dX6_bits_12 ?_
  rw [show ishr (13) (2) = (3 : Int) from by decide +kernel]
  refine r_iconst hC dX6_bits_13 rfl ?_
  refine r_iand hC dX6_bits_14 ?_
  rw [show iand (3) (1) = (1 : Int) from by decide +kernel]
  refine r_iaddE hC (2) dX6_bits_15 (by omega) (by unfold inR; omega) ?_
  refine r_istore_n hC dX6_bits_16 rfl ?_
  refine r_iincE hC (3) dX6_bits_17 rfl rfl (by omega) (by unfold inR; omega) ?_
  refine r_goto (tgt := 4) hC dX6_bits_20 rfl ?_
  refine r_iload_n hC dX6_bits_4 rfl ?_
  refine r_iconst hC dX6_bits_5 rfl ?_
  refine r_icmp_ge (tgt := 23) hC dX6_bits_6 rfl (fun h10 => by omega) (fun h10 => ?_)
  refine r_iload_n hC dX6_bits_9 rfl ?_
  refine r_iload_n hC dX6_bits_10 rfl ?_
  refine r_iload_n hC dX6_bits_11 rfl ?_
  refine r_ishr hC dX6_bits_12 ?_
  rw [show ishr (13) (3) = (1 : Int) from by decide +kernel]
  refine r_iconst hC dX6_bits_13 rfl ?_
  refine r_iand hC dX6_bits_14 ?_
  rw [show iand (1) (1) = (1 : Int) from by decide +kernel]
  refine r_iaddE hC (3) dX6_bits_15 (by omega) (by unfold inR; omega) ?_
  refine r_istore_n hC dX6_bits_16 rfl ?_
  show K _ [_, _, _] _ _
  refine r_iincE hC (4) dX6_bits_17 rfl rfl (by omega) (by unfold inR; omega) ?_
  refine r_goto (tgt := 4) hC dX6_bits_20 rfl ?_
  refine r_iload_n hC dX6_bits_4 rfl ?_
  refine r_iconst hC dX6_bits_5 rfl ?_
  refine r_icmp_ge (tgt := 23) hC dX6_bits_6 rfl (fun h13 => ?_) (fun h13 => by omega)
  refine r_iload_n hC dX6_bits_23 rfl ?_
  refine y_iret hK rfl dX6_bits_24 ?_
  exact k
theorem y_bits14 {e : Ev} {d : Nat} {P : Option Vl → Mm → Prop} {σ : Mm}   (k : P (some (vI 3)) σ) : WT e (d + 1) 166 [vI 14] σ P := by
  refine WT_in fun K hK => ?_
  have hK : StpY e cX6_bits RX6 (some .int) (WT e (d + 0)) P K := hK
  have hM := hK.1
  have hC := hK.1.1
  show K 0 [some (vI 14), none, none] [] σ
  refine r_iconst hC dX6_bits_0 rfl ?_
  refine r_istore_n hC dX6_bits_1 rfl ?_
  refine r_iconst hC dX6_bits_2 rfl ?_
  refine r_istore_n hC dX6_bits_3 rfl ?_
  refine r_iload_n hC dX6_bits_4 rfl ?_
  refine r_iconst hC dX6_bits_5 rfl ?_
  refine r_icmp_ge (tgt := 23) hC dX6_bits_6 rfl (fun h1 => by omega) (fun h1 => ?_)
  refine r_iload_n hC dX6_bits_9 rfl ?_
  refine r_iload_n hC dX6_bits_10 rfl ?_
  refine r_iload_n hC dX6_bits_11 rfl ?_
  refine r_ishr hC dX6_bits_12 ?_
  rw [show ishr (14) (0) = (14 : Int) from by decide +kernel]
  refine r_iconst hC dX6_bits_13 rfl ?_
  refine r_iand hC dX6_bits_14 ?_
  rw [show iand (14) (1) = (0 : Int) from by decide +kernel]
  refine r_iaddE hC (0) dX6_bits_15 (by omega) (by unfold inR; omega) ?_
  refine r_istore_n hC dX6_bits_16 rfl ?_
  show K _ [_, _, _] _ _
  refine r_iincE hC (1) dX6_bits_17 rfl rfl (by omega) (by unfold inR; omega) ?_
  refine r_goto (tgt := 4) hC dX6_bits_20 rfl ?_
  refine r_iload_n hC dX6_bits_4 rfl ?_
  refine r_iconst hC dX6_bits_5 rfl ?_
  refine r_icmp_ge (tgt := 23) hC dX6_bits_6 rfl (fun h4 => by omega) (fun h4 => ?_)
  refine r_iload_n hC dX6_bits_9 rfl ?_
  refine r_iload_n hC dX6_bits_10 rfl ?_
  refine r_iload_n hC dX6_bits_11 rfl ?_
  refine r_ishr hC dX6_bits_12 ?_
  rw [show ishr (14) (1) = (7 : Int) from by decide +kernel]
  refine r_iconst hC dX6_bits_13 rfl ?_
  refine r_iand hC dX6_bits_14 ?_
  rw [show iand (7) (1) = (1 : Int) from by decide +kernel]
  refine r_iaddE hC (1) dX6_bits_15 (by omega) (by unfold inR; omega) ?_
  refine r_istore_n hC dX6_bits_16 rfl ?_
  refine r_iincE hC (2) dX6_bits_17 rfl rfl (by omega) (by unfold inR; omega) ?_
  show K _ [_, _, _] _ _
  refine r_goto (tgt := 4) hC dX6_bits_20 rfl ?_
  refine r_iload_n hC dX6_bits_4 rfl ?_
  refine r_iconst hC dX6_bits_5 rfl ?_
  refine r_icmp_ge (tgt := 23) hC dX6_bits_6 rfl (fun h7 => by omega) (fun h7 => ?_)
  refine r_iload_n hC dX6_bits_9 rfl ?_
  refine r_iload_n hC dX6_bits_10 rfl ?_
  refine r_iload_n hC dX6_bits_11 rfl ?_
  refine r_ishr hC dX6_bits_12 ?_
  rw [show ishr (14) (2) = (3 : Int) from by decide +kernel]
  refine r_iconst hC dX6_bits_13 rfl ?_
  refine r_iand hC dX6_bits_14 ?_
  rw [show iand (3) (1) = (1 : Int) from by decide +kernel]
  refine r_iaddE hC (2) dX6_bits_15 (by omega) (by unfold inR; omega) ?_
  refine r_istore_n hC dX6_bits_16 rfl ?_
  refine r_iincE hC (3) dX6_bits_17 rfl rfl (by omega) (by unfold inR; omega) ?_
  refine r_goto (tgt := 4) hC dX6_bits_20 rfl ?_
  refine r_iload_n hC dX6_bits_4 rfl ?_
  refine r_iconst hC dX6_bits_5 rfl ?_
  refine r_icmp_ge (tgt := 23) hC dX6_bits_6 rfl (fun h10 => by omega) (fun h10 => ?_)
  refine r_iload_n hC dX6_bits_9 rfl ?_
  refine r_iload_n hC dX6_bits_10 rfl ?_
  refine r_iload_n hC dX6_bits_11 rfl ?_
  refine r_ishr hC dX6_bits_12 ?_
  rw [show ishr (14) (3) = (1 : Int) from by decide +kernel]
  refine r_iconst hC dX6_bits_13 rfl ?_
  refine r_iand hC dX6_bits_14 ?_
  rw [show iand (1) (1) = (1 : Int) from by decide +kernel]
  refine r_iaddE hC (3) dX6_bits_15 (by omega) (by unfold inR; omega) ?_
  refine r_istore_n hC dX6_bits_16 rfl ?_
  show K _ [_, _, _] _ _
  refine r_iincE hC (4) dX6_bits_17 rfl rfl (by omega) (by unfold inR; omega) ?_
  refine r_goto (tgt := 4) hC dX6_bits_20 rfl ?_
  refine r_iload_n hC dX6_bits_4 rfl ?_
  refine r_iconst hC dX6_bits_5 rfl ?_
  refine r_icmp_ge (tgt := 23) hC dX6_bits_6 rfl (fun h13 => ?_) (fun h13 => by omega)
  refine r_iload_n hC dX6_bits_23 rfl ?_
  refine y_iret hK rfl dX6_bits_24 ?_
  exact k
theorem y_bits15 {e : Ev} {d : Nat} {P : Option Vl → Mm → Prop} {σ : Mm}   (k : P (some (vI 4)) σ) : WT e (d + 1) 166 [vI 15] σ P := by
  refine WT_in fun K hK => ?_
  have hK : StpY e cX6_bits RX6 (some .int) (WT e (d + 0)) P K := hK
  have hM := hK.1
  have hC := hK.1.1
  show K 0 [some (vI 15), none, none] [] σ
  refine r_iconst hC dX6_bits_0 rfl ?_
  refine r_istore_n hC dX6_bits_1 rfl ?_
  refine r_iconst hC dX6_bits_2 rfl ?_
  refine r_istore_n hC dX6_bits_3 rfl ?_
  refine r_iload_n hC dX6_bits_4 rfl ?_
  refine r_iconst hC dX6_bits_5 rfl ?_
  refine r_icmp_ge (tgt := 23) hC dX6_bits_6 rfl (fun h1 => by omega) (fun h1 => ?_)
  refine r_iload_n hC dX6_bits_9 rfl ?_
  refine r_iload_n hC dX6_bits_10 rfl ?_
  refine r_iload_n hC dX6_bits_11 rfl ?_
  refine r_ishr hC dX6_bits_12 ?_
  rw [show ishr (15) (0) = (15 : Int) from by decide +kernel]
  refine r_iconst hC dX6_bits_13 rfl ?_
  refine r_iand hC dX6_bits_14 ?_
  rw [show iand (15) (1) = (1 : Int) from by decide +kernel]
  refine r_iaddE hC (1) dX6_bits_15 (by omega) (by unfold inR; omega) ?_
  refine r_istore_n hC dX6_bits_16 rfl ?_
  show K _ [_, _, _] _ _
  refine r_iincE hC (1) dX6_bits_17 rfl rfl (by omega) (by unfold inR; omega) ?_
  refine r_goto (tgt := 4) hC dX6_bits_20 rfl ?_
  refine r_iload_n hC dX6_bits_4 rfl ?_
  refine r_iconst hC dX6_bits_5 rfl ?_
  refine r_icmp_ge (tgt := 23) hC dX6_bits_6 rfl (fun h4 => by omega) (fun h4 => ?_)
  refine r_iload_n hC dX6_bits_9 rfl ?_
  refine r_iload_n hC dX6_bits_10 rfl ?_
  refine r_iload_n hC dX6_bits_11 rfl ?_
  refine r_ishr hC dX6_bits_12 ?_
  rw [show ishr (15) (1) = (7 : Int) from by decide +kernel]
  refine r_iconst hC dX6_bits_13 rfl ?_
  refine r_iand hC dX6_bits_14 ?_
  rw [show iand (7) (1) = (1 : Int) from by decide +kernel]
  refine r_iaddE hC (2) dX6_bits_15 (by omega) (by unfold inR; omega) ?_
  refine r_istore_n hC dX6_bits_16 rfl ?_
  refine r_iincE hC (2) dX6_bits_17 rfl rfl (by omega) (by unfold inR; omega) ?_
  show K _ [_, _, _] _ _
  refine r_goto (tgt := 4) hC dX6_bits_20 rfl ?_
  refine r_iload_n hC dX6_bits_4 rfl ?_
  refine r_iconst hC dX6_bits_5 rfl ?_
  refine r_icmp_ge (tgt := 23) hC dX6_bits_6 rfl (fun h7 => by omega) (fun h7 => ?_)
  refine r_iload_n hC dX6_bits_9 rfl ?_
  refine r_iload_n hC dX6_bits_10 rfl ?_
  refine r_iload_n hC dX6_bits_11 rfl ?_
  refine r_ishr hC dX6_bits_12 ?_
  rw [show ishr (15) (2) = (3 : Int) from by decide +kernel]
  refine r_iconst hC dX6_bits_13 rfl ?_
  refine r_iand hC dX6_bits_14 ?_
  rw [show iand (3) (1) = (1 : Int) from by decide +kernel]
  refine r_iaddE hC (3) dX6_bits_15 (by omega) (by unfold inR; omega) ?_
  refine r_istore_n hC dX6_bits_16 rfl ?_
  refine r_iincE hC (3) dX6_bits_17 rfl rfl (by omega) (by unfold inR; omega) ?_
  refine r_goto (tgt := 4) hC dX6_bits_20 rfl ?_
  refine r_iload_n hC dX6_bits_4 rfl ?_
  refine r_iconst hC dX6_bits_5 rfl ?_
  refine r_icmp_ge (tgt := 23) hC dX6_bits_6 rfl (fun h10 => by omega) (fun h10 => ?_)
  refine r_iload_n hC dX6_bits_9 rfl ?_
  refine r_iload_n hC dX6_bits_10 rfl ?_
  refine r_iload_n hC dX6_bits_11 rfl ?_
  refine r_ishr hC dX6_bits_12 ?_
  rw [show ishr (15) (3) = (1 : Int) from by decide +kernel]
  refine r_iconst hC dX6_bits_13 rfl ?_
  refine r_iand hC dX6_bits_14 ?_
  rw [show iand (1) (1) = (1 : Int) from by decide +kernel]
  refine r_iaddE hC (4) dX6_bits_15 (by omega) (by unfold inR; omega) ?_
  refine r_istore_n hC dX6_bits_16 rfl ?_
  show K _ [_, _, _] _ _
  refine r_iincE hC (4) dX6_bits_17 rfl rfl (by omega) (by unfold inR; omega) ?_
  refine r_goto (tgt := 4) hC dX6_bits_20 rfl ?_
  refine r_iload_n hC dX6_bits_4 rfl ?_
  refine r_iconst hC dX6_bits_5 rfl ?_
  refine r_icmp_ge (tgt := 23) hC dX6_bits_6 rfl (fun h13 => ?_) (fun h13 => by omega)
  refine r_iload_n hC dX6_bits_23 rfl ?_
  refine y_iret hK rfl dX6_bits_24 ?_
  exact k
theorem y_bits {e : Ev} {d : Nat} {P : Option Vl → Mm → Prop} {σ : Mm} {a : Int} (b_a : 0 ≤ a ∧ a ≤ 15) (k : P (some (vI (a % 2 + a / 2 % 2 + a / 4 % 2 + a / 8 % 2))) σ) : WT e (d + 1) 166 [vI a] σ P := by
  rcases (by omega : a = 0 ∨ a = 1 ∨ a = 2 ∨ a = 3 ∨ a = 4 ∨ a = 5 ∨ a = 6 ∨ a = 7 ∨ a = 8 ∨ a = 9 ∨ a = 10 ∨ a = 11 ∨ a = 12 ∨ a = 13 ∨ a = 14 ∨ a = 15) with rfl | rfl | rfl | rfl | rfl | rfl | rfl | rfl | rfl | rfl | rfl | rfl | rfl | rfl | rfl | rfl
  · exact y_bits0 k
  · exact y_bits1 k
  · exact y_bits2 k
  · exact y_bits3 k
  · exact y_bits4 k
  · exact y_bits5 k
  · exact y_bits6 k
  · exact y_bits7 k
  · exact y_bits8 k
  · exact y_bits9 k
  · exact y_bits10 k
  · exact y_bits11 k
  · exact y_bits12 k
  · exact y_bits13 k
  · exact y_bits14 k
  · exact y_bits15 k
theorem y_send {eb : Bool} {n : Nat} {d : Nat} {P : Option Vl → Mm → Prop} {σ : Mm} {t0 t1 t2 t3 t4 : Int} (qg0 : σ 30 0 8 = (n : Int)) (qg1 : σ 38 0 0 = t0) (qg2 : σ 38 0 1 = t1) (qg3 : σ 38 0 2 = t2) (qg4 : σ 38 0 3 = t3) (qg5 : σ 38 0 4 = t4) (hn1 : 1 ≤ n) (hn : n ≤ 242)  (k : ∀ ρ : Mm, Gx (fun c x y => c = 38 ∧ x = 0) σ ρ → ρ 38 0 0 = (ltr (σ 36 0) (σ 37 0) 0 n) → ρ 38 0 1 = (ltr (σ 36 0) (σ 37 0) 1 n) → ρ 38 0 2 = (ltr (σ 36 0) (σ 37 0) 2 n) → ρ 38 0 3 = (ltr (σ 36 0) (σ 37 0) 3 n) → ρ 38 0 4 = (apt (ltr (σ 36 0) (σ 37 0) 0 n) (ltr (σ 36 0) (σ 37 0) 1 n) (ltr (σ 36 0) (σ 37 0) 2 n) (ltr (σ 36 0) (σ 37 0) 3 n)) → P none ρ) : WT (true, eb, true) (d + 2) 165 [vR 30 0] σ P := by
  refine WT_in fun K hK => ?_
  have hK : StpY (true, eb, true) cX6_send RX6 (none) (WT (true, eb, true) (d + 1)) P K := hK
  have hM := hK.1
  have hC := hK.1.1
  show K 0 [some (vR 30 0), none, none, none, none] [] σ
  refine r_iconst hC dX6_send_0 rfl ?_
  refine r_istore_n hC dX6_send_1 rfl ?_
  refine r_iconst hC dX6_send_2 rfl ?_
  refine r_istore_n hC dX6_send_3 rfl ?_
  refine r_iload_n hC dX6_send_4 rfl ?_
  refine r_iconst hC dX6_send_5 rfl ?_
  refine r_icmp_ge (tgt := 72) hC dX6_send_6 rfl (fun h1 => by omega) (fun h1 => ?_)
  refine r_iload_n hC dX6_send_9 rfl ?_
  refine r_istore_n hC dX6_send_10 rfl ?_
  show K _ [_, _, _, _, _] _ _
  refine r_iconst hC dX6_send_11 rfl ?_
  refine r_istore hC dX6_send_12 rfl ?_
  have L14 : ∀ (n14 : Nat) (w2 w3 : Int), 0 ≤ w2 ∧ w2 ≤ 3 → 0 ≤ w3 ∧ w3 ≤ 242 → ((w2) = ltr (σ 36 0) (σ 37 0) (0) ((w3)).toNat) → ((w3) ≤ (n : Int)) → 242 - w3 < (n14 : Int) → K 14 [some (vR 30 0), some (vI 0), some (vI 0), some (vI w2), some (vI w3)] [] σ := by
    intro n14
    induction n14 with
    | zero => intro w2 w3  f_w2 f_w3 i0_14 i1_14 hm  ; omega
    | succ n14 ih14 =>
      intro w2 w3  f_w2 f_w3 i0_14 i1_14 hm14  
      refine r_iload hC dX6_send_14 rfl ?_
      refine r_aload_n hC dX6_send_16 rfl ?_
      refine z_getI (jz := 8) hM dX6_send_17 fl_RX6_105 rfl rfl rfl (fun v4 h_v4 o_v4 t_v4 => ?_)
      have e_v4 : (n : Int) = v4 := ((t_v4 ((by simp [Tk, Tb, DL, DR]))).trans qg0).symm
      subst e_v4
      refine r_icmp_ge (tgt := 53) hC dX6_send_20 rfl (fun h5 => ?_) (fun h5 => ?_)
      · have hsnd0 : w2 = ltr (σ 36 0) (σ 37 0) 0 n := at_nat (n := n) (f := fun m => ltr (σ 36 0) (σ 37 0) 0 m) i0_14 (by omega)
        refine r_aload_n hC dX6_send_53 rfl ?_
        refine z_getR hM dX6_send_54 fl_RX6_31 rfl rfl (vld_of (n := 1) rfl (by omega) (by omega)) ?_
        refine r_iload_n hC dX6_send_57 rfl ?_
        refine r_iload_n hC dX6_send_58 rfl ?_
        refine z_iastG hM dX6_send_59 rfl (by omega) (by omega) (by simp [Tl, DL, DF]) (by first | trivial | (simp only [Okv]; omega) | (simp [Okv]; try omega)) (fun ρ6 a_ρ6 q_ρ6 => ?_)
        refine r_iload_n hC dX6_send_60 rfl ?_
        refine r_iconst hC dX6_send_61 rfl ?_
        refine r_iload_n hC dX6_send_62 rfl ?_
        refine r_ishl hC dX6_send_63 ?_
        have f_v7 := ishl_fr 1 w2
        refine r_ior hC dX6_send_64 ?_
        have f_v8 := ior_fr 0 (ishl 1 w2)
        refine r_istore_n hC dX6_send_65 rfl ?_
        refine r_iincE hC (1) dX6_send_66 rfl rfl (by omega) (by unfold inR; omega) ?_
        refine r_goto (tgt := 4) hC dX6_send_69 rfl ?_
        refine r_iload_n hC dX6_send_4 rfl ?_
        refine r_iconst hC dX6_send_5 rfl ?_
        refine r_icmp_ge (tgt := 72) hC dX6_send_6 rfl (fun h9 => by omega) (fun h9 => ?_)
        refine r_iload_n hC dX6_send_9 rfl ?_
        refine r_istore_n hC dX6_send_10 rfl ?_
        show K _ [_, _, _, _, _] _ _
        refine r_iconst hC dX6_send_11 rfl ?_
        refine r_istore hC dX6_send_12 rfl ?_
        have L14 : ∀ (n14 : Nat) (w10 w11 : Int), 0 ≤ w10 ∧ w10 ≤ 3 → 0 ≤ w11 ∧ w11 ≤ 242 → ((w10) = ltr (σ 36 0) (σ 37 0) (1) ((w11)).toNat) → ((w11) ≤ (n : Int)) → 242 - w11 < (n14 : Int) → K 14 [some (vR 30 0), some (vI (ior 0 (ishl 1 w2))), some (vI 1), some (vI w10), some (vI w11)] [] ρ6 := by
          intro n14
          induction n14 with
          | zero => intro w10 w11  f_w10 f_w11 i0_14 i1_14 hm  ; omega
          | succ n14 ih14 =>
            intro w10 w11  f_w10 f_w11 i0_14 i1_14 hm14  
            refine r_iload hC dX6_send_14 rfl ?_
            refine r_aload_n hC dX6_send_16 rfl ?_
            refine z_getI (jz := 8) hM dX6_send_17 fl_RX6_105 rfl rfl rfl (fun v12 h_v12 o_v12 t_v12 => ?_)
            have e_v12 : (n : Int) = v12 := ((t_v12 ((by simp [Tk, Tb, DL, DR]))).trans ((a_ρ6 _ _ _ (by first | exact xs_ (by decide) | exact xc_ (by decide) | omega)).trans qg0)).symm
            subst e_v12
            refine r_icmp_ge (tgt := 53) hC dX6_send_20 rfl (fun h13 => ?_) (fun h13 => ?_)
            · have hsnd1 : w10 = ltr (σ 36 0) (σ 37 0) 1 n := at_nat (n := n) (f := fun m => ltr (σ 36 0) (σ 37 0) 1 m) i0_14 (by omega)
              refine r_aload_n hC dX6_send_53 rfl ?_
              refine z_getR hM dX6_send_54 fl_RX6_31 rfl rfl (vld_of (n := 1) rfl (by omega) (by omega)) ?_
              refine r_iload_n hC dX6_send_57 rfl ?_
              refine r_iload_n hC dX6_send_58 rfl ?_
              refine z_iastG hM dX6_send_59 rfl (by omega) (by omega) (by simp [Tl, DL, DF]) (by first | trivial | (simp only [Okv]; omega) | (simp [Okv]; try omega)) (fun ρ14 a_ρ14 q_ρ14 => ?_)
              refine r_iload_n hC dX6_send_60 rfl ?_
              refine r_iconst hC dX6_send_61 rfl ?_
              refine r_iload_n hC dX6_send_62 rfl ?_
              refine r_ishl hC dX6_send_63 ?_
              have f_v15 := ishl_fr 1 w10
              refine r_ior hC dX6_send_64 ?_
              have f_v16 := ior_fr (ior 0 (ishl 1 w2)) (ishl 1 w10)
              refine r_istore_n hC dX6_send_65 rfl ?_
              refine r_iincE hC (2) dX6_send_66 rfl rfl (by omega) (by unfold inR; omega) ?_
              refine r_goto (tgt := 4) hC dX6_send_69 rfl ?_
              refine r_iload_n hC dX6_send_4 rfl ?_
              refine r_iconst hC dX6_send_5 rfl ?_
              refine r_icmp_ge (tgt := 72) hC dX6_send_6 rfl (fun h17 => by omega) (fun h17 => ?_)
              refine r_iload_n hC dX6_send_9 rfl ?_
              refine r_istore_n hC dX6_send_10 rfl ?_
              show K _ [_, _, _, _, _] _ _
              refine r_iconst hC dX6_send_11 rfl ?_
              refine r_istore hC dX6_send_12 rfl ?_
              have L14 : ∀ (n14 : Nat) (w18 w19 : Int), 0 ≤ w18 ∧ w18 ≤ 3 → 0 ≤ w19 ∧ w19 ≤ 242 → ((w18) = ltr (σ 36 0) (σ 37 0) (2) ((w19)).toNat) → ((w19) ≤ (n : Int)) → 242 - w19 < (n14 : Int) → K 14 [some (vR 30 0), some (vI (ior (ior 0 (ishl 1 w2)) (ishl 1 w10))), some (vI 2), some (vI w18), some (vI w19)] [] ρ14 := by
                intro n14
                induction n14 with
                | zero => intro w18 w19  f_w18 f_w19 i0_14 i1_14 hm  ; omega
                | succ n14 ih14 =>
                  intro w18 w19  f_w18 f_w19 i0_14 i1_14 hm14  
                  refine r_iload hC dX6_send_14 rfl ?_
                  refine r_aload_n hC dX6_send_16 rfl ?_
                  refine z_getI (jz := 8) hM dX6_send_17 fl_RX6_105 rfl rfl rfl (fun v20 h_v20 o_v20 t_v20 => ?_)
                  have e_v20 : (n : Int) = v20 := ((t_v20 ((by simp [Tk, Tb, DL, DR]))).trans ((a_ρ14 _ _ _ (by first | exact xs_ (by decide) | exact xc_ (by decide) | omega)).trans ((a_ρ6 _ _ _ (by first | exact xs_ (by decide) | exact xc_ (by decide) | omega)).trans qg0))).symm
                  subst e_v20
                  refine r_icmp_ge (tgt := 53) hC dX6_send_20 rfl (fun h21 => ?_) (fun h21 => ?_)
                  · have hsnd2 : w18 = ltr (σ 36 0) (σ 37 0) 2 n := at_nat (n := n) (f := fun m => ltr (σ 36 0) (σ 37 0) 2 m) i0_14 (by omega)
                    refine r_aload_n hC dX6_send_53 rfl ?_
                    refine z_getR hM dX6_send_54 fl_RX6_31 rfl rfl (vld_of (n := 1) rfl (by omega) (by omega)) ?_
                    refine r_iload_n hC dX6_send_57 rfl ?_
                    refine r_iload_n hC dX6_send_58 rfl ?_
                    refine z_iastG hM dX6_send_59 rfl (by omega) (by omega) (by simp [Tl, DL, DF]) (by first | trivial | (simp only [Okv]; omega) | (simp [Okv]; try omega)) (fun ρ22 a_ρ22 q_ρ22 => ?_)
                    refine r_iload_n hC dX6_send_60 rfl ?_
                    refine r_iconst hC dX6_send_61 rfl ?_
                    refine r_iload_n hC dX6_send_62 rfl ?_
                    refine r_ishl hC dX6_send_63 ?_
                    have f_v23 := ishl_fr 1 w18
                    refine r_ior hC dX6_send_64 ?_
                    have f_v24 := ior_fr (ior (ior 0 (ishl 1 w2)) (ishl 1 w10)) (ishl 1 w18)
                    refine r_istore_n hC dX6_send_65 rfl ?_
                    refine r_iincE hC (3) dX6_send_66 rfl rfl (by omega) (by unfold inR; omega) ?_
                    refine r_goto (tgt := 4) hC dX6_send_69 rfl ?_
                    refine r_iload_n hC dX6_send_4 rfl ?_
                    refine r_iconst hC dX6_send_5 rfl ?_
                    refine r_icmp_ge (tgt := 72) hC dX6_send_6 rfl (fun h25 => by omega) (fun h25 => ?_)
                    refine r_iload_n hC dX6_send_9 rfl ?_
                    refine r_istore_n hC dX6_send_10 rfl ?_
                    show K _ [_, _, _, _, _] _ _
                    refine r_iconst hC dX6_send_11 rfl ?_
                    refine r_istore hC dX6_send_12 rfl ?_
                    have L14 : ∀ (n14 : Nat) (w26 w27 : Int), 0 ≤ w26 ∧ w26 ≤ 3 → 0 ≤ w27 ∧ w27 ≤ 242 → ((w26) = ltr (σ 36 0) (σ 37 0) (3) ((w27)).toNat) → ((w27) ≤ (n : Int)) → 242 - w27 < (n14 : Int) → K 14 [some (vR 30 0), some (vI (ior (ior (ior 0 (ishl 1 w2)) (ishl 1 w10)) (ishl 1 w18))), some (vI 3), some (vI w26), some (vI w27)] [] ρ22 := by
                      intro n14
                      induction n14 with
                      | zero => intro w26 w27  f_w26 f_w27 i0_14 i1_14 hm  ; omega
                      | succ n14 ih14 =>
                        intro w26 w27  f_w26 f_w27 i0_14 i1_14 hm14  
                        refine r_iload hC dX6_send_14 rfl ?_
                        refine r_aload_n hC dX6_send_16 rfl ?_
                        refine z_getI (jz := 8) hM dX6_send_17 fl_RX6_105 rfl rfl rfl (fun v28 h_v28 o_v28 t_v28 => ?_)
                        have e_v28 : (n : Int) = v28 := ((t_v28 ((by simp [Tk, Tb, DL, DR]))).trans ((a_ρ22 _ _ _ (by first | exact xs_ (by decide) | exact xc_ (by decide) | omega)).trans ((a_ρ14 _ _ _ (by first | exact xs_ (by decide) | exact xc_ (by decide) | omega)).trans ((a_ρ6 _ _ _ (by first | exact xs_ (by decide) | exact xc_ (by decide) | omega)).trans qg0)))).symm
                        subst e_v28
                        refine r_icmp_ge (tgt := 53) hC dX6_send_20 rfl (fun h29 => ?_) (fun h29 => ?_)
                        · have hsnd3 : w26 = ltr (σ 36 0) (σ 37 0) 3 n := at_nat (n := n) (f := fun m => ltr (σ 36 0) (σ 37 0) 3 m) i0_14 (by omega)
                          refine r_aload_n hC dX6_send_53 rfl ?_
                          refine z_getR hM dX6_send_54 fl_RX6_31 rfl rfl (vld_of (n := 1) rfl (by omega) (by omega)) ?_
                          refine r_iload_n hC dX6_send_57 rfl ?_
                          refine r_iload_n hC dX6_send_58 rfl ?_
                          refine z_iastG hM dX6_send_59 rfl (by omega) (by omega) (by simp [Tl, DL, DF]) (by first | trivial | (simp only [Okv]; omega) | (simp [Okv]; try omega)) (fun ρ30 a_ρ30 q_ρ30 => ?_)
                          refine r_iload_n hC dX6_send_60 rfl ?_
                          refine r_iconst hC dX6_send_61 rfl ?_
                          refine r_iload_n hC dX6_send_62 rfl ?_
                          refine r_ishl hC dX6_send_63 ?_
                          have f_v31 := ishl_fr 1 w26
                          refine r_ior hC dX6_send_64 ?_
                          have f_v32 := ior_fr (ior (ior (ior 0 (ishl 1 w2)) (ishl 1 w10)) (ishl 1 w18)) (ishl 1 w26)
                          refine r_istore_n hC dX6_send_65 rfl ?_
                          refine r_iincE hC (4) dX6_send_66 rfl rfl (by omega) (by unfold inR; omega) ?_
                          refine r_goto (tgt := 4) hC dX6_send_69 rfl ?_
                          refine r_iload_n hC dX6_send_4 rfl ?_
                          refine r_iconst hC dX6_send_5 rfl ?_
                          refine r_icmp_ge (tgt := 72) hC dX6_send_6 rfl (fun h33 => ?_) (fun h33 => by omega)
                          refine r_aload_n hC dX6_send_72 rfl ?_
                          refine z_getR hM dX6_send_73 fl_RX6_31 rfl rfl (vld_of (n := 1) rfl (by omega) (by omega)) ?_
                          refine r_iconst hC dX6_send_76 rfl ?_
                          refine r_iload_n hC dX6_send_77 rfl ?_
                          refine z_ins1 hM dX6_send_78 tl_RX6_167 rfl (Nat.le_of_ble_eq_true rfl) (Nat.le_of_ble_eq_true rfl) ?_
                          have hE := reach_ok (by omega : 0 ≤ w2 ∧ w2 ≤ 3) (by omega : 0 ≤ w10 ∧ w10 ≤ 3) (by omega : 0 ≤ w18 ∧ w18 ≤ 3) (by omega : 0 ≤ w26 ∧ w26 ≤ 3)
                          refine y_bits ⟨hE.1, hE.2.1⟩ ?_
                          refine z_iastG hM dX6_send_81 rfl (by omega) (by omega) (by simp [Tl, DL, DF]) (by first | trivial | (simp only [Okv]; omega) | (simp [Okv]; try omega)) (fun ρ34 a_ρ34 q_ρ34 => ?_)
                          refine y_vret hK rfl dX6_send_82 ?_
                          have hs0 : w2 = ltr (σ 36 0) (σ 37 0) 0 n := hsnd0
                          have hs1 : w10 = ltr (σ 36 0) (σ 37 0) 1 n := hsnd1
                          have hs2 : w18 = ltr (σ 36 0) (σ 37 0) 2 n := hsnd2
                          have hs3 : w26 = ltr (σ 36 0) (σ 37 0) 3 n := hsnd3
                          exact k _ ((((((Gx.rf).al a_ρ6 (by first | (simp; done) | omega | (simp; omega))).al a_ρ14 (by first | (simp; done) | omega | (simp; omega))).al a_ρ22 (by first | (simp; done) | omega | (simp; omega))).al a_ρ30 (by first | (simp; done) | omega | (simp; omega))).al a_ρ34 (by first | (simp; done) | omega | (simp; omega))) (by have hq := ((a_ρ34 _ _ _ (by first | exact xs_ (by decide) | exact xc_ (by decide) | omega)).trans ((a_ρ30 _ _ _ (by first | exact xs_ (by decide) | exact xc_ (by decide) | omega)).trans ((a_ρ22 _ _ _ (by first | exact xs_ (by decide) | exact xc_ (by decide) | omega)).trans ((a_ρ14 _ _ _ (by first | exact xs_ (by decide) | exact xc_ (by decide) | omega)).trans q_ρ6)))); exact hq.trans hs0) (by have hq := ((a_ρ34 _ _ _ (by first | exact xs_ (by decide) | exact xc_ (by decide) | omega)).trans ((a_ρ30 _ _ _ (by first | exact xs_ (by decide) | exact xc_ (by decide) | omega)).trans ((a_ρ22 _ _ _ (by first | exact xs_ (by decide) | exact xc_ (by decide) | omega)).trans q_ρ14))); exact hq.trans hs1) (by have hq := ((a_ρ34 _ _ _ (by first | exact xs_ (by decide) | exact xc_ (by decide) | omega)).trans ((a_ρ30 _ _ _ (by first | exact xs_ (by decide) | exact xc_ (by decide) | omega)).trans q_ρ22)); exact hq.trans hs2) (by have hq := ((a_ρ34 _ _ _ (by first | exact xs_ (by decide) | exact xc_ (by decide) | omega)).trans q_ρ30); exact hq.trans hs3) (by have hq := q_ρ34; refine hq.trans (hE.2.2.trans ?_); rw [hs0, hs1, hs2, hs3])
                        · refine r_aload_n hC dX6_send_23 rfl ?_
                          refine z_getR hM dX6_send_24 fl_RX6_25 rfl rfl (vld_of (n := 1) rfl (by omega) (by omega)) ?_
                          refine r_aload_n hC dX6_send_27 rfl ?_
                          refine z_getR hM dX6_send_28 fl_RX6_28 rfl rfl (vld_of (n := 1) rfl (by omega) (by omega)) ?_
                          refine r_iload hC dX6_send_31 rfl ?_
                          refine z_iald hM dX6_send_33 rfl (by omega) (by omega) (fun v35 h_v35 o_v35 t_v35 => ?_)
                          have w_v35 := ((t_v35 (Or.inr (Or.inr (Or.inr ⟨rfl, by first | exact True.intro | exact (rfl : true = true)⟩)))).trans ((show Gx (fun c x y => c = 38 ∧ x = 0) σ ρ22 from (((Gx.rf).al a_ρ6 (by first | (simp; done) | omega | (simp; omega))).al a_ρ14 (by first | (simp; done) | omega | (simp; omega))).al a_ρ22 (by first | (simp; done) | omega | (simp; omega))) 37 0 _ (by omega))).symm
                          subst w_v35
                          refine r_bipush hC dX6_send_34 rfl ?_
                          refine z_ins2 hM dX6_send_36 tl_RX6_164 rfl (Nat.le_of_ble_eq_true rfl) (Nat.le_of_ble_eq_true rfl) ?_
                          refine y_rest (by omega) (fun h36 => ?_)
                          refine z_iald hM dX6_send_39 rfl (by omega) (by omega) (fun v37 h_v37 o_v37 t_v37 => ?_)
                          have w_v37 := ((t_v37 (Or.inl trivial)).trans ((show Gx (fun c x y => c = 38 ∧ x = 0) σ ρ22 from (((Gx.rf).al a_ρ6 (by first | (simp; done) | omega | (simp; omega))).al a_ρ14 (by first | (simp; done) | omega | (simp; omega))).al a_ρ22 (by first | (simp; done) | omega | (simp; omega))) 36 0 _ (by omega))).symm
                          subst w_v37
                          refine r_iconst hC dX6_send_40 rfl ?_
                          refine r_iload_n hC dX6_send_41 rfl ?_
                          refine r_imulE hC ((2 * w26)) dX6_send_42 (by omega) (by unfold inR; omega) ?_
                          refine r_ishr hC dX6_send_43 ?_
                          have f_v38 := ishr_fr (σ 36 0 ((σ 37 0 w27) % 8)) (2 * w26)
                          refine r_iconst hC dX6_send_44 rfl ?_
                          refine r_iand hC dX6_send_45 ?_
                          have f_v39 := iand_rng (a := (ishr (σ 36 0 ((σ 37 0 w27) % 8)) (2 * w26))) (b := 3) (by omega) (inR_lit rfl)
                          refine r_istore_n hC dX6_send_46 rfl ?_
                          refine r_iincE hC ((w27 + 1)) dX6_send_47 rfl rfl (by omega) (by unfold inR; omega) ?_
                          refine r_goto (tgt := 14) hC dX6_send_50 rfl ?_
                          exact ih14 ((iand (ishr (σ 36 0 ((σ 37 0 w27) % 8)) (2 * w26)) 3)) ((w27 + 1))  (by omega) (by omega) (by first | rfl | (rw [ltr_stepI (by omega), ← i0_14]; rfl)) (by omega) (by omega)  
                    exact L14 244 (3) (0)  (by omega) (by omega) (by first | rfl | (rw [ltr_stepI (by omega), ← i0_14]; rfl)) (by omega) (by omega)  
                  · refine r_aload_n hC dX6_send_23 rfl ?_
                    refine z_getR hM dX6_send_24 fl_RX6_25 rfl rfl (vld_of (n := 1) rfl (by omega) (by omega)) ?_
                    refine r_aload_n hC dX6_send_27 rfl ?_
                    refine z_getR hM dX6_send_28 fl_RX6_28 rfl rfl (vld_of (n := 1) rfl (by omega) (by omega)) ?_
                    refine r_iload hC dX6_send_31 rfl ?_
                    refine z_iald hM dX6_send_33 rfl (by omega) (by omega) (fun v40 h_v40 o_v40 t_v40 => ?_)
                    have w_v40 := ((t_v40 (Or.inr (Or.inr (Or.inr ⟨rfl, by first | exact True.intro | exact (rfl : true = true)⟩)))).trans ((show Gx (fun c x y => c = 38 ∧ x = 0) σ ρ14 from ((Gx.rf).al a_ρ6 (by first | (simp; done) | omega | (simp; omega))).al a_ρ14 (by first | (simp; done) | omega | (simp; omega))) 37 0 _ (by omega))).symm
                    subst w_v40
                    refine r_bipush hC dX6_send_34 rfl ?_
                    refine z_ins2 hM dX6_send_36 tl_RX6_164 rfl (Nat.le_of_ble_eq_true rfl) (Nat.le_of_ble_eq_true rfl) ?_
                    refine y_rest (by omega) (fun h41 => ?_)
                    refine z_iald hM dX6_send_39 rfl (by omega) (by omega) (fun v42 h_v42 o_v42 t_v42 => ?_)
                    have w_v42 := ((t_v42 (Or.inl trivial)).trans ((show Gx (fun c x y => c = 38 ∧ x = 0) σ ρ14 from ((Gx.rf).al a_ρ6 (by first | (simp; done) | omega | (simp; omega))).al a_ρ14 (by first | (simp; done) | omega | (simp; omega))) 36 0 _ (by omega))).symm
                    subst w_v42
                    refine r_iconst hC dX6_send_40 rfl ?_
                    refine r_iload_n hC dX6_send_41 rfl ?_
                    refine r_imulE hC ((2 * w18)) dX6_send_42 (by omega) (by unfold inR; omega) ?_
                    refine r_ishr hC dX6_send_43 ?_
                    have f_v43 := ishr_fr (σ 36 0 ((σ 37 0 w19) % 8)) (2 * w18)
                    refine r_iconst hC dX6_send_44 rfl ?_
                    refine r_iand hC dX6_send_45 ?_
                    have f_v44 := iand_rng (a := (ishr (σ 36 0 ((σ 37 0 w19) % 8)) (2 * w18))) (b := 3) (by omega) (inR_lit rfl)
                    refine r_istore_n hC dX6_send_46 rfl ?_
                    refine r_iincE hC ((w19 + 1)) dX6_send_47 rfl rfl (by omega) (by unfold inR; omega) ?_
                    refine r_goto (tgt := 14) hC dX6_send_50 rfl ?_
                    exact ih14 ((iand (ishr (σ 36 0 ((σ 37 0 w19) % 8)) (2 * w18)) 3)) ((w19 + 1))  (by omega) (by omega) (by first | rfl | (rw [ltr_stepI (by omega), ← i0_14]; rfl)) (by omega) (by omega)  
              exact L14 244 (2) (0)  (by omega) (by omega) (by first | rfl | (rw [ltr_stepI (by omega), ← i0_14]; rfl)) (by omega) (by omega)  
            · refine r_aload_n hC dX6_send_23 rfl ?_
              refine z_getR hM dX6_send_24 fl_RX6_25 rfl rfl (vld_of (n := 1) rfl (by omega) (by omega)) ?_
              refine r_aload_n hC dX6_send_27 rfl ?_
              refine z_getR hM dX6_send_28 fl_RX6_28 rfl rfl (vld_of (n := 1) rfl (by omega) (by omega)) ?_
              refine r_iload hC dX6_send_31 rfl ?_
              refine z_iald hM dX6_send_33 rfl (by omega) (by omega) (fun v45 h_v45 o_v45 t_v45 => ?_)
              have w_v45 := ((t_v45 (Or.inr (Or.inr (Or.inr ⟨rfl, by first | exact True.intro | exact (rfl : true = true)⟩)))).trans ((show Gx (fun c x y => c = 38 ∧ x = 0) σ ρ6 from (Gx.rf).al a_ρ6 (by first | (simp; done) | omega | (simp; omega))) 37 0 _ (by omega))).symm
              subst w_v45
              refine r_bipush hC dX6_send_34 rfl ?_
              refine z_ins2 hM dX6_send_36 tl_RX6_164 rfl (Nat.le_of_ble_eq_true rfl) (Nat.le_of_ble_eq_true rfl) ?_
              refine y_rest (by omega) (fun h46 => ?_)
              refine z_iald hM dX6_send_39 rfl (by omega) (by omega) (fun v47 h_v47 o_v47 t_v47 => ?_)
              have w_v47 := ((t_v47 (Or.inl trivial)).trans ((show Gx (fun c x y => c = 38 ∧ x = 0) σ ρ6 from (Gx.rf).al a_ρ6 (by first | (simp; done) | omega | (simp; omega))) 36 0 _ (by omega))).symm
              subst w_v47
              refine r_iconst hC dX6_send_40 rfl ?_
              refine r_iload_n hC dX6_send_41 rfl ?_
              refine r_imulE hC ((2 * w10)) dX6_send_42 (by omega) (by unfold inR; omega) ?_
              refine r_ishr hC dX6_send_43 ?_
              have f_v48 := ishr_fr (σ 36 0 ((σ 37 0 w11) % 8)) (2 * w10)
              refine r_iconst hC dX6_send_44 rfl ?_
              refine r_iand hC dX6_send_45 ?_
              have f_v49 := iand_rng (a := (ishr (σ 36 0 ((σ 37 0 w11) % 8)) (2 * w10))) (b := 3) (by omega) (inR_lit rfl)
              refine r_istore_n hC dX6_send_46 rfl ?_
              refine r_iincE hC ((w11 + 1)) dX6_send_47 rfl rfl (by omega) (by unfold inR; omega) ?_
              refine r_goto (tgt := 14) hC dX6_send_50 rfl ?_
              exact ih14 ((iand (ishr (σ 36 0 ((σ 37 0 w11) % 8)) (2 * w10)) 3)) ((w11 + 1))  (by omega) (by omega) (by first | rfl | (rw [ltr_stepI (by omega), ← i0_14]; rfl)) (by omega) (by omega)  
        exact L14 244 (1) (0)  (by omega) (by omega) (by first | rfl | (rw [ltr_stepI (by omega), ← i0_14]; rfl)) (by omega) (by omega)  
      · refine r_aload_n hC dX6_send_23 rfl ?_
        refine z_getR hM dX6_send_24 fl_RX6_25 rfl rfl (vld_of (n := 1) rfl (by omega) (by omega)) ?_
        refine r_aload_n hC dX6_send_27 rfl ?_
        refine z_getR hM dX6_send_28 fl_RX6_28 rfl rfl (vld_of (n := 1) rfl (by omega) (by omega)) ?_
        refine r_iload hC dX6_send_31 rfl ?_
        refine z_iald hM dX6_send_33 rfl (by omega) (by omega) (fun v50 h_v50 o_v50 t_v50 => ?_)
        have w_v50 := ((t_v50 (Or.inr (Or.inr (Or.inr ⟨rfl, by first | exact True.intro | exact (rfl : true = true)⟩)))).trans (rfl)).symm
        subst w_v50
        refine r_bipush hC dX6_send_34 rfl ?_
        refine z_ins2 hM dX6_send_36 tl_RX6_164 rfl (Nat.le_of_ble_eq_true rfl) (Nat.le_of_ble_eq_true rfl) ?_
        refine y_rest (by omega) (fun h51 => ?_)
        refine z_iald hM dX6_send_39 rfl (by omega) (by omega) (fun v52 h_v52 o_v52 t_v52 => ?_)
        have w_v52 := ((t_v52 (Or.inl trivial)).trans (rfl)).symm
        subst w_v52
        refine r_iconst hC dX6_send_40 rfl ?_
        refine r_iload_n hC dX6_send_41 rfl ?_
        refine r_imulE hC ((2 * w2)) dX6_send_42 (by omega) (by unfold inR; omega) ?_
        refine r_ishr hC dX6_send_43 ?_
        have f_v53 := ishr_fr (σ 36 0 ((σ 37 0 w3) % 8)) (2 * w2)
        refine r_iconst hC dX6_send_44 rfl ?_
        refine r_iand hC dX6_send_45 ?_
        have f_v54 := iand_rng (a := (ishr (σ 36 0 ((σ 37 0 w3) % 8)) (2 * w2))) (b := 3) (by omega) (inR_lit rfl)
        refine r_istore_n hC dX6_send_46 rfl ?_
        refine r_iincE hC ((w3 + 1)) dX6_send_47 rfl rfl (by omega) (by unfold inR; omega) ?_
        refine r_goto (tgt := 14) hC dX6_send_50 rfl ?_
        exact ih14 ((iand (ishr (σ 36 0 ((σ 37 0 w3) % 8)) (2 * w2)) 3)) ((w3 + 1))  (by omega) (by omega) (by first | rfl | (rw [ltr_stepI (by omega), ← i0_14]; rfl)) (by omega) (by omega)  
  exact L14 244 (0) (0)  (by omega) (by omega) (by first | rfl | (rw [ltr_stepI (by omega), ← i0_14]; rfl)) (by omega) (by omega)  
theorem y_alikeFrom {eb : Bool} {n : Nat} {d : Nat} {P : Option Vl → Mm → Prop} {σ : Mm} {i : Int} (b_i : 0 ≤ i ∧ i ≤ 241) (qg0 : σ 30 0 8 = (n : Int)) (hn : n ≤ 242) (hi : i < (n : Int))  (k : ∀ t : Int, (0 ≤ t ∧ i + t ≤ (n : Int)) → 1 ≤ t → (∀ j : Int, i ≤ j → j < i + t → σ 37 0 j = σ 37 0 i) → (i + t = (n : Int) ∨ σ 37 0 (i + t) ≠ σ 37 0 i) → P (some (vI t)) σ) : WT (true, eb, true) (d + 1) 168 [vR 30 0, vI i] σ P := by
  refine WT_in fun K hK => ?_
  have hK : StpY (true, eb, true) cX6_alikeFrom RX6 (some .int) (WT (true, eb, true) (d + 0)) P K := hK
  have hM := hK.1
  have hC := hK.1.1
  show K 0 [some (vR 30 0), some (vI i), none] [] σ
  refine r_iload_n hC dX6_alikeFrom_0 rfl ?_
  refine r_istore_n hC dX6_alikeFrom_1 rfl ?_
  have L2 : ∀ (n2 : Nat) (w1 : Int), 0 ≤ w1 ∧ w1 ≤ 242 → (i ≤ (w1)) → ((w1) ≤ (n : Int)) → (∀ j : Int, i ≤ j → j < (w1) → σ 37 0 j = σ 37 0 i) → 242 - w1 < (n2 : Int) → K 2 [some (vR 30 0), some (vI i), some (vI w1)] [] σ := by
    intro n2
    induction n2 with
    | zero => intro w1  f_w1 i0_2 i1_2 i2_2 hm  ; omega
    | succ n2 ih2 =>
      intro w1  f_w1 i0_2 i1_2 i2_2 hm2  
      refine r_iload_n hC dX6_alikeFrom_2 rfl ?_
      refine r_aload_n hC dX6_alikeFrom_3 rfl ?_
      refine z_getI (jz := 8) hM dX6_alikeFrom_4 fl_RX6_105 rfl rfl rfl (fun v2 h_v2 o_v2 t_v2 => ?_)
      have e_v2 : (n : Int) = v2 := ((t_v2 ((by simp [Tk, Tb, DL, DR]))).trans qg0).symm
      subst e_v2
      refine r_icmp_ge (tgt := 31) hC dX6_alikeFrom_7 rfl (fun h3 => ?_) (fun h3 => ?_)
      · refine r_iload_n hC dX6_alikeFrom_31 rfl ?_
        refine r_iload_n hC dX6_alikeFrom_32 rfl ?_
        refine r_isubE hC ((w1 - i)) dX6_alikeFrom_33 (by omega) (by unfold inR; omega) ?_
        refine y_iret hK rfl dX6_alikeFrom_34 ?_
        have hne : i ≠ w1 := by rintro rfl; omega
        exact k (w1 - i) (by omega) (by omega) (fun j h0 h1 => i2_2 j h0 (by omega)) (by rw [show i + (w1 - i) = w1 from by omega]; omega)
      · refine r_aload_n hC dX6_alikeFrom_10 rfl ?_
        refine z_getR hM dX6_alikeFrom_11 fl_RX6_28 rfl rfl (vld_of (n := 1) rfl (by omega) (by omega)) ?_
        refine r_iload_n hC dX6_alikeFrom_14 rfl ?_
        refine z_iald hM dX6_alikeFrom_15 rfl (by omega) (by omega) (fun v4 h_v4 o_v4 t_v4 => ?_)
        have w_v4 := ((t_v4 (Or.inr (Or.inr (Or.inr ⟨rfl, by first | exact True.intro | exact (rfl : true = true)⟩)))).trans (rfl)).symm
        subst w_v4
        refine r_aload_n hC dX6_alikeFrom_16 rfl ?_
        refine z_getR hM dX6_alikeFrom_17 fl_RX6_28 rfl rfl (vld_of (n := 1) rfl (by omega) (by omega)) ?_
        refine r_iload_n hC dX6_alikeFrom_20 rfl ?_
        refine z_iald hM dX6_alikeFrom_21 rfl (by omega) (by omega) (fun v5 h_v5 o_v5 t_v5 => ?_)
        have w_v5 := ((t_v5 (Or.inr (Or.inr (Or.inr ⟨rfl, by first | exact True.intro | exact (rfl : true = true)⟩)))).trans (rfl)).symm
        subst w_v5
        refine r_icmp_ne (tgt := 31) hC dX6_alikeFrom_22 rfl (fun h6 => ?_) (fun h6 => ?_)
        · refine r_iload_n hC dX6_alikeFrom_31 rfl ?_
          refine r_iload_n hC dX6_alikeFrom_32 rfl ?_
          refine r_isubE hC ((w1 - i)) dX6_alikeFrom_33 (by omega) (by unfold inR; omega) ?_
          refine y_iret hK rfl dX6_alikeFrom_34 ?_
          have hne : i ≠ w1 := by rintro rfl; omega
          exact k (w1 - i) (by omega) (by omega) (fun j h0 h1 => i2_2 j h0 (by omega)) (by rw [show i + (w1 - i) = w1 from by omega]; omega)
        · refine r_iincE hC ((w1 + 1)) dX6_alikeFrom_25 rfl rfl (by omega) (by unfold inR; omega) ?_
          refine r_goto (tgt := 2) hC dX6_alikeFrom_28 rfl ?_
          exact ih2 ((w1 + 1))  (by omega) (by omega) (by omega) (by first | (intro j h0 h1; omega) | (intro j h0 h1; rcases (by omega : j < w1 ∨ j = w1) with h | h; exact i2_2 j h0 h; subst h; assumption)) (by omega)  
  exact L2 244 (i)  (by omega) (by omega) (by omega) (by first | (intro j h0 h1; omega) | (intro j h0 h1; rcases (by omega : j < w1 ∨ j = w1) with h | h; exact i2_2 j h0 h; subst h; assumption)) (by omega)  
theorem lke_row {v : Int → Int} {i t : Int} (h0 : 0 ≤ i) (ht : 1 ≤ t) (hb : i = 0 ∨ v i ≠ v (i - 1)) (hv : ∀ j : Int, i ≤ j → j < i + t → v j = v i) : lke v (i + t).toNat = (max (lke v i.toNat).1 t, if t > (lke v i.toNat).1 then v i else (lke v i.toNat).2.1, (lke v i.toNat).2.2.1 + 1, if (lke v i.toNat).2.2.1 + 1 = 1 then t else (lke v i.toNat).2.2.2.1, t) := by
  have h := lke_run v i.toNat (by rw [Int.toNat_of_nonneg h0]; omega) t.toNat (by omega) (fun j hj => by rw [Int.toNat_of_nonneg h0]; exact hv _ (by omega) (by omega))
  rw [show (i + t).toNat = i.toNat + t.toNat from by omega, h, Int.toNat_of_nonneg h0, Int.toNat_of_nonneg (show 0 ≤ t by omega)]
theorem lke_rows {v : Int → Int} : ∀ n : Nat, 1 ≤ n → 1 ≤ (lke v n).2.2.1
  | 0, h => by omega
  | n + 1, _ => by
    have hb := (lke_b v n).1
    show (1 : Int) ≤ (if (decide (0 < n) && decide (v n = v (n - 1))) then (lke v n).2.2.1 else (lke v n).2.2.1 + 1)
    by_cases hn : n = 0
    · subst hn
      rw [if_neg (by simp)]
      omega
    · have := lke_rows (v := v) n (by omega)
      split <;> omega
/-- once another row has begun the first one's length stays -/
theorem lke_fst {v : Int → Int} {t : Nat} (h1 : 1 ≤ t) (hv : ∀ j : Int, 0 ≤ j → j < (t : Int) → v j = v 0) : ∀ m : Nat, (m = 0 ∨ v t ≠ v 0) → (lke v (t + m)).2.2.2.1 = t ∧ (1 ≤ m → 2 ≤ (lke v (t + m)).2.2.1)
  | 0, _ => by
    have h := lke_run v 0 (Or.inl rfl) t h1 (fun j hj => by show v ((0 : Int) + j) = v 0; rw [Int.zero_add]; exact hv _ (by omega) (by omega))
    rw [Nat.zero_add] at h
    rw [Nat.add_zero, h]
    refine ⟨?_, fun q => by omega⟩
    show (if (lke v 0).2.2.1 + 1 = 1 then (t : Int) else (lke v 0).2.2.2.1) = (t : Int)
    exact if_pos rfl
  | m + 1, hm => by
    have hne : v t ≠ v 0 := by rcases hm with q | q; omega; exact q
    obtain ⟨i1, i2⟩ := lke_fst h1 hv m (Or.inr hne)
    have hr := lke_rows (v := v) (t + m) (by omega)
    have e : lke v (t + m + 1) = (let s := lke v (t + m); let same : Bool := decide (0 < t + m) && decide (v ((t + m : Nat) : Int) = v (((t + m : Nat) : Int) - 1)); let l := if same then s.2.2.2.2 + 1 else 1; let r := if same then s.2.2.1 else s.2.2.1 + 1; (if l > s.1 then l else s.1, if l > s.1 then v ((t + m : Nat) : Int) else s.2.1, r, if r = 1 then l else s.2.2.2.1, l)) := rfl
    have hge : 2 ≤ (if (decide (0 < t + m) && decide (v ((t + m : Nat) : Int) = v (((t + m : Nat) : Int) - 1))) then (lke v (t + m)).2.2.1 else (lke v (t + m)).2.2.1 + 1) := by
      by_cases hm0 : m = 0
      · subst hm0
        have : (decide (0 < t + 0) && decide (v ((t + 0 : Nat) : Int) = v (((t + 0 : Nat) : Int) - 1))) = false := by
          have q := hv ((t : Int) - 1) (by omega) (by omega)
          rw [Nat.add_zero, q]
          simp [hne]
        rw [if_neg (by rw [this]; simp)]
        omega
      · have := i2 (by omega)
        split <;> omega
    rw [show t + (m + 1) = t + m + 1 from rfl, e]
    refine ⟨?_, fun _ => hge⟩
    show (if (if (decide (0 < t + m) && decide (v ((t + m : Nat) : Int) = v (((t + m : Nat) : Int) - 1))) then (lke v (t + m)).2.2.1 else (lke v (t + m)).2.2.1 + 1) = 1 then _ else (lke v (t + m)).2.2.2.1) = (t : Int)
    rw [if_neg (by omega), i1]
theorem lke_nx {v : Int → Int} {n : Nat} {i t : Int} (hv : ∀ j : Int, i ≤ j → j < i + t → v j = v i) (he : i + t = (n : Int) ∨ v (i + t) ≠ v i) (ht : 1 ≤ t) : i + t = 0 ∨ v (i + t) ≠ v (i + t - 1) ∨ i + t = (n : Int) := by
  rcases he with h | h
  · exact Or.inr (Or.inr h)
  · rw [hv (i + t - 1) (by omega) (by omega)]
    exact Or.inr (Or.inl h)
theorem y_like {eb : Bool} {n : Nat} {d : Nat} {P : Option Vl → Mm → Prop} {σ : Mm} {t0 t1 t2 t3 t4 t5 t6 : Int} (qg0 : σ 30 0 8 = (n : Int)) (qg1 : σ 38 0 0 = t0) (qg2 : σ 38 0 1 = t1) (qg3 : σ 38 0 2 = t2) (qg4 : σ 38 0 3 = t3) (qg5 : σ 38 0 4 = t4) (qg6 : σ 38 0 5 = t5) (qg7 : σ 38 0 6 = t6) (hn1 : 1 ≤ n) (hn : n ≤ 242)  (k : ∀ ρ : Mm, Gx (fun c x y => c = 38 ∧ x = 0) σ ρ → ρ 38 0 0 = ((lke (σ 37 0) n).1) → ρ 38 0 1 = ((lke (σ 37 0) n).2.1) → ρ 38 0 2 = ((lke (σ 37 0) n).2.2.1) → ρ 38 0 3 = ((lke (σ 37 0) n).2.2.2.1) → ρ 38 0 4 = ((lke (σ 37 0) n).2.2.2.2) → ρ 38 0 5 = (σ 37 0 0) → ρ 38 0 6 = (σ 37 0 ((n : Int) - 1)) → P none ρ) : WT (true, eb, true) (d + 2) 169 [vR 30 0] σ P := by
  refine WT_in fun K hK => ?_
  have hK : StpY (true, eb, true) cX6_like RX6 (none) (WT (true, eb, true) (d + 1)) P K := hK
  have hM := hK.1
  have hC := hK.1.1
  show K 0 [some (vR 30 0), none, none, none, none, none] [] σ
  have hn1N : 1 ≤ (n : Int) ∧ (n : Int) ≤ 242 := by omega
  refine r_iconst hC dX6_like_0 rfl ?_
  refine r_istore_n hC dX6_like_1 rfl ?_
  refine r_iconst hC dX6_like_2 rfl ?_
  refine r_istore_n hC dX6_like_3 rfl ?_
  refine r_iconst hC dX6_like_4 rfl ?_
  refine r_istore_n hC dX6_like_5 rfl ?_
  show K _ [_, _, _, _, _, _] _ _
  refine r_iconst hC dX6_like_6 rfl ?_
  refine r_istore hC dX6_like_7 rfl ?_
  refine r_iconst hC dX6_like_9 rfl ?_
  refine r_istore hC dX6_like_10 rfl ?_
  have L12 : ∀ (n12 : Nat) (w1 w2 w3 w4 w5 : Int), 0 ≤ w1 ∧ w1 ≤ 242 → 0 ≤ w2 ∧ w2 ≤ 242 → -2147483648 ≤ w3 ∧ w3 ≤ 2147483647 → 0 ≤ w4 ∧ w4 ≤ 242 → 0 ≤ w5 ∧ w5 ≤ 242 → ((w1) = (lke (σ 37 0) ((w5)).toNat).2.2.1) → ((w2) = (lke (σ 37 0) ((w5)).toNat).1) → ((w3) = (lke (σ 37 0) ((w5)).toNat).2.1) → ((w4) = (lke (σ 37 0) ((w5)).toNat).2.2.2.2) → ((w5) = 0 ∨ σ 37 0 (w5) ≠ σ 37 0 ((w5) - 1) ∨ (w5) = (n : Int)) → ((w1) ≤ (w5)) → ((w5) ≤ (n : Int)) → ((w2) ≤ (w5)) → 242 - w5 < (n12 : Int) → K 12 [some (vR 30 0), some (vI w1), some (vI w2), some (vI w3), some (vI w4), some (vI w5)] [] σ := by
    intro n12
    induction n12 with
    | zero => intro w1 w2 w3 w4 w5  f_w1 f_w2 f_w3 f_w4 f_w5 i0_12 i1_12 i2_12 i3_12 i4_12 i5_12 i6_12 i7_12 hm  ; omega
    | succ n12 ih12 =>
      intro w1 w2 w3 w4 w5  f_w1 f_w2 f_w3 f_w4 f_w5 i0_12 i1_12 i2_12 i3_12 i4_12 i5_12 i6_12 i7_12 hm12  
      refine r_iload hC dX6_like_12 rfl ?_
      refine r_aload_n hC dX6_like_14 rfl ?_
      refine z_getI (jz := 8) hM dX6_like_15 fl_RX6_105 rfl rfl rfl (fun v6 h_v6 o_v6 t_v6 => ?_)
      have e_v6 : (n : Int) = v6 := ((t_v6 ((by simp [Tk, Tb, DL, DR]))).trans qg0).symm
      subst e_v6
      refine r_icmp_ge (tgt := 62) hC dX6_like_18 rfl (fun h7 => ?_) (fun h7 => ?_)
      · refine r_aload_n hC dX6_like_62 rfl ?_
        refine z_getR hM dX6_like_63 fl_RX6_31 rfl rfl (vld_of (n := 1) rfl (by omega) (by omega)) ?_
        refine r_iconst hC dX6_like_66 rfl ?_
        refine r_iload_n hC dX6_like_67 rfl ?_
        refine z_iastG hM dX6_like_68 rfl (by omega) (by omega) (by simp [Tl, DL, DF]) (by first | trivial | (simp only [Okv]; omega) | (simp [Okv]; try omega)) (fun ρ8 a_ρ8 q_ρ8 => ?_)
        refine r_aload_n hC dX6_like_69 rfl ?_
        refine z_getR hM dX6_like_70 fl_RX6_31 rfl rfl (vld_of (n := 1) rfl (by omega) (by omega)) ?_
        refine r_iconst hC dX6_like_73 rfl ?_
        refine r_iload_n hC dX6_like_74 rfl ?_
        refine z_iastG hM dX6_like_75 rfl (by omega) (by omega) (by simp [Tl, DL, DF]) (by first | trivial | (simp only [Okv]; omega) | (simp [Okv]; try omega)) (fun ρ9 a_ρ9 q_ρ9 => ?_)
        refine r_aload_n hC dX6_like_76 rfl ?_
        refine z_getR hM dX6_like_77 fl_RX6_31 rfl rfl (vld_of (n := 1) rfl (by omega) (by omega)) ?_
        refine r_iconst hC dX6_like_80 rfl ?_
        refine r_iload_n hC dX6_like_81 rfl ?_
        refine z_iastG hM dX6_like_82 rfl (by omega) (by omega) (by simp [Tl, DL, DF]) (by first | trivial | (simp only [Okv]; omega) | (simp [Okv]; try omega)) (fun ρ10 a_ρ10 q_ρ10 => ?_)
        refine r_aload_n hC dX6_like_83 rfl ?_
        refine z_getR hM dX6_like_84 fl_RX6_31 rfl rfl (vld_of (n := 1) rfl (by omega) (by omega)) ?_
        refine r_iconst hC dX6_like_87 rfl ?_
        refine r_aload_n hC dX6_like_88 rfl ?_
        refine r_iconst hC dX6_like_89 rfl ?_
        refine z_inv1 hM dX6_like_90 vl_RX6_170 rfl rfl rfl (Nat.le_of_ble_eq_true rfl) (Nat.le_of_ble_eq_true rfl) ?_
        refine y_alikeFrom (n := n) (by omega) ((a_ρ10 _ _ _ (by first | exact xs_ (by decide) | exact xc_ (by decide) | omega)).trans ((a_ρ9 _ _ _ (by first | exact xs_ (by decide) | exact xc_ (by decide) | omega)).trans ((a_ρ8 _ _ _ (by first | exact xs_ (by decide) | exact xc_ (by decide) | omega)).trans qg0))) hn (by omega) (fun v11 h_v11 p_v11 v_v11 e_v11 => ?_)
        rw [show (ρ10 37 0) = σ 37 0 from funext fun j => (show Gx (fun c x y => c = 38 ∧ x = 0) σ ρ10 from (((Gx.rf).al a_ρ8 (by first | (simp; done) | omega | (simp; omega))).al a_ρ9 (by first | (simp; done) | omega | (simp; omega))).al a_ρ10 (by first | (simp; done) | omega | (simp; omega))) 37 0 j (by omega)] at v_v11 e_v11
        have v_LX := v_v11
        have e_LX := e_v11
        refine z_iastG hM dX6_like_93 rfl (by omega) (by omega) (by simp [Tl, DL, DF]) (by first | trivial | (simp only [Okv]; omega) | (simp [Okv]; try omega)) (fun ρ12 a_ρ12 q_ρ12 => ?_)
        refine r_aload_n hC dX6_like_94 rfl ?_
        refine z_getR hM dX6_like_95 fl_RX6_31 rfl rfl (vld_of (n := 1) rfl (by omega) (by omega)) ?_
        refine r_iconst hC dX6_like_98 rfl ?_
        refine r_iload hC dX6_like_99 rfl ?_
        refine z_iastG hM dX6_like_101 rfl (by omega) (by omega) (by simp [Tl, DL, DF]) (by first | trivial | (simp only [Okv]; omega) | (simp [Okv]; try omega)) (fun ρ13 a_ρ13 q_ρ13 => ?_)
        refine r_aload_n hC dX6_like_102 rfl ?_
        refine z_getR hM dX6_like_103 fl_RX6_31 rfl rfl (vld_of (n := 1) rfl (by omega) (by omega)) ?_
        refine r_iconst hC dX6_like_106 rfl ?_
        refine r_aload_n hC dX6_like_107 rfl ?_
        refine z_getR hM dX6_like_108 fl_RX6_28 rfl rfl (vld_of (n := 1) rfl (by omega) (by omega)) ?_
        refine r_iconst hC dX6_like_111 rfl ?_
        refine z_iald hM dX6_like_112 rfl (by omega) (by omega) (fun v14 h_v14 o_v14 t_v14 => ?_)
        have w_v14 := ((t_v14 (Or.inr (Or.inr (Or.inr ⟨rfl, by first | exact True.intro | exact (rfl : true = true)⟩)))).trans ((show Gx (fun c x y => c = 38 ∧ x = 0) σ ρ13 from (((((Gx.rf).al a_ρ8 (by first | (simp; done) | omega | (simp; omega))).al a_ρ9 (by first | (simp; done) | omega | (simp; omega))).al a_ρ10 (by first | (simp; done) | omega | (simp; omega))).al a_ρ12 (by first | (simp; done) | omega | (simp; omega))).al a_ρ13 (by first | (simp; done) | omega | (simp; omega))) 37 0 _ (by omega))).symm
        subst w_v14
        refine z_iastG hM dX6_like_113 rfl (by omega) (by omega) (by simp [Tl, DL, DF]) (by first | trivial | (simp only [Okv]; omega) | (simp [Okv]; try omega)) (fun ρ15 a_ρ15 q_ρ15 => ?_)
        refine r_aload_n hC dX6_like_114 rfl ?_
        refine z_getR hM dX6_like_115 fl_RX6_31 rfl rfl (vld_of (n := 1) rfl (by omega) (by omega)) ?_
        refine r_bipush hC dX6_like_118 rfl ?_
        refine r_aload_n hC dX6_like_120 rfl ?_
        refine z_getR hM dX6_like_121 fl_RX6_28 rfl rfl (vld_of (n := 1) rfl (by omega) (by omega)) ?_
        refine r_aload_n hC dX6_like_124 rfl ?_
        refine z_getI (jz := 8) hM dX6_like_125 fl_RX6_105 rfl rfl rfl (fun v16 h_v16 o_v16 t_v16 => ?_)
        have e_v16 : (n : Int) = v16 := ((t_v16 ((by simp [Tk, Tb, DL, DR]))).trans ((a_ρ15 _ _ _ (by first | exact xs_ (by decide) | exact xc_ (by decide) | omega)).trans ((a_ρ13 _ _ _ (by first | exact xs_ (by decide) | exact xc_ (by decide) | omega)).trans ((a_ρ12 _ _ _ (by first | exact xs_ (by decide) | exact xc_ (by decide) | omega)).trans ((a_ρ10 _ _ _ (by first | exact xs_ (by decide) | exact xc_ (by decide) | omega)).trans ((a_ρ9 _ _ _ (by first | exact xs_ (by decide) | exact xc_ (by decide) | omega)).trans ((a_ρ8 _ _ _ (by first | exact xs_ (by decide) | exact xc_ (by decide) | omega)).trans qg0))))))).symm
        subst e_v16
        refine r_iconst hC dX6_like_128 rfl ?_
        refine r_isubE hC (((n : Int) - 1)) dX6_like_129 (by omega) (by unfold inR; omega) ?_
        refine z_iald hM dX6_like_130 rfl (by omega) (by omega) (fun v17 h_v17 o_v17 t_v17 => ?_)
        have w_v17 := ((t_v17 (Or.inr (Or.inr (Or.inr ⟨rfl, by first | exact True.intro | exact (rfl : true = true)⟩)))).trans ((show Gx (fun c x y => c = 38 ∧ x = 0) σ ρ15 from ((((((Gx.rf).al a_ρ8 (by first | (simp; done) | omega | (simp; omega))).al a_ρ9 (by first | (simp; done) | omega | (simp; omega))).al a_ρ10 (by first | (simp; done) | omega | (simp; omega))).al a_ρ12 (by first | (simp; done) | omega | (simp; omega))).al a_ρ13 (by first | (simp; done) | omega | (simp; omega))).al a_ρ15 (by first | (simp; done) | omega | (simp; omega))) 37 0 _ (by omega))).symm
        subst w_v17
        refine z_iastG hM dX6_like_131 rfl (by omega) (by omega) (by simp [Tl, DL, DF]) (by first | trivial | (simp only [Okv]; omega) | (simp [Okv]; try omega)) (fun ρ18 a_ρ18 q_ρ18 => ?_)
        refine y_vret hK rfl dX6_like_132 ?_
        have hn_ : (w5).toNat = n := by omega
        rw [hn_] at i0_12 i1_12 i2_12 i3_12
        have hf := lke_fst (v := σ 37 0) (t := (v11).toNat) (by omega) (fun j h0 h1 => v_v11 j (by omega) (by omega)) (n - (v11).toNat) (by
          rw [show (((v11).toNat : Nat) : Int) = v11 from by omega]
          rw [Int.zero_add] at e_v11
          rcases e_v11 with h | h
          · exact Or.inl (by omega)
          · exact Or.inr h)
        rw [show (v11).toNat + (n - (v11).toNat) = n from by omega] at hf
        exact k _ ((((((((Gx.rf).al a_ρ8 (by first | (simp; done) | omega | (simp; omega))).al a_ρ9 (by first | (simp; done) | omega | (simp; omega))).al a_ρ10 (by first | (simp; done) | omega | (simp; omega))).al a_ρ12 (by first | (simp; done) | omega | (simp; omega))).al a_ρ13 (by first | (simp; done) | omega | (simp; omega))).al a_ρ15 (by first | (simp; done) | omega | (simp; omega))).al a_ρ18 (by first | (simp; done) | omega | (simp; omega))) (by have hq := ((a_ρ18 _ _ _ (by first | exact xs_ (by decide) | exact xc_ (by decide) | omega)).trans ((a_ρ15 _ _ _ (by first | exact xs_ (by decide) | exact xc_ (by decide) | omega)).trans ((a_ρ13 _ _ _ (by first | exact xs_ (by decide) | exact xc_ (by decide) | omega)).trans ((a_ρ12 _ _ _ (by first | exact xs_ (by decide) | exact xc_ (by decide) | omega)).trans ((a_ρ10 _ _ _ (by first | exact xs_ (by decide) | exact xc_ (by decide) | omega)).trans ((a_ρ9 _ _ _ (by first | exact xs_ (by decide) | exact xc_ (by decide) | omega)).trans q_ρ8)))))); exact hq.trans i1_12) (by have hq := ((a_ρ18 _ _ _ (by first | exact xs_ (by decide) | exact xc_ (by decide) | omega)).trans ((a_ρ15 _ _ _ (by first | exact xs_ (by decide) | exact xc_ (by decide) | omega)).trans ((a_ρ13 _ _ _ (by first | exact xs_ (by decide) | exact xc_ (by decide) | omega)).trans ((a_ρ12 _ _ _ (by first | exact xs_ (by decide) | exact xc_ (by decide) | omega)).trans ((a_ρ10 _ _ _ (by first | exact xs_ (by decide) | exact xc_ (by decide) | omega)).trans q_ρ9))))); exact hq.trans i2_12) (by have hq := ((a_ρ18 _ _ _ (by first | exact xs_ (by decide) | exact xc_ (by decide) | omega)).trans ((a_ρ15 _ _ _ (by first | exact xs_ (by decide) | exact xc_ (by decide) | omega)).trans ((a_ρ13 _ _ _ (by first | exact xs_ (by decide) | exact xc_ (by decide) | omega)).trans ((a_ρ12 _ _ _ (by first | exact xs_ (by decide) | exact xc_ (by decide) | omega)).trans q_ρ10)))); exact hq.trans i0_12) (by have hq := ((a_ρ18 _ _ _ (by first | exact xs_ (by decide) | exact xc_ (by decide) | omega)).trans ((a_ρ15 _ _ _ (by first | exact xs_ (by decide) | exact xc_ (by decide) | omega)).trans ((a_ρ13 _ _ _ (by first | exact xs_ (by decide) | exact xc_ (by decide) | omega)).trans q_ρ12))); rw [hf.1]; omega) (by have hq := ((a_ρ18 _ _ _ (by first | exact xs_ (by decide) | exact xc_ (by decide) | omega)).trans ((a_ρ15 _ _ _ (by first | exact xs_ (by decide) | exact xc_ (by decide) | omega)).trans q_ρ13)); exact hq.trans i3_12) (by have hq := ((a_ρ18 _ _ _ (by first | exact xs_ (by decide) | exact xc_ (by decide) | omega)).trans q_ρ15); first | exact hq | exact hq.trans (a_ρ8 _ _ _ (by first | exact xs_ (by decide) | exact xc_ (by decide) | omega)) | exact hq.trans ((a_ρ9 _ _ _ (by first | exact xs_ (by decide) | exact xc_ (by decide) | omega)).trans (a_ρ8 _ _ _ (by first | exact xs_ (by decide) | exact xc_ (by decide) | omega))) | exact hq.trans ((a_ρ10 _ _ _ (by first | exact xs_ (by decide) | exact xc_ (by decide) | omega)).trans ((a_ρ9 _ _ _ (by first | exact xs_ (by decide) | exact xc_ (by decide) | omega)).trans (a_ρ8 _ _ _ (by first | exact xs_ (by decide) | exact xc_ (by decide) | omega)))) | exact hq.trans ((a_ρ12 _ _ _ (by first | exact xs_ (by decide) | exact xc_ (by decide) | omega)).trans ((a_ρ10 _ _ _ (by first | exact xs_ (by decide) | exact xc_ (by decide) | omega)).trans ((a_ρ9 _ _ _ (by first | exact xs_ (by decide) | exact xc_ (by decide) | omega)).trans (a_ρ8 _ _ _ (by first | exact xs_ (by decide) | exact xc_ (by decide) | omega))))) | exact hq.trans ((a_ρ13 _ _ _ (by first | exact xs_ (by decide) | exact xc_ (by decide) | omega)).trans ((a_ρ12 _ _ _ (by first | exact xs_ (by decide) | exact xc_ (by decide) | omega)).trans ((a_ρ10 _ _ _ (by first | exact xs_ (by decide) | exact xc_ (by decide) | omega)).trans ((a_ρ9 _ _ _ (by first | exact xs_ (by decide) | exact xc_ (by decide) | omega)).trans (a_ρ8 _ _ _ (by first | exact xs_ (by decide) | exact xc_ (by decide) | omega)))))) | exact hq.trans ((a_ρ15 _ _ _ (by first | exact xs_ (by decide) | exact xc_ (by decide) | omega)).trans ((a_ρ13 _ _ _ (by first | exact xs_ (by decide) | exact xc_ (by decide) | omega)).trans ((a_ρ12 _ _ _ (by first | exact xs_ (by decide) | exact xc_ (by decide) | omega)).trans ((a_ρ10 _ _ _ (by first | exact xs_ (by decide) | exact xc_ (by decide) | omega)).trans ((a_ρ9 _ _ _ (by first | exact xs_ (by decide) | exact xc_ (by decide) | omega)).trans (a_ρ8 _ _ _ (by first | exact xs_ (by decide) | exact xc_ (by decide) | omega))))))) | exact hq.trans ((a_ρ18 _ _ _ (by first | exact xs_ (by decide) | exact xc_ (by decide) | omega)).trans ((a_ρ15 _ _ _ (by first | exact xs_ (by decide) | exact xc_ (by decide) | omega)).trans ((a_ρ13 _ _ _ (by first | exact xs_ (by decide) | exact xc_ (by decide) | omega)).trans ((a_ρ12 _ _ _ (by first | exact xs_ (by decide) | exact xc_ (by decide) | omega)).trans ((a_ρ10 _ _ _ (by first | exact xs_ (by decide) | exact xc_ (by decide) | omega)).trans ((a_ρ9 _ _ _ (by first | exact xs_ (by decide) | exact xc_ (by decide) | omega)).trans (a_ρ8 _ _ _ (by first | exact xs_ (by decide) | exact xc_ (by decide) | omega))))))))) (by have hq := q_ρ18; first | exact hq | exact hq.trans (a_ρ8 _ _ _ (by first | exact xs_ (by decide) | exact xc_ (by decide) | omega)) | exact hq.trans ((a_ρ9 _ _ _ (by first | exact xs_ (by decide) | exact xc_ (by decide) | omega)).trans (a_ρ8 _ _ _ (by first | exact xs_ (by decide) | exact xc_ (by decide) | omega))) | exact hq.trans ((a_ρ10 _ _ _ (by first | exact xs_ (by decide) | exact xc_ (by decide) | omega)).trans ((a_ρ9 _ _ _ (by first | exact xs_ (by decide) | exact xc_ (by decide) | omega)).trans (a_ρ8 _ _ _ (by first | exact xs_ (by decide) | exact xc_ (by decide) | omega)))) | exact hq.trans ((a_ρ12 _ _ _ (by first | exact xs_ (by decide) | exact xc_ (by decide) | omega)).trans ((a_ρ10 _ _ _ (by first | exact xs_ (by decide) | exact xc_ (by decide) | omega)).trans ((a_ρ9 _ _ _ (by first | exact xs_ (by decide) | exact xc_ (by decide) | omega)).trans (a_ρ8 _ _ _ (by first | exact xs_ (by decide) | exact xc_ (by decide) | omega))))) | exact hq.trans ((a_ρ13 _ _ _ (by first | exact xs_ (by decide) | exact xc_ (by decide) | omega)).trans ((a_ρ12 _ _ _ (by first | exact xs_ (by decide) | exact xc_ (by decide) | omega)).trans ((a_ρ10 _ _ _ (by first | exact xs_ (by decide) | exact xc_ (by decide) | omega)).trans ((a_ρ9 _ _ _ (by first | exact xs_ (by decide) | exact xc_ (by decide) | omega)).trans (a_ρ8 _ _ _ (by first | exact xs_ (by decide) | exact xc_ (by decide) | omega)))))) | exact hq.trans ((a_ρ15 _ _ _ (by first | exact xs_ (by decide) | exact xc_ (by decide) | omega)).trans ((a_ρ13 _ _ _ (by first | exact xs_ (by decide) | exact xc_ (by decide) | omega)).trans ((a_ρ12 _ _ _ (by first | exact xs_ (by decide) | exact xc_ (by decide) | omega)).trans ((a_ρ10 _ _ _ (by first | exact xs_ (by decide) | exact xc_ (by decide) | omega)).trans ((a_ρ9 _ _ _ (by first | exact xs_ (by decide) | exact xc_ (by decide) | omega)).trans (a_ρ8 _ _ _ (by first | exact xs_ (by decide) | exact xc_ (by decide) | omega))))))) | exact hq.trans ((a_ρ18 _ _ _ (by first | exact xs_ (by decide) | exact xc_ (by decide) | omega)).trans ((a_ρ15 _ _ _ (by first | exact xs_ (by decide) | exact xc_ (by decide) | omega)).trans ((a_ρ13 _ _ _ (by first | exact xs_ (by decide) | exact xc_ (by decide) | omega)).trans ((a_ρ12 _ _ _ (by first | exact xs_ (by decide) | exact xc_ (by decide) | omega)).trans ((a_ρ10 _ _ _ (by first | exact xs_ (by decide) | exact xc_ (by decide) | omega)).trans ((a_ρ9 _ _ _ (by first | exact xs_ (by decide) | exact xc_ (by decide) | omega)).trans (a_ρ8 _ _ _ (by first | exact xs_ (by decide) | exact xc_ (by decide) | omega)))))))))
      · refine r_aload_n hC dX6_like_21 rfl ?_
        have i4_12 : w5 = 0 ∨ σ 37 0 w5 ≠ σ 37 0 (w5 - 1) := by rcases i4_12 with h | h | h; exact Or.inl h; exact Or.inr h; omega
        refine r_iload hC dX6_like_22 rfl ?_
        refine z_inv1 hM dX6_like_24 vl_RX6_170 rfl rfl rfl (Nat.le_of_ble_eq_true rfl) (Nat.le_of_ble_eq_true rfl) ?_
        refine y_alikeFrom (n := n) (by omega) qg0 hn (by omega) (fun v19 h_v19 p_v19 v_v19 e_v19 => ?_)
        have v_LX := v_v19
        have e_LX := e_v19
        refine r_istore hC dX6_like_27 rfl ?_
        have hrow := lke_row (v := σ 37 0) (i := w5) (t := v19) (by omega) (by omega) i4_12 v_v19
        refine r_iincE hC ((w1 + 1)) dX6_like_29 rfl rfl (by omega) (by unfold inR; omega) ?_
        refine r_iload hC dX6_like_32 rfl ?_
        refine r_iload_n hC dX6_like_34 rfl ?_
        refine r_icmp_gt (tgt := 41) hC dX6_like_35 rfl (fun h20 => ?_) (fun h20 => ?_)
        · refine r_iload hC dX6_like_41 rfl ?_
          refine r_istore_n hC dX6_like_43 rfl ?_
          refine r_aload_n hC dX6_like_44 rfl ?_
          refine z_getR hM dX6_like_45 fl_RX6_28 rfl rfl (vld_of (n := 1) rfl (by omega) (by omega)) ?_
          refine r_iload hC dX6_like_48 rfl ?_
          refine z_iald hM dX6_like_50 rfl (by omega) (by omega) (fun v21 h_v21 o_v21 t_v21 => ?_)
          have w_v21 := ((t_v21 (Or.inr (Or.inr (Or.inr ⟨rfl, by first | exact True.intro | exact (rfl : true = true)⟩)))).trans (rfl)).symm
          subst w_v21
          refine r_istore_n hC dX6_like_51 rfl ?_
          refine r_iload hC dX6_like_52 rfl ?_
          refine r_iload hC dX6_like_54 rfl ?_
          refine r_iaddE hC ((w5 + v19)) dX6_like_56 (by omega) (by unfold inR; omega) ?_
          refine r_istore hC dX6_like_57 rfl ?_
          refine r_goto (tgt := 12) hC dX6_like_59 rfl ?_
          exact ih12 ((w1 + 1)) (v19) ((σ 37 0 w5)) (v19) ((w5 + v19))  (by omega) (by omega) (by omega) (by omega) (by omega) (by first | rfl | (rw [hrow, ← i0_12])) (by first | rfl | (rw [hrow, ← i1_12]; dsimp only; omega)) (by first | rfl | (rw [hrow, ← i1_12, ← i2_12]; dsimp only; first | exact (if_pos (by omega)).symm | exact (if_neg (by omega)).symm)) (by first | rfl | (rw [hrow])) (by first | exact Or.inl rfl | exact lke_nx v_LX e_LX (by omega)) (by omega) (by omega) (by omega) (by omega)  
        · refine r_goto (tgt := 52) hC dX6_like_38 rfl ?_
          refine r_iload hC dX6_like_52 rfl ?_
          refine r_iload hC dX6_like_54 rfl ?_
          refine r_iaddE hC ((w5 + v19)) dX6_like_56 (by omega) (by unfold inR; omega) ?_
          refine r_istore hC dX6_like_57 rfl ?_
          refine r_goto (tgt := 12) hC dX6_like_59 rfl ?_
          exact ih12 ((w1 + 1)) (w2) (w3) (v19) ((w5 + v19))  (by omega) (by omega) (by omega) (by omega) (by omega) (by first | rfl | (rw [hrow, ← i0_12])) (by first | rfl | (rw [hrow, ← i1_12]; dsimp only; omega)) (by first | rfl | (rw [hrow, ← i1_12, ← i2_12]; dsimp only; first | exact (if_pos (by omega)).symm | exact (if_neg (by omega)).symm)) (by first | rfl | (rw [hrow])) (by first | exact Or.inl rfl | exact lke_nx v_LX e_LX (by omega)) (by omega) (by omega) (by omega) (by omega)  
  exact L12 244 (0) (0) (0) (0) (0)  (by omega) (by omega) (by omega) (by omega) (by omega) (by first | rfl | (rw [hrow, ← i0_12])) (by first | rfl | (rw [hrow, ← i1_12]; dsimp only; omega)) (by first | rfl | (rw [hrow, ← i1_12, ← i2_12]; dsimp only; first | exact (if_pos (by omega)).symm | exact (if_neg (by omega)).symm)) (by first | rfl | (rw [hrow])) (by first | exact Or.inl rfl | exact lke_nx v_LX e_LX (by omega)) (by omega) (by omega) (by omega) (by omega)  
-- B: the reference: comes, and its row
theorem y_goThrough {eb : Bool} {n : Nat} {d : Nat} {P : Option Vl → Mm → Prop} {σ : Mm} {o : Int} (b_o : 0 ≤ o ∧ o ≤ 9) (q8 : σ 30 0 8 = (n : Int)) (hn1 : 1 ≤ n) (hn : n ≤ 242) (hb : Bd (σ 37 0) n)  (k : ∀ ρ : Mm, Gx (fun c x y => c = 38 ∧ x = 0) σ ρ → (∀ k : Int, 0 ≤ k → k < numF o → ρ 38 0 k = cmN (σ 36 0) (σ 35 0) o (σ 37 0) n k) → P none ρ) : WT (true, eb, true) (d + 3) 158 [vR 30 0, vI o] σ P := by
  refine WT_in fun K hK => ?_
  have hK : StpY (true, eb, true) cX6_goThrough RX6 (none) (WT (true, eb, true) (d + 2)) P K := hK
  have hM := hK.1
  have hC := hK.1.1
  show K 0 [some (vR 30 0), some (vI o)] [] σ
  refine r_iload_n hC dX6_goThrough_0 rfl ?_
  rcases (by omega : (o < 0 ∨ 8 < o) ∨ o = 0 ∨ o = 1 ∨ o = 2 ∨ o = 3 ∨ o = 4 ∨ o = 5 ∨ o = 6 ∨ o = 7 ∨ o = 8) with h1 | h1 | h1 | h1 | h1 | h1 | h1 | h1 | h1 | h1
  · refine r_tableOut (tgt := 115) hC dX6_goThrough_1 h1 rfl ?_
    refine r_aload_n hC dX6_goThrough_115 rfl ?_
    refine z_inv0 hM dX6_goThrough_116 vl_RX6_157 rfl rfl rfl (Nat.le_of_ble_eq_true rfl) (Nat.le_of_ble_eq_true rfl) ?_
    have hk_ : o = 9 := by omega
    refine y_multiply (n := n) (t0 := σ 38 0 0) q8 rfl hn1 hn (fun ρ2 g_ρ2 e0 => ?_)
    have hall : ∀ k : Int, 0 ≤ k → k < numF o → ρ2 38 0 k = cmN (σ 36 0) (σ 35 0) o (σ 37 0) n k := by
      rw [hk_]
      intro k h0 h1
      have hN : numF 9 = 1 := rfl
      rw [hN] at h1
      rcases (by omega : k = 0) with rfl
      · exact e0
    refine y_vret hK rfl dX6_goThrough_119 ?_
    exact k _ g_ρ2 hall
  · refine r_tableIn (tgt := 52) (off := 51) hC dX6_goThrough_1 (by omega) (by omega) (by rw [h1]; rfl) rfl ?_
    refine r_aload_n hC dX6_goThrough_52 rfl ?_
    refine z_inv0 hM dX6_goThrough_53 vl_RX6_130 rfl rfl rfl (Nat.le_of_ble_eq_true rfl) (Nat.le_of_ble_eq_true rfl) ?_
    have hk_ : o = 0 := h1
    refine y_greatest (n := n) (t0 := σ 38 0 0) (t1 := σ 38 0 1) (t2 := σ 38 0 2) (t3 := σ 38 0 3) q8 rfl rfl rfl rfl hn1 hn (fun ρ3 g_ρ3 e0 e1 e2 e3 => ?_)
    have hall : ∀ k : Int, 0 ≤ k → k < numF o → ρ3 38 0 k = cmN (σ 36 0) (σ 35 0) o (σ 37 0) n k := by
      rw [hk_]
      intro k h0 h1
      have hN : numF 0 = 4 := rfl
      rw [hN] at h1
      rcases (by omega : k = 0 ∨ k = 1 ∨ k = 2 ∨ k = 3) with rfl | rfl | rfl | rfl
      · exact e0
      · exact e1
      · exact e2
      · exact e3
    refine r_goto (tgt := 119) hC dX6_goThrough_56 rfl ?_
    refine y_vret hK rfl dX6_goThrough_119 ?_
    exact k _ g_ρ3 hall
  · refine r_tableIn (tgt := 59) (off := 58) hC dX6_goThrough_1 (by omega) (by omega) (by rw [h1]; rfl) rfl ?_
    refine r_aload_n hC dX6_goThrough_59 rfl ?_
    refine z_inv0 hM dX6_goThrough_60 vl_RX6_133 rfl rfl rfl (Nat.le_of_ble_eq_true rfl) (Nat.le_of_ble_eq_true rfl) ?_
    have hk_ : o = 1 := h1
    refine y_share (n := n) (t0 := σ 38 0 0) (t1 := σ 38 0 1) q8 rfl rfl hn1 hn hb (fun ρ4 g_ρ4 e0 e1 => ?_)
    have hall : ∀ k : Int, 0 ≤ k → k < numF o → ρ4 38 0 k = cmN (σ 36 0) (σ 35 0) o (σ 37 0) n k := by
      rw [hk_]
      intro k h0 h1
      have hN : numF 1 = 2 := rfl
      rw [hN] at h1
      rcases (by omega : k = 0 ∨ k = 1) with rfl | rfl
      · exact e0
      · exact e1
    refine r_goto (tgt := 119) hC dX6_goThrough_63 rfl ?_
    refine y_vret hK rfl dX6_goThrough_119 ?_
    exact k _ g_ρ4 hall
  · refine r_tableIn (tgt := 66) (off := 65) hC dX6_goThrough_1 (by omega) (by omega) (by rw [h1]; rfl) rfl ?_
    refine r_aload_n hC dX6_goThrough_66 rfl ?_
    refine z_inv0 hM dX6_goThrough_67 vl_RX6_136 rfl rfl rfl (Nat.le_of_ble_eq_true rfl) (Nat.le_of_ble_eq_true rfl) ?_
    have hk_ : o = 2 := h1
    refine y_line (n := n) (t0 := σ 38 0 0) (t1 := σ 38 0 1) q8 rfl rfl hn1 hn hb (fun ρ5 g_ρ5 e0 e1 => ?_)
    have hall : ∀ k : Int, 0 ≤ k → k < numF o → ρ5 38 0 k = cmN (σ 36 0) (σ 35 0) o (σ 37 0) n k := by
      rw [hk_]
      intro k h0 h1
      have hN : numF 2 = 2 := rfl
      rw [hN] at h1
      rcases (by omega : k = 0 ∨ k = 1) with rfl | rfl
      · exact e0
      · exact e1
    refine r_goto (tgt := 119) hC dX6_goThrough_70 rfl ?_
    refine y_vret hK rfl dX6_goThrough_119 ?_
    exact k _ g_ρ5 hall
  · refine r_tableIn (tgt := 73) (off := 72) hC dX6_goThrough_1 (by omega) (by omega) (by rw [h1]; rfl) rfl ?_
    refine r_aload_n hC dX6_goThrough_73 rfl ?_
    refine z_inv0 hM dX6_goThrough_74 vl_RX6_139 rfl rfl rfl (Nat.le_of_ble_eq_true rfl) (Nat.le_of_ble_eq_true rfl) ?_
    have hk_ : o = 3 := h1
    refine y_run (n := n) (t0 := σ 38 0 0) (t1 := σ 38 0 1) (t2 := σ 38 0 2) (t3 := σ 38 0 3) q8 rfl rfl rfl rfl hn1 hn hb (fun ρ6 g_ρ6 e0 e1 e2 e3 => ?_)
    have hall : ∀ k : Int, 0 ≤ k → k < numF o → ρ6 38 0 k = cmN (σ 36 0) (σ 35 0) o (σ 37 0) n k := by
      rw [hk_]
      intro k h0 h1
      have hN : numF 3 = 4 := rfl
      rw [hN] at h1
      rcases (by omega : k = 0 ∨ k = 1 ∨ k = 2 ∨ k = 3) with rfl | rfl | rfl | rfl
      · exact e0
      · exact e1
      · exact e2
      · exact e3
    refine r_goto (tgt := 119) hC dX6_goThrough_77 rfl ?_
    refine y_vret hK rfl dX6_goThrough_119 ?_
    exact k _ g_ρ6 hall
  · refine r_tableIn (tgt := 80) (off := 79) hC dX6_goThrough_1 (by omega) (by omega) (by rw [h1]; rfl) rfl ?_
    refine r_aload_n hC dX6_goThrough_80 rfl ?_
    refine z_inv0 hM dX6_goThrough_81 vl_RX6_142 rfl rfl rfl (Nat.le_of_ble_eq_true rfl) (Nat.le_of_ble_eq_true rfl) ?_
    have hk_ : o = 4 := h1
    refine y_send (n := n) (t0 := σ 38 0 0) (t1 := σ 38 0 1) (t2 := σ 38 0 2) (t3 := σ 38 0 3) (t4 := σ 38 0 4) q8 rfl rfl rfl rfl rfl hn1 hn (fun ρ7 g_ρ7 e0 e1 e2 e3 e4 => ?_)
    have hall : ∀ k : Int, 0 ≤ k → k < numF o → ρ7 38 0 k = cmN (σ 36 0) (σ 35 0) o (σ 37 0) n k := by
      rw [hk_]
      intro k h0 h1
      have hN : numF 4 = 5 := rfl
      rw [hN] at h1
      rcases (by omega : k = 0 ∨ k = 1 ∨ k = 2 ∨ k = 3 ∨ k = 4) with rfl | rfl | rfl | rfl | rfl
      · exact e0
      · exact e1
      · exact e2
      · exact e3
      · exact e4.trans (if_neg (show ¬ n = 0 by omega)).symm
    refine r_goto (tgt := 119) hC dX6_goThrough_84 rfl ?_
    refine y_vret hK rfl dX6_goThrough_119 ?_
    exact k _ g_ρ7 hall
  · refine r_tableIn (tgt := 87) (off := 86) hC dX6_goThrough_1 (by omega) (by omega) (by rw [h1]; rfl) rfl ?_
    refine r_aload_n hC dX6_goThrough_87 rfl ?_
    refine z_inv0 hM dX6_goThrough_88 vl_RX6_145 rfl rfl rfl (Nat.le_of_ble_eq_true rfl) (Nat.le_of_ble_eq_true rfl) ?_
    have hk_ : o = 5 := h1
    refine y_nest (n := n) (t0 := σ 38 0 0) (t1 := σ 38 0 1) (t2 := σ 38 0 2) (t3 := σ 38 0 3) q8 rfl rfl rfl rfl hn1 hn (fun ρ8 g_ρ8 e0 e1 e2 e3 => ?_)
    have hall : ∀ k : Int, 0 ≤ k → k < numF o → ρ8 38 0 k = cmN (σ 36 0) (σ 35 0) o (σ 37 0) n k := by
      rw [hk_]
      intro k h0 h1
      have hN : numF 5 = 4 := rfl
      rw [hN] at h1
      rcases (by omega : k = 0 ∨ k = 1 ∨ k = 2 ∨ k = 3) with rfl | rfl | rfl | rfl
      · exact e0
      · exact e1
      · exact e2
      · exact e3
    refine r_goto (tgt := 119) hC dX6_goThrough_91 rfl ?_
    refine y_vret hK rfl dX6_goThrough_119 ?_
    exact k _ g_ρ8 hall
  · refine r_tableIn (tgt := 94) (off := 93) hC dX6_goThrough_1 (by omega) (by omega) (by rw [h1]; rfl) rfl ?_
    refine r_aload_n hC dX6_goThrough_94 rfl ?_
    refine z_inv0 hM dX6_goThrough_95 vl_RX6_148 rfl rfl rfl (Nat.le_of_ble_eq_true rfl) (Nat.le_of_ble_eq_true rfl) ?_
    have hk_ : o = 6 := h1
    refine y_like (n := n) (t0 := σ 38 0 0) (t1 := σ 38 0 1) (t2 := σ 38 0 2) (t3 := σ 38 0 3) (t4 := σ 38 0 4) (t5 := σ 38 0 5) (t6 := σ 38 0 6) q8 rfl rfl rfl rfl rfl rfl rfl hn1 hn (fun ρ9 g_ρ9 e0 e1 e2 e3 e4 e5 e6 => ?_)
    have hall : ∀ k : Int, 0 ≤ k → k < numF o → ρ9 38 0 k = cmN (σ 36 0) (σ 35 0) o (σ 37 0) n k := by
      rw [hk_]
      intro k h0 h1
      have hN : numF 6 = 7 := rfl
      rw [hN] at h1
      rcases (by omega : k = 0 ∨ k = 1 ∨ k = 2 ∨ k = 3 ∨ k = 4 ∨ k = 5 ∨ k = 6) with rfl | rfl | rfl | rfl | rfl | rfl | rfl
      · exact e0
      · exact e1
      · exact e2
      · exact e3
      · exact e4
      · exact e5.trans (if_neg (show ¬ n = 0 by omega)).symm
      · exact e6.trans (if_neg (show ¬ n = 0 by omega)).symm
    refine r_goto (tgt := 119) hC dX6_goThrough_98 rfl ?_
    refine y_vret hK rfl dX6_goThrough_119 ?_
    exact k _ g_ρ9 hall
  · refine r_tableIn (tgt := 101) (off := 100) hC dX6_goThrough_1 (by omega) (by omega) (by rw [h1]; rfl) rfl ?_
    refine r_aload_n hC dX6_goThrough_101 rfl ?_
    refine z_inv0 hM dX6_goThrough_102 vl_RX6_151 rfl rfl rfl (Nat.le_of_ble_eq_true rfl) (Nat.le_of_ble_eq_true rfl) ?_
    have hk_ : o = 7 := h1
    refine y_steps (n := n) (t0 := σ 38 0 0) (t1 := σ 38 0 1) (t2 := σ 38 0 2) (t3 := σ 38 0 3) (t4 := σ 38 0 4) q8 rfl rfl rfl rfl rfl hn1 hn (fun ρ10 g_ρ10 e0 e1 e2 e3 e4 => ?_)
    have hall : ∀ k : Int, 0 ≤ k → k < numF o → ρ10 38 0 k = cmN (σ 36 0) (σ 35 0) o (σ 37 0) n k := by
      rw [hk_]
      intro k h0 h1
      have hN : numF 7 = 5 := rfl
      rw [hN] at h1
      rcases (by omega : k = 0 ∨ k = 1 ∨ k = 2 ∨ k = 3 ∨ k = 4) with rfl | rfl | rfl | rfl | rfl
      · exact e0
      · exact e1
      · exact e2.trans (if_neg (show ¬ n = 0 by omega)).symm
      · exact e3.trans (if_neg (show ¬ n = 0 by omega)).symm
      · exact e4
    refine r_goto (tgt := 119) hC dX6_goThrough_105 rfl ?_
    refine y_vret hK rfl dX6_goThrough_119 ?_
    exact k _ g_ρ10 hall
  · refine r_tableIn (tgt := 108) (off := 107) hC dX6_goThrough_1 (by omega) (by omega) (by rw [h1]; rfl) rfl ?_
    refine r_aload_n hC dX6_goThrough_108 rfl ?_
    refine z_inv0 hM dX6_goThrough_109 vl_RX6_154 rfl rfl rfl (Nat.le_of_ble_eq_true rfl) (Nat.le_of_ble_eq_true rfl) ?_
    have hk_ : o = 8 := h1
    refine y_spread (n := n) (t0 := σ 38 0 0) (t1 := σ 38 0 1) (t2 := σ 38 0 2) q8 rfl rfl rfl hn1 hn (fun ρ11 g_ρ11 e0 e1 e2 => ?_)
    have hall : ∀ k : Int, 0 ≤ k → k < numF o → ρ11 38 0 k = cmN (σ 36 0) (σ 35 0) o (σ 37 0) n k := by
      rw [hk_]
      intro k h0 h1
      have hN : numF 8 = 3 := rfl
      rw [hN] at h1
      rcases (by omega : k = 0 ∨ k = 1 ∨ k = 2) with rfl | rfl | rfl
      · exact e0
      · exact e1
      · exact e2
    refine r_goto (tgt := 119) hC dX6_goThrough_112 rfl ?_
    refine y_vret hK rfl dX6_goThrough_119 ?_
    exact k _ g_ρ11 hall
def RWP (ρ : Mm) (u : Int → Int) (n : Nat) : Prop := ρ 30 0 8 = (n : Int) ∧ ∀ j : Int, 0 ≤ j → j < (n : Int) → ρ 37 0 j = u j
theorem RWP.nil {ρ : Mm} {u : Int → Int} (h : ρ 30 0 8 = 0) : RWP ρ u 0 := ⟨h, fun j h0 h1 => by omega⟩
theorem RWP.ext {ρ ρ2 : Mm} {u : Int → Int} {n : Nat} (h : RWP ρ u n) (h8 : ρ2 30 0 8 = ρ 30 0 8) (h37 : ∀ j : Int, ρ2 37 0 j = ρ 37 0 j) : RWP ρ2 u n := ⟨h8.trans h.1, fun j a b => (h37 j).trans (h.2 j a b)⟩
theorem RWP.cg {ρ : Mm} {u v : Int → Int} {n : Nat} (h : RWP ρ u n) (e : ∀ j : Int, 0 ≤ j → j < (n : Int) → u j = v j) : RWP ρ v n := ⟨h.1, fun j a b => (h.2 j a b).trans (e j a b)⟩
theorem Bd.cg {u v : Int → Int} {n : Nat} (h : Bd u n) (e : ∀ j : Int, 0 ≤ j → j < (n : Int) → v j = u j) : Bd v n := fun j a b => by rw [e j a b]; exact h j a b
theorem y_comes {eb : Bool} {n : Nat} {u : Int → Int} {d : Nat} {P : Option Vl → Mm → Prop} {σ : Mm} {o w : Int} (b_o : 0 ≤ o ∧ o ≤ 9) (b_w : 0 ≤ w ∧ w ≤ 6) (hw : w < numF o) (hn : n ≤ 242) (hR : RWP σ u n) (hb : Bd u n)  (k : ∀ ρ : Mm, Gx (fun c x y => c = 38 ∧ x = 0) σ ρ → P (some (vI ((cm (σ 36 0) (σ 35 0) o u n w)))) ρ) : WT (true, eb, true) (d + 4) 159 [vR 30 0, vI o, vI w] σ P := by
  refine WT_in fun K hK => ?_
  have hK : StpY (true, eb, true) cX6_comes RX6 (some .int) (WT (true, eb, true) (d + 3)) P K := hK
  have hM := hK.1
  have hC := hK.1.1
  show K 0 [some (vR 30 0), some (vI o), some (vI w)] [] σ
  refine r_aload_n hC dX6_comes_0 rfl ?_
  refine z_getI (jz := 8) hM dX6_comes_1 fl_RX6_105 rfl rfl rfl (fun v1 h_v1 o_v1 t_v1 => ?_)
  have w_v1 := ((t_v1 (Or.inr (Or.inr (Or.inr ⟨rfl, rfl⟩)))).trans (rfl)).symm
  subst w_v1
  have q_v1 : 0 ≤ (σ 30 0 8) ∧ (σ 30 0 8) ≤ 242 := o_v1 rfl
  refine r_if_ne (tgt := 10) hC dX6_comes_4 rfl (fun h2 => ?_) (fun h2 => ?_)
  · refine r_aload_n hC dX6_comes_10 rfl ?_
    refine r_iload_n hC dX6_comes_11 rfl ?_
    refine z_inv1 hM dX6_comes_12 vl_RX6_161 rfl rfl rfl (Nat.le_of_ble_eq_true rfl) (Nat.le_of_ble_eq_true rfl) ?_
    have hbu : Bd (σ 37 0) n := hb.cg hR.2
    refine y_goThrough (by omega) hR.1 (by have := hR.1; omega) hn hbu (fun ρ3 g_ρ3 c_ρ3 => ?_)
    refine r_aload_n hC dX6_comes_15 rfl ?_
    refine z_getR hM dX6_comes_16 fl_RX6_31 rfl rfl (vld_of (n := 1) rfl (by omega) (by omega)) ?_
    refine r_iload_n hC dX6_comes_19 rfl ?_
    refine z_iald hM dX6_comes_20 rfl (by omega) (by omega) (fun v4 h_v4 o_v4 t_v4 => ?_)
    have w_v4 := ((t_v4 (Or.inr (Or.inr (Or.inr ⟨rfl, by first | exact True.intro | exact (rfl : true = true)⟩)))).trans (rfl)).symm
    subst w_v4
    refine y_iret hK rfl dX6_comes_21 ?_
    have e : (cm (σ 36 0) (σ 35 0) o u n w) = (ρ3 38 0 w) := by
      rw [c_ρ3 w (by omega) (by omega)]
      exact (if_neg (by have := hR.1; omega)).trans (cmN_c (fun j a b => (hR.2 j a b).symm))
    rw [e] at k
    exact k _ g_ρ3
  · refine r_ldc hC dX6_comes_7 co_RX6_160 rfl ?_
    refine y_iret hK rfl dX6_comes_9 ?_
    have e : (cm (σ 36 0) (σ 35 0) o u n w) = -2147483648 := if_pos (Or.inl (by have := hR.1; omega))
    rw [e] at k
    exact k σ Gx.rf
theorem y_clearRow {eb : Bool} {d : Nat} {P : Option Vl → Mm → Prop} {σ : Mm}   (k : P none (mu σ 30 0 8 0)) : WT (true, eb, true) (d + 1) 152 [vR 30 0] σ P := by
  refine WT_in fun K hK => ?_
  have hK : StpY (true, eb, true) cX6_clearRow RX6 (none) (WT (true, eb, true) (d + 0)) P K := hK
  have hM := hK.1
  have hC := hK.1.1
  show K 0 [some (vR 30 0)] [] σ
  refine r_aload_n hC dX6_clearRow_0 rfl ?_
  refine r_iconst hC dX6_clearRow_1 rfl ?_
  refine z_putIT (jz := 8) hM dX6_clearRow_2 fw_RX6_105 rfl rfl rfl ⟨Or.inr (by simp [DL]), Or.inr (by simp [DF])⟩ (by first | trivial | (simp only [Okv]; omega) | (simp [Okv]; try omega)) ?_
  refine y_vret hK rfl dX6_clearRow_5 ?_
  exact k
theorem y_put {eb : Bool} {n : Nat} {u : Int → Int} {d : Nat} {P : Option Vl → Mm → Prop} {σ : Mm} {v : Int}  (hn : n ≤ 241) (hR : RWP σ u n) (hv : v = u n)  (k : ∀ ρ : Mm, Gx (fun c x y => c = 30 ∧ x = 0 ∧ y = 8 ∨ c = 37 ∧ x = 0) σ ρ → RWP ρ u (n + 1) → P none ρ) : WT (true, eb, true) (d + 1) 153 [vR 30 0, vI v] σ P := by
  refine WT_in fun K hK => ?_
  have hK : StpY (true, eb, true) cX6_put RX6 (none) (WT (true, eb, true) (d + 0)) P K := hK
  have hM := hK.1
  have hC := hK.1.1
  show K 0 [some (vR 30 0), some (vI v)] [] σ
  refine r_rngz hC (fun g0 => ?_)
  have r_v : -2147483648 ≤ v ∧ v ≤ 2147483647 := inR_le (g0 (vI v) (by simp))
  have h8 := hR.1
  refine r_aload_n hC dX6_put_0 rfl ?_
  refine z_getR hM dX6_put_1 fl_RX6_28 rfl rfl (vld_of (n := 1) rfl (by omega) (by omega)) ?_
  refine r_aload_n hC dX6_put_4 rfl ?_
  refine z_getI (jz := 8) hM dX6_put_5 fl_RX6_105 rfl rfl rfl (fun v1 h_v1 o_v1 t_v1 => ?_)
  have w_v1 := ((t_v1 (Or.inr (Or.inr (Or.inr ⟨rfl, rfl⟩)))).trans (rfl)).symm
  subst w_v1
  have q_v1 : 0 ≤ (σ 30 0 8) ∧ (σ 30 0 8) ≤ 242 := o_v1 rfl
  refine r_iload_n hC dX6_put_8 rfl ?_
  refine z_iastT hM dX6_put_9 rfl (by omega) (by omega) ⟨Or.inr (by simp [DL]), Or.inr (by simp [DF])⟩ (by first | trivial | (simp only [Okv]; omega) | (simp [Okv]; try omega)) ?_
  refine r_aload_n hC dX6_put_10 rfl ?_
  refine r_dup hC dX6_put_11 rfl ?_
  refine z_getI (jz := 8) hM dX6_put_12 fl_RX6_105 rfl rfl rfl (fun v2 h_v2 o_v2 t_v2 => ?_)
  have w_v2 := ((t_v2 (Or.inr (Or.inr (Or.inr ⟨rfl, rfl⟩)))).trans ((mu_ne (by omega)).trans (rfl))).symm
  subst w_v2
  have q_v2 : 0 ≤ (σ 30 0 8) ∧ (σ 30 0 8) ≤ 242 := o_v2 rfl
  refine r_iconst hC dX6_put_15 rfl ?_
  refine r_iaddE hC (((σ 30 0 8) + 1)) dX6_put_16 (by omega) (by unfold inR; omega) ?_
  refine z_putIT (jz := 8) hM dX6_put_17 fw_RX6_105 rfl rfl rfl ⟨Or.inr (by simp [DL]), Or.inr (by simp [DF])⟩ (by first | trivial | (simp only [Okv]; omega) | (simp [Okv]; try omega)) ?_
  refine y_vret hK rfl dX6_put_20 ?_
  refine k _ (fun c x y h => (mu_ne (by omega)).trans (mu_ne (by omega))) ⟨(mu_self _ _ _ _ _).trans (by omega), fun j a b => (mu_ne (by omega)).trans ?_⟩
  by_cases hj : j = σ 30 0 8
  · subst hj
    rw [mu_self, hv, h8]
  · rw [mu_ne (by omega)]
    exact hR.2 j a (by omega)
theorem y_putFrom {eb : Bool} {n : Nat} {u : Int → Int} {d : Nat} {P : Option Vl → Mm → Prop} {σ : Mm} {l f z : Int} (b_l : 0 ≤ l ∧ l ≤ 7) (b_f : 0 ≤ f ∧ f ≤ 121) (b_z : -2147483648 ≤ z ∧ z ≤ 120) (hn : (n : Int) ≤ 242) (hz : f ≤ z → (n : Int) + (z + 1 - f) ≤ 242) (hR : RWP σ u n) (hu : ∀ j : Int, f ≤ j → j ≤ z → u ((n : Int) + (j - f)) = σ 33 0 (121 * l + j))  (k : ∀ ρ : Mm, Gx (fun c x y => c = 30 ∧ x = 0 ∧ y = 8 ∨ c = 37 ∧ x = 0) σ ρ → RWP ρ u (n + (z + 1 - f).toNat) → P none ρ) : WT (true, eb, true) (d + 2) 154 [vR 30 0, vI l, vI f, vI z] σ P := by
  refine WT_in fun K hK => ?_
  have hK : StpY (true, eb, true) cX6_putFrom RX6 (none) (WT (true, eb, true) (d + 1)) P K := hK
  have hM := hK.1
  have hC := hK.1.1
  show K 0 [some (vR 30 0), some (vI l), some (vI f), some (vI z), none] [] σ
  refine r_iload_n hC dX6_putFrom_0 rfl ?_
  refine r_istore hC dX6_putFrom_1 rfl ?_
  have L3 : ∀ (n3 : Nat) (w1 : Int) (ρ2 : Mm), 0 ≤ w1 ∧ w1 ≤ 121 → (f ≤ (w1)) → ((w1) ≤ z + 1 ∨ (w1) = f) → 121 - w1 < (n3 : Int) → (Gx (fun c x y => c = 30 ∧ x = 0 ∧ y = 8 ∨ c = 37 ∧ x = 0) σ ρ2) → (RWP ρ2 u (n + ((w1) - f).toNat)) → K 3 [some (vR 30 0), some (vI l), some (vI f), some (vI z), some (vI w1)] [] ρ2 := by
    intro n3
    induction n3 with
    | zero => intro w1 ρ2 f_w1 i0_3 i1_3 hm  m0_3 m1_3; omega
    | succ n3 ih3 =>
      intro w1 ρ2 f_w1 i0_3 i1_3 hm3  m0_3 m1_3
      refine r_iload hC dX6_putFrom_3 rfl ?_
      refine r_iload_n hC dX6_putFrom_5 rfl ?_
      refine r_icmp_gt (tgt := 31) hC dX6_putFrom_6 rfl (fun h3 => ?_) (fun h3 => ?_)
      · refine y_vret hK rfl dX6_putFrom_31 ?_
        exact k _ m0_3 (by have h := m1_3; rw [show (w1 - f).toNat = (z + 1 - f).toNat from by omega] at h; exact h)
      · refine r_aload_n hC dX6_putFrom_9 rfl ?_
        refine r_aload_n hC dX6_putFrom_10 rfl ?_
        refine z_getR hM dX6_putFrom_11 fl_RX6_16 rfl rfl (vld_of (n := 1) rfl (by omega) (by omega)) ?_
        refine r_bipush hC dX6_putFrom_14 rfl ?_
        refine r_iload_n hC dX6_putFrom_16 rfl ?_
        refine r_imulE hC ((121 * l)) dX6_putFrom_17 (by omega) (by unfold inR; omega) ?_
        refine r_iload hC dX6_putFrom_18 rfl ?_
        refine r_iaddE hC (((121 * l) + w1)) dX6_putFrom_20 (by omega) (by unfold inR; omega) ?_
        refine z_iald hM dX6_putFrom_21 rfl (by omega) (by omega) (fun v4 h_v4 o_v4 t_v4 => ?_)
        have w_v4 := ((t_v4 (Or.inl trivial)).trans (rfl)).symm
        subst w_v4
        refine z_inv1 hM dX6_putFrom_22 vl_RX6_109 rfl rfl rfl (Nat.le_of_ble_eq_true rfl) (Nat.le_of_ble_eq_true rfl) ?_
        refine y_put (n := (n + (w1 - f).toNat)) (u := u) (by omega) m1_3 (by rw [show (((n + (w1 - f).toNat) : Nat) : Int) = (n : Int) + (w1 - f) from by omega, hu w1 (by omega) (by omega)]; exact m0_3 33 0 _ (by omega)) (fun ρ5 g_ρ5 r_ρ5 => ?_)
        refine r_iincE hC ((w1 + 1)) dX6_putFrom_25 rfl rfl (by omega) (by unfold inR; omega) ?_
        refine r_goto (tgt := 3) hC dX6_putFrom_28 rfl ?_
        exact ih3 ((w1 + 1)) ρ5 (by omega) (by omega) (by omega) (by omega)  (Gx.gx m0_3 g_ρ5 (fun _ _ _ h => h)) (by rw [show n + ((w1 + 1) - f).toNat = n + (w1 - f).toNat + 1 from by omega]; exact r_ρ5)
  exact L3 123 (f) σ (by omega) (by omega) (by omega) (by omega)  (Gx.rf) (by rw [show n + (f - f).toNat = n from by omega]; exact hR)
-- B: the reference's places, held against the class's: V is told in the class's places; t: the last LANE that is looked at (6, or 7 with the one that is tried)
abbrev P7 (s f : Int) : Prop := (s = 1 ∧ f = 0) ∨ (s = 2 ∧ f = 1) ∨ (s = 3 ∧ f = 2) ∨ (s = 4 ∧ f = 3) ∨ (s = 5 ∧ f = 4) ∨ (s = 6 ∧ f = 5) ∨ (s = 10 ∧ f = 6) ∨ (s = 12 ∧ f = 8) ∨ (s = 13 ∧ f = 9) ∨ (s = 14 ∧ f = 10) ∨ (s = 15 ∧ f = 11)
abbrev P11 (s f : Int) : Prop := (s = 0 ∧ f = 12) ∨ (s = 1 ∧ f = 13) ∨ (s = 2 ∧ f = 14) ∨ (s = 3 ∧ f = 15) ∨ (s = 4 ∧ f = 18) ∨ (s = 5 ∧ f = 19) ∨ (s = 6 ∧ f = 20)
/-- the reference holds what V says; the class's places are those of σ0 -/
def SB (t : Int) (σ0 V ρ : Mm) : Prop :=
  (∀ l s f : Int, 0 ≤ l → l ≤ t → P7 s f → ρ 31 0 (22 * l + f) = V 7 l s) ∧
  (∀ l s f : Int, 0 ≤ l → l ≤ t → P11 s f → ρ 31 0 (22 * l + f) = V 11 l s) ∧
  (∀ l y : Int, 0 ≤ l → l ≤ t → 0 ≤ y → y ≤ 120 → ρ 32 0 (121 * l + y) = V 8 l y ∧ ρ 33 0 (121 * l + y) = V 9 l y ∧ ρ 34 0 (121 * l + y) = V 10 l y) ∧
  (∀ w : Int, 0 ≤ w → w ≤ 7 → ρ 39 0 w = V 12 w 0 ∧ ρ 40 0 w = V 12 w 1 ∧ ρ 41 0 w = V 12 w 2 ∧ ρ 42 0 w = V 12 w 3 ∧ ρ 43 0 w = V 12 w 4 ∧ ρ 44 0 w = V 12 w 5) ∧
  (∀ i : Int, 0 ≤ i → i ≤ 3 → ρ 45 0 i = V 13 i 0 ∧ ρ 46 0 i = V 13 i 1 ∧ ρ 47 0 i = V 13 i 2 ∧ ρ 48 0 i = V 13 i 3) ∧
  (∀ j : Int, 0 ≤ j → j ≤ 15 → ρ 35 0 j = V 15 0 j) ∧
  (∀ j : Int, 0 ≤ j → j ≤ 7 → ρ 36 0 j = V 16 0 j) ∧
  (∀ (c : Nat) (x y : Int), c < 30 → ρ c x y = σ0 c x y)
/-- whether a FLIP goes on is told as it is in V -/
def KF (t : Int) (V ρ : Mm) : Prop := ∀ l : Int, 0 ≤ l → l ≤ t → ρ 31 0 (22 * l + 16) = (if V 11 l 3 = 0 then 0 else 1) ∧ ρ 31 0 (22 * l + 17) = 0
/-- from which LANE a BOX is -/
def FB (V ρ : Mm) : Prop := ∀ l : Int, 4 ≤ l → l ≤ 6 → V 7 l 1 = 1 → ρ 31 0 (22 * l + 21) = V 7 l 0
def RS (t : Int) (σ0 V ρ : Mm) : Prop := SB t σ0 V ρ ∧ KF t V ρ ∧ FB V ρ
theorem SB.a7 {t : Int} {σ0 V ρ : Mm} (h : SB t σ0 V ρ) {l s f : Int} (h0 : 0 ≤ l) (h1 : l ≤ t) (hp : P7 s f) : ρ 31 0 (22 * l + f) = V 7 l s := h.1 l s f h0 h1 hp
theorem SB.a70 {t : Int} {σ0 V ρ : Mm} (h : SB t σ0 V ρ) {l : Int} (h0 : 0 ≤ l) (h1 : l ≤ t) : ρ 31 0 (22 * l) = V 7 l 1 := by
  have := h.1 l 1 0 h0 h1 (Or.inl ⟨rfl, rfl⟩)
  rw [Int.add_zero] at this
  exact this
theorem SB.a11 {t : Int} {σ0 V ρ : Mm} (h : SB t σ0 V ρ) {l s f : Int} (h0 : 0 ≤ l) (h1 : l ≤ t) (hp : P11 s f) : ρ 31 0 (22 * l + f) = V 11 l s := h.2.1 l s f h0 h1 hp
theorem SB.a8 {t : Int} {σ0 V ρ : Mm} (h : SB t σ0 V ρ) {l y : Int} (h0 : 0 ≤ l) (h1 : l ≤ t) (h2 : 0 ≤ y) (h3 : y ≤ 120) : ρ 32 0 (121 * l + y) = V 8 l y := (h.2.2.1 l y h0 h1 h2 h3).1
theorem SB.a9 {t : Int} {σ0 V ρ : Mm} (h : SB t σ0 V ρ) {l y : Int} (h0 : 0 ≤ l) (h1 : l ≤ t) (h2 : 0 ≤ y) (h3 : y ≤ 120) : ρ 33 0 (121 * l + y) = V 9 l y := (h.2.2.1 l y h0 h1 h2 h3).2.1
theorem SB.a10 {t : Int} {σ0 V ρ : Mm} (h : SB t σ0 V ρ) {l y : Int} (h0 : 0 ≤ l) (h1 : l ≤ t) (h2 : 0 ≤ y) (h3 : y ≤ 120) : ρ 34 0 (121 * l + y) = V 10 l y := (h.2.2.1 l y h0 h1 h2 h3).2.2
theorem SB.w0 {t : Int} {σ0 V ρ : Mm} (h : SB t σ0 V ρ) {w : Int} (h0 : 0 ≤ w) (h1 : w ≤ 7) : ρ 39 0 w = V 12 w 0 := (h.2.2.2.1 w h0 h1).1
theorem SB.w1 {t : Int} {σ0 V ρ : Mm} (h : SB t σ0 V ρ) {w : Int} (h0 : 0 ≤ w) (h1 : w ≤ 7) : ρ 40 0 w = V 12 w 1 := (h.2.2.2.1 w h0 h1).2.1
theorem SB.w2 {t : Int} {σ0 V ρ : Mm} (h : SB t σ0 V ρ) {w : Int} (h0 : 0 ≤ w) (h1 : w ≤ 7) : ρ 41 0 w = V 12 w 2 := (h.2.2.2.1 w h0 h1).2.2.1
theorem SB.w3 {t : Int} {σ0 V ρ : Mm} (h : SB t σ0 V ρ) {w : Int} (h0 : 0 ≤ w) (h1 : w ≤ 7) : ρ 42 0 w = V 12 w 3 := (h.2.2.2.1 w h0 h1).2.2.2.1
theorem SB.w4 {t : Int} {σ0 V ρ : Mm} (h : SB t σ0 V ρ) {w : Int} (h0 : 0 ≤ w) (h1 : w ≤ 7) : ρ 43 0 w = V 12 w 4 := (h.2.2.2.1 w h0 h1).2.2.2.2.1
theorem SB.w5 {t : Int} {σ0 V ρ : Mm} (h : SB t σ0 V ρ) {w : Int} (h0 : 0 ≤ w) (h1 : w ≤ 7) : ρ 44 0 w = V 12 w 5 := (h.2.2.2.1 w h0 h1).2.2.2.2.2
theorem SB.k0 {t : Int} {σ0 V ρ : Mm} (h : SB t σ0 V ρ) {i : Int} (h0 : 0 ≤ i) (h1 : i ≤ 3) : ρ 45 0 i = V 13 i 0 := (h.2.2.2.2.1 i h0 h1).1
theorem SB.k1 {t : Int} {σ0 V ρ : Mm} (h : SB t σ0 V ρ) {i : Int} (h0 : 0 ≤ i) (h1 : i ≤ 3) : ρ 46 0 i = V 13 i 1 := (h.2.2.2.2.1 i h0 h1).2.1
theorem SB.k2 {t : Int} {σ0 V ρ : Mm} (h : SB t σ0 V ρ) {i : Int} (h0 : 0 ≤ i) (h1 : i ≤ 3) : ρ 47 0 i = V 13 i 2 := (h.2.2.2.2.1 i h0 h1).2.2.1
theorem SB.k3 {t : Int} {σ0 V ρ : Mm} (h : SB t σ0 V ρ) {i : Int} (h0 : 0 ≤ i) (h1 : i ≤ 3) : ρ 48 0 i = V 13 i 3 := (h.2.2.2.2.1 i h0 h1).2.2.2
theorem SB.t15 {t : Int} {σ0 V ρ : Mm} (h : SB t σ0 V ρ) {j : Int} (h0 : 0 ≤ j) (h1 : j ≤ 15) : ρ 35 0 j = V 15 0 j := h.2.2.2.2.2.1 j h0 h1
theorem SB.t16 {t : Int} {σ0 V ρ : Mm} (h : SB t σ0 V ρ) {j : Int} (h0 : 0 ≤ j) (h1 : j ≤ 7) : ρ 36 0 j = V 16 0 j := h.2.2.2.2.2.2.1 j h0 h1
theorem SB.cl {t : Int} {σ0 V ρ : Mm} (h : SB t σ0 V ρ) {c : Nat} (x y : Int) (hc : c < 30) : ρ c x y = σ0 c x y := h.2.2.2.2.2.2.2 c x y hc
abbrev Sc (c : Nat) : Prop := c = 30 ∨ c = 37 ∨ c = 38 ∨ (49 ≤ c ∧ c ≤ 52)
theorem SB.sc {t : Int} {σ0 V ρ ρ2 : Mm} (h : SB t σ0 V ρ) (e : ∀ (c : Nat) (x y : Int), ¬ Sc c → ρ2 c x y = ρ c x y) : SB t σ0 V ρ2 := by
  obtain ⟨q1, q2, q3, q4, q5, q6, q7, q8⟩ := h
  refine ⟨fun m u g x y z => ?_, fun m u g x y z => ?_, fun m u x y z k => ?_, fun k x y => ?_, fun k x y => ?_, fun k x y => ?_, fun k x y => ?_, fun c x y z => ?_⟩
  · rw [e _ _ _ (by omega)]; exact q1 m u g x y z
  · rw [e _ _ _ (by omega)]; exact q2 m u g x y z
  · rw [e _ _ _ (by omega), e _ _ _ (by omega), e _ _ _ (by omega)]; exact q3 m u x y z k
  · rw [e _ _ _ (by omega), e _ _ _ (by omega), e _ _ _ (by omega), e _ _ _ (by omega), e _ _ _ (by omega), e _ _ _ (by omega)]; exact q4 k x y
  · rw [e _ _ _ (by omega), e _ _ _ (by omega), e _ _ _ (by omega), e _ _ _ (by omega)]; exact q5 k x y
  · rw [e _ _ _ (by omega)]; exact q6 k x y
  · rw [e _ _ _ (by omega)]; exact q7 k x y
  · rw [e _ _ _ (by omega)]; exact q8 c x y z
theorem SB.v {t : Int} {σ0 V ρ W : Mm} (h : SB t σ0 V ρ) (e : ∀ (c : Nat) (x y : Int), c < 30 → W c x y = V c x y) : SB t σ0 W ρ := by
  obtain ⟨q1, q2, q3, q4, q5, q6, q7, q8⟩ := h
  refine ⟨fun m u g x y z => ?_, fun m u g x y z => ?_, fun m u x y z k => ?_, fun k x y => ?_, fun k x y => ?_, fun k x y => ?_, fun k x y => ?_, fun c x y z => ?_⟩
  · rw [e _ _ _ (by omega)]; exact q1 m u g x y z
  · rw [e _ _ _ (by omega)]; exact q2 m u g x y z
  · rw [e _ _ _ (by omega), e _ _ _ (by omega), e _ _ _ (by omega)]; exact q3 m u x y z k
  · rw [e _ _ _ (by omega), e _ _ _ (by omega), e _ _ _ (by omega), e _ _ _ (by omega), e _ _ _ (by omega), e _ _ _ (by omega)]; exact q4 k x y
  · rw [e _ _ _ (by omega), e _ _ _ (by omega), e _ _ _ (by omega), e _ _ _ (by omega)]; exact q5 k x y
  · rw [e _ _ _ (by omega)]; exact q6 k x y
  · rw [e _ _ _ (by omega)]; exact q7 k x y
  · exact q8 c x y z
theorem KF.sc {t : Int} {V ρ ρ2 : Mm} (h : KF t V ρ) (e : ∀ (c : Nat) (x y : Int), ¬ Sc c → ρ2 c x y = ρ c x y) : KF t V ρ2 := fun l a b => by
  rw [e _ _ _ (by omega), e _ _ _ (by omega)]; exact h l a b
theorem FB.sc {V ρ ρ2 : Mm} (h : FB V ρ) (e : ∀ (c : Nat) (x y : Int), ¬ Sc c → ρ2 c x y = ρ c x y) : FB V ρ2 := fun l a b c => by
  rw [e _ _ _ (by omega)]; exact h l a b c
theorem RS.sc {t : Int} {σ0 V ρ ρ2 : Mm} (h : RS t σ0 V ρ) (e : ∀ (c : Nat) (x y : Int), ¬ Sc c → ρ2 c x y = ρ c x y) : RS t σ0 V ρ2 := ⟨h.1.sc e, h.2.1.sc e, h.2.2.sc e⟩
theorem KF.v {t : Int} {V W ρ : Mm} (h : KF t V ρ) (e : ∀ l : Int, W 11 l 3 = V 11 l 3) : KF t W ρ := fun l a b => by rw [e]; exact h l a b
theorem KF.e {t : Int} {V ρ ρ2 : Mm} (h : KF t V ρ) (e : ∀ l : Int, 0 ≤ l → l ≤ t → ρ2 31 0 (22 * l + 16) = ρ 31 0 (22 * l + 16) ∧ ρ2 31 0 (22 * l + 17) = ρ 31 0 (22 * l + 17)) : KF t V ρ2 := fun l a b => by rw [(e l a b).1, (e l a b).2]; exact h l a b
theorem FB.v {V W ρ : Mm} (h : FB V ρ) (e : ∀ l y : Int, 4 ≤ l → l ≤ 6 → (y = 0 ∨ y = 1) → W 7 l y = V 7 l y) : FB W ρ := fun l a b c => by
  rw [e l 1 a b (by omega)] at c
  rw [e l 0 a b (by omega)]; exact h l a b c
theorem FB.e {V ρ ρ2 : Mm} (h : FB V ρ) (e : ∀ l : Int, 4 ≤ l → l ≤ 6 → ρ2 31 0 (22 * l + 21) = ρ 31 0 (22 * l + 21)) : FB V ρ2 := fun l a b c => by rw [e l a b]; exact h l a b c
theorem SB.p7 {t : Int} {σ0 V ρ : Mm} (h : SB t σ0 V ρ) {l s f a : Int} (h0 : 0 ≤ l) (h1 : l ≤ t) (hp : P7 s f) : SB t σ0 (mu V 7 l s a) (mu ρ 31 0 (22 * l + f) a) := by
  obtain ⟨q1, q2, q3, q4, q5, q6, q7, q8⟩ := h
  refine ⟨fun m u g x y z => ?_, fun m u g x y z => ?_, fun m u x y z k => ?_, fun k x y => ?_, fun k x y => ?_, fun k x y => ?_, fun k x y => ?_, fun c x y z => ?_⟩
  · by_cases e : m = l ∧ u = s
    · obtain ⟨rfl, rfl⟩ := e
      rw [show g = f from by omega, mu_self, mu_self]
    · rw [mu_ne (by omega), mu_ne (by omega)]; exact q1 m u g x y z
  · rw [mu_ne (by omega), mu_ne (by omega)]; exact q2 m u g x y z
  · rw [mu_ne (by omega), mu_ne (by omega), mu_ne (by omega), mu_ne (by omega), mu_ne (by omega), mu_ne (by omega)]; exact q3 m u x y z k
  · rw [mu_ne (by omega), mu_ne (by omega), mu_ne (by omega), mu_ne (by omega), mu_ne (by omega), mu_ne (by omega), mu_ne (by omega), mu_ne (by omega), mu_ne (by omega), mu_ne (by omega), mu_ne (by omega), mu_ne (by omega)]; exact q4 k x y
  · rw [mu_ne (by omega), mu_ne (by omega), mu_ne (by omega), mu_ne (by omega), mu_ne (by omega), mu_ne (by omega), mu_ne (by omega), mu_ne (by omega)]; exact q5 k x y
  · rw [mu_ne (by omega), mu_ne (by omega)]; exact q6 k x y
  · rw [mu_ne (by omega), mu_ne (by omega)]; exact q7 k x y
  · rw [mu_ne (by omega)]; exact q8 c x y z
theorem SB.p11 {t : Int} {σ0 V ρ : Mm} (h : SB t σ0 V ρ) {l s f a : Int} (h0 : 0 ≤ l) (h1 : l ≤ t) (hp : P11 s f) : SB t σ0 (mu V 11 l s a) (mu ρ 31 0 (22 * l + f) a) := by
  obtain ⟨q1, q2, q3, q4, q5, q6, q7, q8⟩ := h
  refine ⟨fun m u g x y z => ?_, fun m u g x y z => ?_, fun m u x y z k => ?_, fun k x y => ?_, fun k x y => ?_, fun k x y => ?_, fun k x y => ?_, fun c x y z => ?_⟩
  · rw [mu_ne (by omega), mu_ne (by omega)]; exact q1 m u g x y z
  · by_cases e : m = l ∧ u = s
    · obtain ⟨rfl, rfl⟩ := e
      rw [show g = f from by omega, mu_self, mu_self]
    · rw [mu_ne (by omega), mu_ne (by omega)]; exact q2 m u g x y z
  · rw [mu_ne (by omega), mu_ne (by omega), mu_ne (by omega), mu_ne (by omega), mu_ne (by omega), mu_ne (by omega)]; exact q3 m u x y z k
  · rw [mu_ne (by omega), mu_ne (by omega), mu_ne (by omega), mu_ne (by omega), mu_ne (by omega), mu_ne (by omega), mu_ne (by omega), mu_ne (by omega), mu_ne (by omega), mu_ne (by omega), mu_ne (by omega), mu_ne (by omega)]; exact q4 k x y
  · rw [mu_ne (by omega), mu_ne (by omega), mu_ne (by omega), mu_ne (by omega), mu_ne (by omega), mu_ne (by omega), mu_ne (by omega), mu_ne (by omega)]; exact q5 k x y
  · rw [mu_ne (by omega), mu_ne (by omega)]; exact q6 k x y
  · rw [mu_ne (by omega), mu_ne (by omega)]; exact q7 k x y
  · rw [mu_ne (by omega)]; exact q8 c x y z
theorem SB.p8 {t : Int} {σ0 V ρ : Mm} (h : SB t σ0 V ρ) {l w a : Int} (h0 : 0 ≤ l) (h1 : l ≤ t) (h2 : 0 ≤ w) (h3 : w ≤ 120) : SB t σ0 (mu V 8 l w a) (mu ρ 32 0 (121 * l + w) a) := by
  obtain ⟨q1, q2, q3, q4, q5, q6, q7, q8⟩ := h
  refine ⟨fun m u g x y z => ?_, fun m u g x y z => ?_, fun m u x y z k => ?_, fun k x y => ?_, fun k x y => ?_, fun k x y => ?_, fun k x y => ?_, fun c x y z => ?_⟩
  · rw [mu_ne (by omega), mu_ne (by omega)]; exact q1 m u g x y z
  · rw [mu_ne (by omega), mu_ne (by omega)]; exact q2 m u g x y z
  · by_cases e : m = l ∧ u = w
    · obtain ⟨rfl, rfl⟩ := e
      have q := q3 m u x y z k
      exact ⟨(mu_self _ _ _ _ _).trans (mu_self _ _ _ _ _).symm, ((mu_ne (by omega)).trans (q.2.1)).trans (mu_ne (by omega)).symm, ((mu_ne (by omega)).trans (q.2.2)).trans (mu_ne (by omega)).symm⟩
    · rw [mu_ne (by omega), mu_ne (by omega), mu_ne (by omega), mu_ne (by omega), mu_ne (by omega), mu_ne (by omega)]; exact q3 m u x y z k
  · rw [mu_ne (by omega), mu_ne (by omega), mu_ne (by omega), mu_ne (by omega), mu_ne (by omega), mu_ne (by omega), mu_ne (by omega), mu_ne (by omega), mu_ne (by omega), mu_ne (by omega), mu_ne (by omega), mu_ne (by omega)]; exact q4 k x y
  · rw [mu_ne (by omega), mu_ne (by omega), mu_ne (by omega), mu_ne (by omega), mu_ne (by omega), mu_ne (by omega), mu_ne (by omega), mu_ne (by omega)]; exact q5 k x y
  · rw [mu_ne (by omega), mu_ne (by omega)]; exact q6 k x y
  · rw [mu_ne (by omega), mu_ne (by omega)]; exact q7 k x y
  · rw [mu_ne (by omega)]; exact q8 c x y z
theorem SB.p9 {t : Int} {σ0 V ρ : Mm} (h : SB t σ0 V ρ) {l w a : Int} (h0 : 0 ≤ l) (h1 : l ≤ t) (h2 : 0 ≤ w) (h3 : w ≤ 120) : SB t σ0 (mu V 9 l w a) (mu ρ 33 0 (121 * l + w) a) := by
  obtain ⟨q1, q2, q3, q4, q5, q6, q7, q8⟩ := h
  refine ⟨fun m u g x y z => ?_, fun m u g x y z => ?_, fun m u x y z k => ?_, fun k x y => ?_, fun k x y => ?_, fun k x y => ?_, fun k x y => ?_, fun c x y z => ?_⟩
  · rw [mu_ne (by omega), mu_ne (by omega)]; exact q1 m u g x y z
  · rw [mu_ne (by omega), mu_ne (by omega)]; exact q2 m u g x y z
  · by_cases e : m = l ∧ u = w
    · obtain ⟨rfl, rfl⟩ := e
      have q := q3 m u x y z k
      exact ⟨((mu_ne (by omega)).trans (q.1)).trans (mu_ne (by omega)).symm, (mu_self _ _ _ _ _).trans (mu_self _ _ _ _ _).symm, ((mu_ne (by omega)).trans (q.2.2)).trans (mu_ne (by omega)).symm⟩
    · rw [mu_ne (by omega), mu_ne (by omega), mu_ne (by omega), mu_ne (by omega), mu_ne (by omega), mu_ne (by omega)]; exact q3 m u x y z k
  · rw [mu_ne (by omega), mu_ne (by omega), mu_ne (by omega), mu_ne (by omega), mu_ne (by omega), mu_ne (by omega), mu_ne (by omega), mu_ne (by omega), mu_ne (by omega), mu_ne (by omega), mu_ne (by omega), mu_ne (by omega)]; exact q4 k x y
  · rw [mu_ne (by omega), mu_ne (by omega), mu_ne (by omega), mu_ne (by omega), mu_ne (by omega), mu_ne (by omega), mu_ne (by omega), mu_ne (by omega)]; exact q5 k x y
  · rw [mu_ne (by omega), mu_ne (by omega)]; exact q6 k x y
  · rw [mu_ne (by omega), mu_ne (by omega)]; exact q7 k x y
  · rw [mu_ne (by omega)]; exact q8 c x y z
theorem SB.p10 {t : Int} {σ0 V ρ : Mm} (h : SB t σ0 V ρ) {l w a : Int} (h0 : 0 ≤ l) (h1 : l ≤ t) (h2 : 0 ≤ w) (h3 : w ≤ 120) : SB t σ0 (mu V 10 l w a) (mu ρ 34 0 (121 * l + w) a) := by
  obtain ⟨q1, q2, q3, q4, q5, q6, q7, q8⟩ := h
  refine ⟨fun m u g x y z => ?_, fun m u g x y z => ?_, fun m u x y z k => ?_, fun k x y => ?_, fun k x y => ?_, fun k x y => ?_, fun k x y => ?_, fun c x y z => ?_⟩
  · rw [mu_ne (by omega), mu_ne (by omega)]; exact q1 m u g x y z
  · rw [mu_ne (by omega), mu_ne (by omega)]; exact q2 m u g x y z
  · by_cases e : m = l ∧ u = w
    · obtain ⟨rfl, rfl⟩ := e
      have q := q3 m u x y z k
      exact ⟨((mu_ne (by omega)).trans (q.1)).trans (mu_ne (by omega)).symm, ((mu_ne (by omega)).trans (q.2.1)).trans (mu_ne (by omega)).symm, (mu_self _ _ _ _ _).trans (mu_self _ _ _ _ _).symm⟩
    · rw [mu_ne (by omega), mu_ne (by omega), mu_ne (by omega), mu_ne (by omega), mu_ne (by omega), mu_ne (by omega)]; exact q3 m u x y z k
  · rw [mu_ne (by omega), mu_ne (by omega), mu_ne (by omega), mu_ne (by omega), mu_ne (by omega), mu_ne (by omega), mu_ne (by omega), mu_ne (by omega), mu_ne (by omega), mu_ne (by omega), mu_ne (by omega), mu_ne (by omega)]; exact q4 k x y
  · rw [mu_ne (by omega), mu_ne (by omega), mu_ne (by omega), mu_ne (by omega), mu_ne (by omega), mu_ne (by omega), mu_ne (by omega), mu_ne (by omega)]; exact q5 k x y
  · rw [mu_ne (by omega), mu_ne (by omega)]; exact q6 k x y
  · rw [mu_ne (by omega), mu_ne (by omega)]; exact q7 k x y
  · rw [mu_ne (by omega)]; exact q8 c x y z
theorem SB.pw0 {t : Int} {σ0 V ρ : Mm} (h : SB t σ0 V ρ) {w a : Int} (h0 : 0 ≤ w) (h1 : w ≤ 7) : SB t σ0 (mu V 12 w 0 a) (mu ρ 39 0 w a) := by
  obtain ⟨q1, q2, q3, q4, q5, q6, q7, q8⟩ := h
  refine ⟨fun m u g x y z => ?_, fun m u g x y z => ?_, fun m u x y z k => ?_, fun k x y => ?_, fun k x y => ?_, fun k x y => ?_, fun k x y => ?_, fun c x y z => ?_⟩
  · rw [mu_ne (by omega), mu_ne (by omega)]; exact q1 m u g x y z
  · rw [mu_ne (by omega), mu_ne (by omega)]; exact q2 m u g x y z
  · rw [mu_ne (by omega), mu_ne (by omega), mu_ne (by omega), mu_ne (by omega), mu_ne (by omega), mu_ne (by omega)]; exact q3 m u x y z k
  · by_cases e : k = w
    · subst e
      have q := q4 k x y
      exact ⟨(mu_self _ _ _ _ _).trans (mu_self _ _ _ _ _).symm, ((mu_ne (by omega)).trans (q.2.1)).trans (mu_ne (by omega)).symm, ((mu_ne (by omega)).trans (q.2.2.1)).trans (mu_ne (by omega)).symm, ((mu_ne (by omega)).trans (q.2.2.2.1)).trans (mu_ne (by omega)).symm, ((mu_ne (by omega)).trans (q.2.2.2.2.1)).trans (mu_ne (by omega)).symm, ((mu_ne (by omega)).trans (q.2.2.2.2.2)).trans (mu_ne (by omega)).symm⟩
    · rw [mu_ne (by omega), mu_ne (by omega), mu_ne (by omega), mu_ne (by omega), mu_ne (by omega), mu_ne (by omega), mu_ne (by omega), mu_ne (by omega), mu_ne (by omega), mu_ne (by omega), mu_ne (by omega), mu_ne (by omega)]; exact q4 k x y
  · rw [mu_ne (by omega), mu_ne (by omega), mu_ne (by omega), mu_ne (by omega), mu_ne (by omega), mu_ne (by omega), mu_ne (by omega), mu_ne (by omega)]; exact q5 k x y
  · rw [mu_ne (by omega), mu_ne (by omega)]; exact q6 k x y
  · rw [mu_ne (by omega), mu_ne (by omega)]; exact q7 k x y
  · rw [mu_ne (by omega)]; exact q8 c x y z
theorem SB.pw1 {t : Int} {σ0 V ρ : Mm} (h : SB t σ0 V ρ) {w a : Int} (h0 : 0 ≤ w) (h1 : w ≤ 7) : SB t σ0 (mu V 12 w 1 a) (mu ρ 40 0 w a) := by
  obtain ⟨q1, q2, q3, q4, q5, q6, q7, q8⟩ := h
  refine ⟨fun m u g x y z => ?_, fun m u g x y z => ?_, fun m u x y z k => ?_, fun k x y => ?_, fun k x y => ?_, fun k x y => ?_, fun k x y => ?_, fun c x y z => ?_⟩
  · rw [mu_ne (by omega), mu_ne (by omega)]; exact q1 m u g x y z
  · rw [mu_ne (by omega), mu_ne (by omega)]; exact q2 m u g x y z
  · rw [mu_ne (by omega), mu_ne (by omega), mu_ne (by omega), mu_ne (by omega), mu_ne (by omega), mu_ne (by omega)]; exact q3 m u x y z k
  · by_cases e : k = w
    · subst e
      have q := q4 k x y
      exact ⟨((mu_ne (by omega)).trans (q.1)).trans (mu_ne (by omega)).symm, (mu_self _ _ _ _ _).trans (mu_self _ _ _ _ _).symm, ((mu_ne (by omega)).trans (q.2.2.1)).trans (mu_ne (by omega)).symm, ((mu_ne (by omega)).trans (q.2.2.2.1)).trans (mu_ne (by omega)).symm, ((mu_ne (by omega)).trans (q.2.2.2.2.1)).trans (mu_ne (by omega)).symm, ((mu_ne (by omega)).trans (q.2.2.2.2.2)).trans (mu_ne (by omega)).symm⟩
    · rw [mu_ne (by omega), mu_ne (by omega), mu_ne (by omega), mu_ne (by omega), mu_ne (by omega), mu_ne (by omega), mu_ne (by omega), mu_ne (by omega), mu_ne (by omega), mu_ne (by omega), mu_ne (by omega), mu_ne (by omega)]; exact q4 k x y
  · rw [mu_ne (by omega), mu_ne (by omega), mu_ne (by omega), mu_ne (by omega), mu_ne (by omega), mu_ne (by omega), mu_ne (by omega), mu_ne (by omega)]; exact q5 k x y
  · rw [mu_ne (by omega), mu_ne (by omega)]; exact q6 k x y
  · rw [mu_ne (by omega), mu_ne (by omega)]; exact q7 k x y
  · rw [mu_ne (by omega)]; exact q8 c x y z
theorem SB.pw2 {t : Int} {σ0 V ρ : Mm} (h : SB t σ0 V ρ) {w a : Int} (h0 : 0 ≤ w) (h1 : w ≤ 7) : SB t σ0 (mu V 12 w 2 a) (mu ρ 41 0 w a) := by
  obtain ⟨q1, q2, q3, q4, q5, q6, q7, q8⟩ := h
  refine ⟨fun m u g x y z => ?_, fun m u g x y z => ?_, fun m u x y z k => ?_, fun k x y => ?_, fun k x y => ?_, fun k x y => ?_, fun k x y => ?_, fun c x y z => ?_⟩
  · rw [mu_ne (by omega), mu_ne (by omega)]; exact q1 m u g x y z
  · rw [mu_ne (by omega), mu_ne (by omega)]; exact q2 m u g x y z
  · rw [mu_ne (by omega), mu_ne (by omega), mu_ne (by omega), mu_ne (by omega), mu_ne (by omega), mu_ne (by omega)]; exact q3 m u x y z k
  · by_cases e : k = w
    · subst e
      have q := q4 k x y
      exact ⟨((mu_ne (by omega)).trans (q.1)).trans (mu_ne (by omega)).symm, ((mu_ne (by omega)).trans (q.2.1)).trans (mu_ne (by omega)).symm, (mu_self _ _ _ _ _).trans (mu_self _ _ _ _ _).symm, ((mu_ne (by omega)).trans (q.2.2.2.1)).trans (mu_ne (by omega)).symm, ((mu_ne (by omega)).trans (q.2.2.2.2.1)).trans (mu_ne (by omega)).symm, ((mu_ne (by omega)).trans (q.2.2.2.2.2)).trans (mu_ne (by omega)).symm⟩
    · rw [mu_ne (by omega), mu_ne (by omega), mu_ne (by omega), mu_ne (by omega), mu_ne (by omega), mu_ne (by omega), mu_ne (by omega), mu_ne (by omega), mu_ne (by omega), mu_ne (by omega), mu_ne (by omega), mu_ne (by omega)]; exact q4 k x y
  · rw [mu_ne (by omega), mu_ne (by omega), mu_ne (by omega), mu_ne (by omega), mu_ne (by omega), mu_ne (by omega), mu_ne (by omega), mu_ne (by omega)]; exact q5 k x y
  · rw [mu_ne (by omega), mu_ne (by omega)]; exact q6 k x y
  · rw [mu_ne (by omega), mu_ne (by omega)]; exact q7 k x y
  · rw [mu_ne (by omega)]; exact q8 c x y z
theorem SB.pw3 {t : Int} {σ0 V ρ : Mm} (h : SB t σ0 V ρ) {w a : Int} (h0 : 0 ≤ w) (h1 : w ≤ 7) : SB t σ0 (mu V 12 w 3 a) (mu ρ 42 0 w a) := by
  obtain ⟨q1, q2, q3, q4, q5, q6, q7, q8⟩ := h
  refine ⟨fun m u g x y z => ?_, fun m u g x y z => ?_, fun m u x y z k => ?_, fun k x y => ?_, fun k x y => ?_, fun k x y => ?_, fun k x y => ?_, fun c x y z => ?_⟩
  · rw [mu_ne (by omega), mu_ne (by omega)]; exact q1 m u g x y z
  · rw [mu_ne (by omega), mu_ne (by omega)]; exact q2 m u g x y z
  · rw [mu_ne (by omega), mu_ne (by omega), mu_ne (by omega), mu_ne (by omega), mu_ne (by omega), mu_ne (by omega)]; exact q3 m u x y z k
  · by_cases e : k = w
    · subst e
      have q := q4 k x y
      exact ⟨((mu_ne (by omega)).trans (q.1)).trans (mu_ne (by omega)).symm, ((mu_ne (by omega)).trans (q.2.1)).trans (mu_ne (by omega)).symm, ((mu_ne (by omega)).trans (q.2.2.1)).trans (mu_ne (by omega)).symm, (mu_self _ _ _ _ _).trans (mu_self _ _ _ _ _).symm, ((mu_ne (by omega)).trans (q.2.2.2.2.1)).trans (mu_ne (by omega)).symm, ((mu_ne (by omega)).trans (q.2.2.2.2.2)).trans (mu_ne (by omega)).symm⟩
    · rw [mu_ne (by omega), mu_ne (by omega), mu_ne (by omega), mu_ne (by omega), mu_ne (by omega), mu_ne (by omega), mu_ne (by omega), mu_ne (by omega), mu_ne (by omega), mu_ne (by omega), mu_ne (by omega), mu_ne (by omega)]; exact q4 k x y
  · rw [mu_ne (by omega), mu_ne (by omega), mu_ne (by omega), mu_ne (by omega), mu_ne (by omega), mu_ne (by omega), mu_ne (by omega), mu_ne (by omega)]; exact q5 k x y
  · rw [mu_ne (by omega), mu_ne (by omega)]; exact q6 k x y
  · rw [mu_ne (by omega), mu_ne (by omega)]; exact q7 k x y
  · rw [mu_ne (by omega)]; exact q8 c x y z
theorem SB.pw4 {t : Int} {σ0 V ρ : Mm} (h : SB t σ0 V ρ) {w a : Int} (h0 : 0 ≤ w) (h1 : w ≤ 7) : SB t σ0 (mu V 12 w 4 a) (mu ρ 43 0 w a) := by
  obtain ⟨q1, q2, q3, q4, q5, q6, q7, q8⟩ := h
  refine ⟨fun m u g x y z => ?_, fun m u g x y z => ?_, fun m u x y z k => ?_, fun k x y => ?_, fun k x y => ?_, fun k x y => ?_, fun k x y => ?_, fun c x y z => ?_⟩
  · rw [mu_ne (by omega), mu_ne (by omega)]; exact q1 m u g x y z
  · rw [mu_ne (by omega), mu_ne (by omega)]; exact q2 m u g x y z
  · rw [mu_ne (by omega), mu_ne (by omega), mu_ne (by omega), mu_ne (by omega), mu_ne (by omega), mu_ne (by omega)]; exact q3 m u x y z k
  · by_cases e : k = w
    · subst e
      have q := q4 k x y
      exact ⟨((mu_ne (by omega)).trans (q.1)).trans (mu_ne (by omega)).symm, ((mu_ne (by omega)).trans (q.2.1)).trans (mu_ne (by omega)).symm, ((mu_ne (by omega)).trans (q.2.2.1)).trans (mu_ne (by omega)).symm, ((mu_ne (by omega)).trans (q.2.2.2.1)).trans (mu_ne (by omega)).symm, (mu_self _ _ _ _ _).trans (mu_self _ _ _ _ _).symm, ((mu_ne (by omega)).trans (q.2.2.2.2.2)).trans (mu_ne (by omega)).symm⟩
    · rw [mu_ne (by omega), mu_ne (by omega), mu_ne (by omega), mu_ne (by omega), mu_ne (by omega), mu_ne (by omega), mu_ne (by omega), mu_ne (by omega), mu_ne (by omega), mu_ne (by omega), mu_ne (by omega), mu_ne (by omega)]; exact q4 k x y
  · rw [mu_ne (by omega), mu_ne (by omega), mu_ne (by omega), mu_ne (by omega), mu_ne (by omega), mu_ne (by omega), mu_ne (by omega), mu_ne (by omega)]; exact q5 k x y
  · rw [mu_ne (by omega), mu_ne (by omega)]; exact q6 k x y
  · rw [mu_ne (by omega), mu_ne (by omega)]; exact q7 k x y
  · rw [mu_ne (by omega)]; exact q8 c x y z
theorem SB.pw5 {t : Int} {σ0 V ρ : Mm} (h : SB t σ0 V ρ) {w a : Int} (h0 : 0 ≤ w) (h1 : w ≤ 7) : SB t σ0 (mu V 12 w 5 a) (mu ρ 44 0 w a) := by
  obtain ⟨q1, q2, q3, q4, q5, q6, q7, q8⟩ := h
  refine ⟨fun m u g x y z => ?_, fun m u g x y z => ?_, fun m u x y z k => ?_, fun k x y => ?_, fun k x y => ?_, fun k x y => ?_, fun k x y => ?_, fun c x y z => ?_⟩
  · rw [mu_ne (by omega), mu_ne (by omega)]; exact q1 m u g x y z
  · rw [mu_ne (by omega), mu_ne (by omega)]; exact q2 m u g x y z
  · rw [mu_ne (by omega), mu_ne (by omega), mu_ne (by omega), mu_ne (by omega), mu_ne (by omega), mu_ne (by omega)]; exact q3 m u x y z k
  · by_cases e : k = w
    · subst e
      have q := q4 k x y
      exact ⟨((mu_ne (by omega)).trans (q.1)).trans (mu_ne (by omega)).symm, ((mu_ne (by omega)).trans (q.2.1)).trans (mu_ne (by omega)).symm, ((mu_ne (by omega)).trans (q.2.2.1)).trans (mu_ne (by omega)).symm, ((mu_ne (by omega)).trans (q.2.2.2.1)).trans (mu_ne (by omega)).symm, ((mu_ne (by omega)).trans (q.2.2.2.2.1)).trans (mu_ne (by omega)).symm, (mu_self _ _ _ _ _).trans (mu_self _ _ _ _ _).symm⟩
    · rw [mu_ne (by omega), mu_ne (by omega), mu_ne (by omega), mu_ne (by omega), mu_ne (by omega), mu_ne (by omega), mu_ne (by omega), mu_ne (by omega), mu_ne (by omega), mu_ne (by omega), mu_ne (by omega), mu_ne (by omega)]; exact q4 k x y
  · rw [mu_ne (by omega), mu_ne (by omega), mu_ne (by omega), mu_ne (by omega), mu_ne (by omega), mu_ne (by omega), mu_ne (by omega), mu_ne (by omega)]; exact q5 k x y
  · rw [mu_ne (by omega), mu_ne (by omega)]; exact q6 k x y
  · rw [mu_ne (by omega), mu_ne (by omega)]; exact q7 k x y
  · rw [mu_ne (by omega)]; exact q8 c x y z
theorem SB.pk0 {t : Int} {σ0 V ρ : Mm} (h : SB t σ0 V ρ) {w a : Int} (h0 : 0 ≤ w) (h1 : w ≤ 3) : SB t σ0 (mu V 13 w 0 a) (mu ρ 45 0 w a) := by
  obtain ⟨q1, q2, q3, q4, q5, q6, q7, q8⟩ := h
  refine ⟨fun m u g x y z => ?_, fun m u g x y z => ?_, fun m u x y z k => ?_, fun k x y => ?_, fun k x y => ?_, fun k x y => ?_, fun k x y => ?_, fun c x y z => ?_⟩
  · rw [mu_ne (by omega), mu_ne (by omega)]; exact q1 m u g x y z
  · rw [mu_ne (by omega), mu_ne (by omega)]; exact q2 m u g x y z
  · rw [mu_ne (by omega), mu_ne (by omega), mu_ne (by omega), mu_ne (by omega), mu_ne (by omega), mu_ne (by omega)]; exact q3 m u x y z k
  · rw [mu_ne (by omega), mu_ne (by omega), mu_ne (by omega), mu_ne (by omega), mu_ne (by omega), mu_ne (by omega), mu_ne (by omega), mu_ne (by omega), mu_ne (by omega), mu_ne (by omega), mu_ne (by omega), mu_ne (by omega)]; exact q4 k x y
  · by_cases e : k = w
    · subst e
      have q := q5 k x y
      exact ⟨(mu_self _ _ _ _ _).trans (mu_self _ _ _ _ _).symm, ((mu_ne (by omega)).trans (q.2.1)).trans (mu_ne (by omega)).symm, ((mu_ne (by omega)).trans (q.2.2.1)).trans (mu_ne (by omega)).symm, ((mu_ne (by omega)).trans (q.2.2.2)).trans (mu_ne (by omega)).symm⟩
    · rw [mu_ne (by omega), mu_ne (by omega), mu_ne (by omega), mu_ne (by omega), mu_ne (by omega), mu_ne (by omega), mu_ne (by omega), mu_ne (by omega)]; exact q5 k x y
  · rw [mu_ne (by omega), mu_ne (by omega)]; exact q6 k x y
  · rw [mu_ne (by omega), mu_ne (by omega)]; exact q7 k x y
  · rw [mu_ne (by omega)]; exact q8 c x y z
theorem SB.pk1 {t : Int} {σ0 V ρ : Mm} (h : SB t σ0 V ρ) {w a : Int} (h0 : 0 ≤ w) (h1 : w ≤ 3) : SB t σ0 (mu V 13 w 1 a) (mu ρ 46 0 w a) := by
  obtain ⟨q1, q2, q3, q4, q5, q6, q7, q8⟩ := h
  refine ⟨fun m u g x y z => ?_, fun m u g x y z => ?_, fun m u x y z k => ?_, fun k x y => ?_, fun k x y => ?_, fun k x y => ?_, fun k x y => ?_, fun c x y z => ?_⟩
  · rw [mu_ne (by omega), mu_ne (by omega)]; exact q1 m u g x y z
  · rw [mu_ne (by omega), mu_ne (by omega)]; exact q2 m u g x y z
  · rw [mu_ne (by omega), mu_ne (by omega), mu_ne (by omega), mu_ne (by omega), mu_ne (by omega), mu_ne (by omega)]; exact q3 m u x y z k
  · rw [mu_ne (by omega), mu_ne (by omega), mu_ne (by omega), mu_ne (by omega), mu_ne (by omega), mu_ne (by omega), mu_ne (by omega), mu_ne (by omega), mu_ne (by omega), mu_ne (by omega), mu_ne (by omega), mu_ne (by omega)]; exact q4 k x y
  · by_cases e : k = w
    · subst e
      have q := q5 k x y
      exact ⟨((mu_ne (by omega)).trans (q.1)).trans (mu_ne (by omega)).symm, (mu_self _ _ _ _ _).trans (mu_self _ _ _ _ _).symm, ((mu_ne (by omega)).trans (q.2.2.1)).trans (mu_ne (by omega)).symm, ((mu_ne (by omega)).trans (q.2.2.2)).trans (mu_ne (by omega)).symm⟩
    · rw [mu_ne (by omega), mu_ne (by omega), mu_ne (by omega), mu_ne (by omega), mu_ne (by omega), mu_ne (by omega), mu_ne (by omega), mu_ne (by omega)]; exact q5 k x y
  · rw [mu_ne (by omega), mu_ne (by omega)]; exact q6 k x y
  · rw [mu_ne (by omega), mu_ne (by omega)]; exact q7 k x y
  · rw [mu_ne (by omega)]; exact q8 c x y z
theorem SB.pk2 {t : Int} {σ0 V ρ : Mm} (h : SB t σ0 V ρ) {w a : Int} (h0 : 0 ≤ w) (h1 : w ≤ 3) : SB t σ0 (mu V 13 w 2 a) (mu ρ 47 0 w a) := by
  obtain ⟨q1, q2, q3, q4, q5, q6, q7, q8⟩ := h
  refine ⟨fun m u g x y z => ?_, fun m u g x y z => ?_, fun m u x y z k => ?_, fun k x y => ?_, fun k x y => ?_, fun k x y => ?_, fun k x y => ?_, fun c x y z => ?_⟩
  · rw [mu_ne (by omega), mu_ne (by omega)]; exact q1 m u g x y z
  · rw [mu_ne (by omega), mu_ne (by omega)]; exact q2 m u g x y z
  · rw [mu_ne (by omega), mu_ne (by omega), mu_ne (by omega), mu_ne (by omega), mu_ne (by omega), mu_ne (by omega)]; exact q3 m u x y z k
  · rw [mu_ne (by omega), mu_ne (by omega), mu_ne (by omega), mu_ne (by omega), mu_ne (by omega), mu_ne (by omega), mu_ne (by omega), mu_ne (by omega), mu_ne (by omega), mu_ne (by omega), mu_ne (by omega), mu_ne (by omega)]; exact q4 k x y
  · by_cases e : k = w
    · subst e
      have q := q5 k x y
      exact ⟨((mu_ne (by omega)).trans (q.1)).trans (mu_ne (by omega)).symm, ((mu_ne (by omega)).trans (q.2.1)).trans (mu_ne (by omega)).symm, (mu_self _ _ _ _ _).trans (mu_self _ _ _ _ _).symm, ((mu_ne (by omega)).trans (q.2.2.2)).trans (mu_ne (by omega)).symm⟩
    · rw [mu_ne (by omega), mu_ne (by omega), mu_ne (by omega), mu_ne (by omega), mu_ne (by omega), mu_ne (by omega), mu_ne (by omega), mu_ne (by omega)]; exact q5 k x y
  · rw [mu_ne (by omega), mu_ne (by omega)]; exact q6 k x y
  · rw [mu_ne (by omega), mu_ne (by omega)]; exact q7 k x y
  · rw [mu_ne (by omega)]; exact q8 c x y z
theorem SB.pk3 {t : Int} {σ0 V ρ : Mm} (h : SB t σ0 V ρ) {w a : Int} (h0 : 0 ≤ w) (h1 : w ≤ 3) : SB t σ0 (mu V 13 w 3 a) (mu ρ 48 0 w a) := by
  obtain ⟨q1, q2, q3, q4, q5, q6, q7, q8⟩ := h
  refine ⟨fun m u g x y z => ?_, fun m u g x y z => ?_, fun m u x y z k => ?_, fun k x y => ?_, fun k x y => ?_, fun k x y => ?_, fun k x y => ?_, fun c x y z => ?_⟩
  · rw [mu_ne (by omega), mu_ne (by omega)]; exact q1 m u g x y z
  · rw [mu_ne (by omega), mu_ne (by omega)]; exact q2 m u g x y z
  · rw [mu_ne (by omega), mu_ne (by omega), mu_ne (by omega), mu_ne (by omega), mu_ne (by omega), mu_ne (by omega)]; exact q3 m u x y z k
  · rw [mu_ne (by omega), mu_ne (by omega), mu_ne (by omega), mu_ne (by omega), mu_ne (by omega), mu_ne (by omega), mu_ne (by omega), mu_ne (by omega), mu_ne (by omega), mu_ne (by omega), mu_ne (by omega), mu_ne (by omega)]; exact q4 k x y
  · by_cases e : k = w
    · subst e
      have q := q5 k x y
      exact ⟨((mu_ne (by omega)).trans (q.1)).trans (mu_ne (by omega)).symm, ((mu_ne (by omega)).trans (q.2.1)).trans (mu_ne (by omega)).symm, ((mu_ne (by omega)).trans (q.2.2.1)).trans (mu_ne (by omega)).symm, (mu_self _ _ _ _ _).trans (mu_self _ _ _ _ _).symm⟩
    · rw [mu_ne (by omega), mu_ne (by omega), mu_ne (by omega), mu_ne (by omega), mu_ne (by omega), mu_ne (by omega), mu_ne (by omega), mu_ne (by omega)]; exact q5 k x y
  · rw [mu_ne (by omega), mu_ne (by omega)]; exact q6 k x y
  · rw [mu_ne (by omega), mu_ne (by omega)]; exact q7 k x y
  · rw [mu_ne (by omega)]; exact q8 c x y z
theorem SB.p15 {t : Int} {σ0 V ρ : Mm} (h : SB t σ0 V ρ) {w a : Int} (h0 : 0 ≤ w) (h1 : w ≤ 15) : SB t σ0 (mu V 15 0 w a) (mu ρ 35 0 w a) := by
  obtain ⟨q1, q2, q3, q4, q5, q6, q7, q8⟩ := h
  refine ⟨fun m u g x y z => ?_, fun m u g x y z => ?_, fun m u x y z k => ?_, fun k x y => ?_, fun k x y => ?_, fun k x y => ?_, fun k x y => ?_, fun c x y z => ?_⟩
  · rw [mu_ne (by omega), mu_ne (by omega)]; exact q1 m u g x y z
  · rw [mu_ne (by omega), mu_ne (by omega)]; exact q2 m u g x y z
  · rw [mu_ne (by omega), mu_ne (by omega), mu_ne (by omega), mu_ne (by omega), mu_ne (by omega), mu_ne (by omega)]; exact q3 m u x y z k
  · rw [mu_ne (by omega), mu_ne (by omega), mu_ne (by omega), mu_ne (by omega), mu_ne (by omega), mu_ne (by omega), mu_ne (by omega), mu_ne (by omega), mu_ne (by omega), mu_ne (by omega), mu_ne (by omega), mu_ne (by omega)]; exact q4 k x y
  · rw [mu_ne (by omega), mu_ne (by omega), mu_ne (by omega), mu_ne (by omega), mu_ne (by omega), mu_ne (by omega), mu_ne (by omega), mu_ne (by omega)]; exact q5 k x y
  · by_cases e : k = w
    · subst e
      have q := q6 k x y
      exact (mu_self _ _ _ _ _).trans (mu_self _ _ _ _ _).symm
    · rw [mu_ne (by omega), mu_ne (by omega)]; exact q6 k x y
  · rw [mu_ne (by omega), mu_ne (by omega)]; exact q7 k x y
  · rw [mu_ne (by omega)]; exact q8 c x y z
theorem SB.p16 {t : Int} {σ0 V ρ : Mm} (h : SB t σ0 V ρ) {w a : Int} (h0 : 0 ≤ w) (h1 : w ≤ 7) : SB t σ0 (mu V 16 0 w a) (mu ρ 36 0 w a) := by
  obtain ⟨q1, q2, q3, q4, q5, q6, q7, q8⟩ := h
  refine ⟨fun m u g x y z => ?_, fun m u g x y z => ?_, fun m u x y z k => ?_, fun k x y => ?_, fun k x y => ?_, fun k x y => ?_, fun k x y => ?_, fun c x y z => ?_⟩
  · rw [mu_ne (by omega), mu_ne (by omega)]; exact q1 m u g x y z
  · rw [mu_ne (by omega), mu_ne (by omega)]; exact q2 m u g x y z
  · rw [mu_ne (by omega), mu_ne (by omega), mu_ne (by omega), mu_ne (by omega), mu_ne (by omega), mu_ne (by omega)]; exact q3 m u x y z k
  · rw [mu_ne (by omega), mu_ne (by omega), mu_ne (by omega), mu_ne (by omega), mu_ne (by omega), mu_ne (by omega), mu_ne (by omega), mu_ne (by omega), mu_ne (by omega), mu_ne (by omega), mu_ne (by omega), mu_ne (by omega)]; exact q4 k x y
  · rw [mu_ne (by omega), mu_ne (by omega), mu_ne (by omega), mu_ne (by omega), mu_ne (by omega), mu_ne (by omega), mu_ne (by omega), mu_ne (by omega)]; exact q5 k x y
  · rw [mu_ne (by omega), mu_ne (by omega)]; exact q6 k x y
  · by_cases e : k = w
    · subst e
      have q := q7 k x y
      exact (mu_self _ _ _ _ _).trans (mu_self _ _ _ _ _).symm
    · rw [mu_ne (by omega), mu_ne (by omega)]; exact q7 k x y
  · rw [mu_ne (by omega)]; exact q8 c x y z
/-- what the reference alone holds -/
theorem SB.px {t : Int} {σ0 V ρ : Mm} (h : SB t σ0 V ρ) {l f a : Int} (hf : f = 16 ∨ f = 17 ∨ f = 21 ∨ f = 7) : SB t σ0 V (mu ρ 31 0 (22 * l + f) a) := by
  obtain ⟨q1, q2, q3, q4, q5, q6, q7, q8⟩ := h
  refine ⟨fun m u g x y z => ?_, fun m u g x y z => ?_, fun m u x y z k => ?_, fun k x y => ?_, fun k x y => ?_, fun k x y => ?_, fun k x y => ?_, fun c x y z => ?_⟩
  · rw [mu_ne (by omega)]; exact q1 m u g x y z
  · rw [mu_ne (by omega)]; exact q2 m u g x y z
  · rw [mu_ne (by omega), mu_ne (by omega), mu_ne (by omega)]; exact q3 m u x y z k
  · rw [mu_ne (by omega), mu_ne (by omega), mu_ne (by omega), mu_ne (by omega), mu_ne (by omega), mu_ne (by omega)]; exact q4 k x y
  · rw [mu_ne (by omega), mu_ne (by omega), mu_ne (by omega), mu_ne (by omega)]; exact q5 k x y
  · rw [mu_ne (by omega)]; exact q6 k x y
  · rw [mu_ne (by omega)]; exact q7 k x y
  · rw [mu_ne (by omega)]; exact q8 c x y z
theorem cmN_t {tl tl2 tc tc2 : Int → Int} (h16 : ∀ j : Int, 0 ≤ j → j ≤ 7 → tl j = tl2 j) (h15 : ∀ j : Int, 0 ≤ j → j ≤ 15 → tc j = tc2 j) (hc : ∀ j : Int, 0 ≤ j → j < 16 → 0 ≤ tc j ∧ tc j ≤ 3) (o : Int) (v : Int → Int) (n : Nat) (k : Int) : cmN tl tc o v n k = cmN tl2 tc2 o v n k := by
  have hl : ∀ (s : Int) (m : Nat), ltr tl v s m = ltr tl2 v s m := fun s m => by
    induction m with
    | zero => rfl
    | succ m ih =>
      show lnx tl (v m) (ltr tl v s m) = lnx tl2 (v m) (ltr tl2 v s m)
      rw [ih]
      unfold lnx
      rw [h16 _ (by omega) (by omega)]
  have ht : ∀ m : Nat, tbl tc v m = tbl tc2 v m := fun m => by
    induction m with
    | zero => rfl
    | succ m ih =>
      show (if m = 0 then v 0 % 4 else tc (4 * tbl tc v m + v m % 4)) = (if m = 0 then v 0 % 4 else tc2 (4 * tbl tc2 v m + v m % 4))
      have hb := tbl_b (u := v) hc m
      rw [← ih, h15 _ (by omega) (by omega)]
  unfold cmN
  rw [hl 0, hl 1, hl 2, hl 3, hl k, ht]
theorem cm_t {tl tl2 tc tc2 : Int → Int} (h16 : ∀ j : Int, 0 ≤ j → j ≤ 7 → tl j = tl2 j) (h15 : ∀ j : Int, 0 ≤ j → j ≤ 15 → tc j = tc2 j) (hc : ∀ j : Int, 0 ≤ j → j < 16 → 0 ≤ tc j ∧ tc j ≤ 3) (o : Int) (v : Int → Int) (n : Nat) (k : Int) : cm tl tc o v n k = cm tl2 tc2 o v n k := by
  unfold cm
  rw [cmN_t h16 h15 hc]
theorem WT_dn {eb : Bool} {d M : Nat} {as : List Vl} {σ : Mm} {P : Option Vl → Mm → Prop} (h : ∀ ρ : Mm, (∀ (c : Nat) (i j : Int), Tk (true, eb, false) c j → ρ c i j = σ c i j) → WT (true, eb, true) d M as ρ P) : WT (true, eb, false) d M as σ P := by
  refine WT_loose (true, eb, true) (fun q => q) (fun q => q) (fun c j q => ?_) (fun ρ hL hF hT hO => ?_)
  · rcases q with q | q | q | q
    · exact Or.inl q
    · exact Or.inr (Or.inl q)
    · exact Or.inr (Or.inr (Or.inl q))
    · cases q.1
  · intro τ hA
    refine WP.mono (fun r τ2 hp => ?_) _ _ _ _ (h ρ hT τ hA)
    obtain ⟨ρ2, h1, h2⟩ := hp
    exact ⟨ρ2, ⟨ρ2, h1, fun q => Or.inl q, fun q => Or.inl q, fun _ _ _ _ => rfl⟩, h2⟩
