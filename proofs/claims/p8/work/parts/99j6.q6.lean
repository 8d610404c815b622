-- the reference: its row, its questions
theorem qm_alikeFrom {eb : Bool} {d : Nat} {P : Option Vl → Mm → Prop} {σ : Mm} {i n : Int} (b_i : 0 ≤ i ∧ i ≤ 241) (b_n : 1 ≤ n ∧ n ≤ 242) (qg0 : σ 30 0 8 = n) (hi : i < n)  (k : ∀ r : Int, 1 ≤ r ∧ r ≤ n - i → P (some (vI r)) σ) : WT (false, eb, true) (d + 1) 168 [vR 30 0, vI i] σ P := by
  refine WT_in fun K hK => ?_
  have hK : StpY (false, eb, true) cX6_alikeFrom RX6 (some .int) (WT (false, eb, true) (d + 0)) P K := hK
  have hM := hK.1
  have hC := hK.1.1
  show K 0 [some (vR 30 0), some (vI i), none] [] σ
  refine r_iload_n hC dX6_alikeFrom_0 rfl ?_
  refine r_istore_n hC dX6_alikeFrom_1 rfl ?_
  refine r_iload_n hC dX6_alikeFrom_2 rfl ?_
  refine r_aload_n hC dX6_alikeFrom_3 rfl ?_
  refine z_getI (jz := 8) hM dX6_alikeFrom_4 fl_RX6_105 rfl rfl rfl (fun v1 h_v1 o_v1 t_v1 => ?_)
  have e_v1 : n = v1 := ((t_v1 ((Or.inr (Or.inr (Or.inr ⟨rfl, rfl⟩))))).trans qg0).symm
  subst e_v1
  refine r_icmp_ge (tgt := 31) hC dX6_alikeFrom_7 rfl (fun h2 => ?_) (fun h2 => ?_)
  · refine r_iload_n hC dX6_alikeFrom_31 rfl ?_
    refine r_iload_n hC dX6_alikeFrom_32 rfl ?_
    refine r_isubE hC ((i - i)) dX6_alikeFrom_33 (by omega) (by unfold inR; omega) ?_
    refine y_iret hK rfl dX6_alikeFrom_34 ?_
    exact k _ (by omega)
  · refine r_aload_n hC dX6_alikeFrom_10 rfl ?_
    refine z_getR hM dX6_alikeFrom_11 fl_RX6_28 rfl rfl (vld_of (n := 1) rfl (by omega) (by omega)) ?_
    refine r_iload_n hC dX6_alikeFrom_14 rfl ?_
    refine z_iald hM dX6_alikeFrom_15 rfl (by omega) (by omega) (fun v3 h_v3 o_v3 t_v3 => ?_)
    have w_v3 := t_v3 (Or.inr (Or.inr (Or.inr ⟨rfl, trivial⟩)))
    refine r_aload_n hC dX6_alikeFrom_16 rfl ?_
    refine z_getR hM dX6_alikeFrom_17 fl_RX6_28 rfl rfl (vld_of (n := 1) rfl (by omega) (by omega)) ?_
    refine r_iload_n hC dX6_alikeFrom_20 rfl ?_
    refine z_iald hM dX6_alikeFrom_21 rfl (by omega) (by omega) (fun v4 h_v4 o_v4 t_v4 => ?_)
    have w_v4 := t_v4 (Or.inr (Or.inr (Or.inr ⟨rfl, trivial⟩)))
    refine r_icmp_ne (tgt := 31) hC dX6_alikeFrom_22 rfl (fun h5 => ?_) (fun h5 => ?_)
    · refine r_iload_n hC dX6_alikeFrom_31 rfl ?_
      refine r_iload_n hC dX6_alikeFrom_32 rfl ?_
      refine r_isubE hC ((i - i)) dX6_alikeFrom_33 (by omega) (by unfold inR; omega) ?_
      refine y_iret hK rfl dX6_alikeFrom_34 ?_
      exact k _ (by omega)
    · refine r_iincE hC ((i + 1)) dX6_alikeFrom_25 rfl rfl (by omega) (by unfold inR; omega) ?_
      refine r_goto (tgt := 2) hC dX6_alikeFrom_28 rfl ?_
      have L2 : ∀ (n2 : Nat) (w6 : Int), 1 ≤ w6 ∧ w6 ≤ 242 → ((w6) ≤ n) → (i + 1 ≤ (w6)) → 242 - w6 < (n2 : Int) → K 2 [some (vR 30 0), some (vI i), some (vI w6)] [] σ := by
        intro n2
        induction n2 with
        | zero => intro w6  f_w6 i0_2 i1_2 hm  ; omega
        | succ n2 ih2 =>
          intro w6  f_w6 i0_2 i1_2 hm2  
          refine r_iload_n hC dX6_alikeFrom_2 rfl ?_
          refine r_aload_n hC dX6_alikeFrom_3 rfl ?_
          refine z_getI (jz := 8) hM dX6_alikeFrom_4 fl_RX6_105 rfl rfl rfl (fun v7 h_v7 o_v7 t_v7 => ?_)
          have e_v7 : n = v7 := ((t_v7 ((Or.inr (Or.inr (Or.inr ⟨rfl, rfl⟩))))).trans qg0).symm
          subst e_v7
          refine r_icmp_ge (tgt := 31) hC dX6_alikeFrom_7 rfl (fun h8 => ?_) (fun h8 => ?_)
          · refine r_iload_n hC dX6_alikeFrom_31 rfl ?_
            refine r_iload_n hC dX6_alikeFrom_32 rfl ?_
            refine r_isubE hC ((w6 - i)) dX6_alikeFrom_33 (by omega) (by unfold inR; omega) ?_
            refine y_iret hK rfl dX6_alikeFrom_34 ?_
            exact k _ (by omega)
          · refine r_aload_n hC dX6_alikeFrom_10 rfl ?_
            refine z_getR hM dX6_alikeFrom_11 fl_RX6_28 rfl rfl (vld_of (n := 1) rfl (by omega) (by omega)) ?_
            refine r_iload_n hC dX6_alikeFrom_14 rfl ?_
            refine z_iald hM dX6_alikeFrom_15 rfl (by omega) (by omega) (fun v9 h_v9 o_v9 t_v9 => ?_)
            have w_v9 := t_v9 (Or.inr (Or.inr (Or.inr ⟨rfl, trivial⟩)))
            refine r_aload_n hC dX6_alikeFrom_16 rfl ?_
            refine z_getR hM dX6_alikeFrom_17 fl_RX6_28 rfl rfl (vld_of (n := 1) rfl (by omega) (by omega)) ?_
            refine r_iload_n hC dX6_alikeFrom_20 rfl ?_
            refine z_iald hM dX6_alikeFrom_21 rfl (by omega) (by omega) (fun v10 h_v10 o_v10 t_v10 => ?_)
            have w_v10 := t_v10 (Or.inr (Or.inr (Or.inr ⟨rfl, trivial⟩)))
            refine r_icmp_ne (tgt := 31) hC dX6_alikeFrom_22 rfl (fun h11 => ?_) (fun h11 => ?_)
            · refine r_iload_n hC dX6_alikeFrom_31 rfl ?_
              refine r_iload_n hC dX6_alikeFrom_32 rfl ?_
              refine r_isubE hC ((w6 - i)) dX6_alikeFrom_33 (by omega) (by unfold inR; omega) ?_
              refine y_iret hK rfl dX6_alikeFrom_34 ?_
              exact k _ (by omega)
            · refine r_iincE hC ((w6 + 1)) dX6_alikeFrom_25 rfl rfl (by omega) (by unfold inR; omega) ?_
              refine r_goto (tgt := 2) hC dX6_alikeFrom_28 rfl ?_
              exact ih2 ((w6 + 1))  (by omega) (by omega) (by omega) (by omega)  
      exact L2 244 ((i + 1))  (by omega) (by omega) (by omega) (by omega)  
theorem qm_like {eb : Bool} {d : Nat} {P : Option Vl → Mm → Prop} {σ : Mm} {n : Int} (b_n : 1 ≤ n ∧ n ≤ 242) (hn : σ 30 0 8 = n)  (k : P none σ) : WT (false, eb, true) (d + 2) 169 [vR 30 0] σ P := by
  refine WT_in fun K hK => ?_
  have hK : StpY (false, eb, true) cX6_like RX6 (none) (WT (false, eb, true) (d + 1)) P K := hK
  have hM := hK.1
  have hC := hK.1.1
  show K 0 [some (vR 30 0), none, none, none, none, none] [] σ
  refine r_iconst hC dX6_like_0 rfl ?_
  refine r_istore_n hC dX6_like_1 rfl ?_
  refine r_iconst hC dX6_like_2 rfl ?_
  refine r_istore_n hC dX6_like_3 rfl ?_
  refine r_iconst hC dX6_like_4 rfl ?_
  refine r_istore_n hC dX6_like_5 rfl ?_
  show K _ [_, _, _, _, _, _] _ _
  refine r_iconst hC dX6_like_6 rfl ?_
  refine r_istore hC dX6_like_7 rfl ?_
  refine r_iconst hC dX6_like_9 rfl ?_
  refine r_istore hC dX6_like_10 rfl ?_
  have L12 : ∀ (n12 : Nat) (w1 w2 w3 w4 w5 : Int), -2147483648 ≤ w1 ∧ w1 ≤ 2147483647 → 0 ≤ w2 ∧ w2 ≤ 242 → -2147483648 ≤ w3 ∧ w3 ≤ 2147483647 → 0 ≤ w4 ∧ w4 ≤ 242 → 0 ≤ w5 ∧ w5 ≤ 242 → ((w5) ≤ n) → 242 - w5 < (n12 : Int) → K 12 [some (vR 30 0), some (vI w1), some (vI w2), some (vI w3), some (vI w4), some (vI w5)] [] σ := by
    intro n12
    induction n12 with
    | zero => intro w1 w2 w3 w4 w5  f_w1 f_w2 f_w3 f_w4 f_w5 i0_12 hm  ; omega
    | succ n12 ih12 =>
      intro w1 w2 w3 w4 w5  f_w1 f_w2 f_w3 f_w4 f_w5 i0_12 hm12  
      refine r_iload hC dX6_like_12 rfl ?_
      refine r_aload_n hC dX6_like_14 rfl ?_
      refine z_getI (jz := 8) hM dX6_like_15 fl_RX6_105 rfl rfl rfl (fun v6 h_v6 o_v6 t_v6 => ?_)
      rw [(t_v6 (Or.inr (Or.inr (Or.inr ⟨rfl, rfl⟩)))).trans hn]
      refine r_icmp_ge (tgt := 62) hC dX6_like_18 rfl (fun h7 => ?_) (fun h7 => ?_)
      · refine r_aload_n hC dX6_like_62 rfl ?_
        refine z_getR hM dX6_like_63 fl_RX6_31 rfl rfl (vld_of (n := 1) rfl (by omega) (by omega)) ?_
        refine r_iconst hC dX6_like_66 rfl ?_
        refine r_iload_n hC dX6_like_67 rfl ?_
        refine z_iastU hM dX6_like_68 rfl (by omega) (by omega) (by simp [Un, Tb, DL, DF, DR, DX]) (by simp [Okv]) ?_
        refine r_aload_n hC dX6_like_69 rfl ?_
        refine z_getR hM dX6_like_70 fl_RX6_31 rfl rfl (vld_of (n := 1) rfl (by omega) (by omega)) ?_
        refine r_iconst hC dX6_like_73 rfl ?_
        refine r_iload_n hC dX6_like_74 rfl ?_
        refine z_iastU hM dX6_like_75 rfl (by omega) (by omega) (by simp [Un, Tb, DL, DF, DR, DX]) (by simp [Okv]) ?_
        refine r_aload_n hC dX6_like_76 rfl ?_
        refine z_getR hM dX6_like_77 fl_RX6_31 rfl rfl (vld_of (n := 1) rfl (by omega) (by omega)) ?_
        refine r_iconst hC dX6_like_80 rfl ?_
        refine r_iload_n hC dX6_like_81 rfl ?_
        refine z_iastU hM dX6_like_82 rfl (by omega) (by omega) (by simp [Un, Tb, DL, DF, DR, DX]) (by simp [Okv]) ?_
        refine r_aload_n hC dX6_like_83 rfl ?_
        refine z_getR hM dX6_like_84 fl_RX6_31 rfl rfl (vld_of (n := 1) rfl (by omega) (by omega)) ?_
        refine r_iconst hC dX6_like_87 rfl ?_
        refine r_aload_n hC dX6_like_88 rfl ?_
        refine r_iconst hC dX6_like_89 rfl ?_
        refine z_inv1 hM dX6_like_90 vl_RX6_170 rfl rfl rfl (Nat.le_of_ble_eq_true rfl) (Nat.le_of_ble_eq_true rfl) ?_
        refine qm_alikeFrom (n := n) (by omega) (by omega) hn (by omega) (fun v8 h_v8 => ?_)
        refine z_iastU hM dX6_like_93 rfl (by omega) (by omega) (by simp [Un, Tb, DL, DF, DR, DX]) (by simp [Okv]) ?_
        refine r_aload_n hC dX6_like_94 rfl ?_
        refine z_getR hM dX6_like_95 fl_RX6_31 rfl rfl (vld_of (n := 1) rfl (by omega) (by omega)) ?_
        refine r_iconst hC dX6_like_98 rfl ?_
        refine r_iload hC dX6_like_99 rfl ?_
        refine z_iastU hM dX6_like_101 rfl (by omega) (by omega) (by simp [Un, Tb, DL, DF, DR, DX]) (by simp [Okv]) ?_
        refine r_aload_n hC dX6_like_102 rfl ?_
        refine z_getR hM dX6_like_103 fl_RX6_31 rfl rfl (vld_of (n := 1) rfl (by omega) (by omega)) ?_
        refine r_iconst hC dX6_like_106 rfl ?_
        refine r_aload_n hC dX6_like_107 rfl ?_
        refine z_getR hM dX6_like_108 fl_RX6_28 rfl rfl (vld_of (n := 1) rfl (by omega) (by omega)) ?_
        refine r_iconst hC dX6_like_111 rfl ?_
        refine z_iald hM dX6_like_112 rfl (by omega) (by omega) (fun v9 h_v9 o_v9 t_v9 => ?_)
        refine z_iastU hM dX6_like_113 rfl (by omega) (by omega) (by simp [Un, Tb, DL, DF, DR, DX]) (by simp [Okv]) ?_
        refine r_aload_n hC dX6_like_114 rfl ?_
        refine z_getR hM dX6_like_115 fl_RX6_31 rfl rfl (vld_of (n := 1) rfl (by omega) (by omega)) ?_
        refine r_bipush hC dX6_like_118 rfl ?_
        refine r_aload_n hC dX6_like_120 rfl ?_
        refine z_getR hM dX6_like_121 fl_RX6_28 rfl rfl (vld_of (n := 1) rfl (by omega) (by omega)) ?_
        refine r_aload_n hC dX6_like_124 rfl ?_
        refine z_getI (jz := 8) hM dX6_like_125 fl_RX6_105 rfl rfl rfl (fun v10 h_v10 o_v10 t_v10 => ?_)
        rw [(t_v10 (Or.inr (Or.inr (Or.inr ⟨rfl, rfl⟩)))).trans hn]
        refine r_iconst hC dX6_like_128 rfl ?_
        refine r_isubE hC ((n - 1)) dX6_like_129 (by omega) (by unfold inR; omega) ?_
        refine z_iald hM dX6_like_130 rfl (by omega) (by omega) (fun v11 h_v11 o_v11 t_v11 => ?_)
        refine z_iastU hM dX6_like_131 rfl (by omega) (by omega) (by simp [Un, Tb, DL, DF, DR, DX]) (by simp [Okv]) ?_
        refine y_vret hK rfl dX6_like_132 ?_
        exact k
      · refine r_aload_n hC dX6_like_21 rfl ?_
        refine r_iload hC dX6_like_22 rfl ?_
        refine z_inv1 hM dX6_like_24 vl_RX6_170 rfl rfl rfl (Nat.le_of_ble_eq_true rfl) (Nat.le_of_ble_eq_true rfl) ?_
        refine qm_alikeFrom (n := n) (by omega) (by omega) hn (by omega) (fun v12 h_v12 => ?_)
        refine r_istore hC dX6_like_27 rfl ?_
        refine r_iincG hC dX6_like_29 rfl rfl (fun v13 h_v13 => ?_)
        refine r_iload hC dX6_like_32 rfl ?_
        refine r_iload_n hC dX6_like_34 rfl ?_
        have J52_16 : ∀ (w15 w16 : Int), -2147483648 ≤ w15 ∧ w15 ≤ 2147483647 → 1 ≤ w16 ∧ w16 ≤ 242 → K 52 [some (vR 30 0), some (vI v13), some (vI w16), some (vI w15), some (vI v12), some (vI w5)] [] σ := by
          intro w15 w16  f_w15 f_w16 
          refine r_iload hC dX6_like_52 rfl ?_
          refine r_iload hC dX6_like_54 rfl ?_
          refine r_iaddE hC ((w5 + v12)) dX6_like_56 (by omega) (by unfold inR; omega) ?_
          refine r_istore hC dX6_like_57 rfl ?_
          refine r_goto (tgt := 12) hC dX6_like_59 rfl ?_
          exact ih12 (v13) (w16) (w15) (v12) ((w5 + v12))  (by omega) (by omega) (by omega) (by omega) (by omega) (by omega) (by omega)  
        refine r_icmp_gt (tgt := 41) hC dX6_like_35 rfl (fun h14 => ?_) (fun h14 => ?_)
        · refine r_iload hC dX6_like_41 rfl ?_
          refine r_istore_n hC dX6_like_43 rfl ?_
          refine r_aload_n hC dX6_like_44 rfl ?_
          refine z_getR hM dX6_like_45 fl_RX6_28 rfl rfl (vld_of (n := 1) rfl (by omega) (by omega)) ?_
          refine r_iload hC dX6_like_48 rfl ?_
          refine z_iald hM dX6_like_50 rfl (by omega) (by omega) (fun v18 h_v18 o_v18 t_v18 => ?_)
          refine r_istore_n hC dX6_like_51 rfl ?_
          exact J52_16 (v18) (v12)  (by omega) (by omega) 
        · refine r_goto (tgt := 52) hC dX6_like_38 rfl ?_
          exact J52_16 (w3) (w2)  (by omega) (by omega) 
  exact L12 244 (0) (0) (0) (0) (0)  (by omega) (by omega) (by omega) (by omega) (by omega) (by omega) (by omega)  
theorem qm_goThrough {eb : Bool} {d : Nat} {P : Option Vl → Mm → Prop} {σ : Mm} {o n : Int} (b_n : 1 ≤ n ∧ n ≤ 242) (hn : σ 30 0 8 = n)  (k : P none σ) : WT (false, eb, true) (d + 3) 158 [vR 30 0, vI o] σ P := by
  refine WT_in fun K hK => ?_
  have hK : StpY (false, eb, true) cX6_goThrough RX6 (none) (WT (false, eb, true) (d + 2)) P K := hK
  have hM := hK.1
  have hC := hK.1.1
  show K 0 [some (vR 30 0), some (vI o)] [] σ
  refine r_rngz hC (fun g0 => ?_)
  have r_o : -2147483648 ≤ o ∧ o ≤ 2147483647 := inR_le (g0 (vI o) (by simp))
  refine r_iload_n hC dX6_goThrough_0 rfl ?_
  rcases (by omega : (o < 0 ∨ 8 < o) ∨ o = 0 ∨ o = 1 ∨ o = 2 ∨ o = 3 ∨ o = 4 ∨ o = 5 ∨ o = 6 ∨ o = 7 ∨ o = 8) with h1 | h1 | h1 | h1 | h1 | h1 | h1 | h1 | h1 | h1
  · refine r_tableOut (tgt := 115) hC dX6_goThrough_1 h1 rfl ?_
    refine r_aload_n hC dX6_goThrough_115 rfl ?_
    refine z_inv0 hM dX6_goThrough_116 vl_RX6_157 rfl rfl rfl (Nat.le_of_ble_eq_true rfl) (Nat.le_of_ble_eq_true rfl) ?_
    refine qm_multiply b_n hn ?_
    refine y_vret hK rfl dX6_goThrough_119 ?_
    exact k
  · refine r_tableIn (tgt := 52) (off := 51) hC dX6_goThrough_1 (by omega) (by omega) (by rw [h1]; rfl) rfl ?_
    refine r_aload_n hC dX6_goThrough_52 rfl ?_
    refine z_inv0 hM dX6_goThrough_53 vl_RX6_130 rfl rfl rfl (Nat.le_of_ble_eq_true rfl) (Nat.le_of_ble_eq_true rfl) ?_
    refine qm_greatest b_n hn ?_
    refine r_goto (tgt := 119) hC dX6_goThrough_56 rfl ?_
    refine y_vret hK rfl dX6_goThrough_119 ?_
    exact k
  · refine r_tableIn (tgt := 59) (off := 58) hC dX6_goThrough_1 (by omega) (by omega) (by rw [h1]; rfl) rfl ?_
    refine r_aload_n hC dX6_goThrough_59 rfl ?_
    refine z_inv0 hM dX6_goThrough_60 vl_RX6_133 rfl rfl rfl (Nat.le_of_ble_eq_true rfl) (Nat.le_of_ble_eq_true rfl) ?_
    refine qm_share b_n hn ?_
    refine r_goto (tgt := 119) hC dX6_goThrough_63 rfl ?_
    refine y_vret hK rfl dX6_goThrough_119 ?_
    exact k
  · refine r_tableIn (tgt := 66) (off := 65) hC dX6_goThrough_1 (by omega) (by omega) (by rw [h1]; rfl) rfl ?_
    refine r_aload_n hC dX6_goThrough_66 rfl ?_
    refine z_inv0 hM dX6_goThrough_67 vl_RX6_136 rfl rfl rfl (Nat.le_of_ble_eq_true rfl) (Nat.le_of_ble_eq_true rfl) ?_
    refine qm_line b_n hn ?_
    refine r_goto (tgt := 119) hC dX6_goThrough_70 rfl ?_
    refine y_vret hK rfl dX6_goThrough_119 ?_
    exact k
  · refine r_tableIn (tgt := 73) (off := 72) hC dX6_goThrough_1 (by omega) (by omega) (by rw [h1]; rfl) rfl ?_
    refine r_aload_n hC dX6_goThrough_73 rfl ?_
    refine z_inv0 hM dX6_goThrough_74 vl_RX6_139 rfl rfl rfl (Nat.le_of_ble_eq_true rfl) (Nat.le_of_ble_eq_true rfl) ?_
    refine qm_run b_n hn ?_
    refine r_goto (tgt := 119) hC dX6_goThrough_77 rfl ?_
    refine y_vret hK rfl dX6_goThrough_119 ?_
    exact k
  · refine r_tableIn (tgt := 80) (off := 79) hC dX6_goThrough_1 (by omega) (by omega) (by rw [h1]; rfl) rfl ?_
    refine r_aload_n hC dX6_goThrough_80 rfl ?_
    refine z_inv0 hM dX6_goThrough_81 vl_RX6_142 rfl rfl rfl (Nat.le_of_ble_eq_true rfl) (Nat.le_of_ble_eq_true rfl) ?_
    refine qm_send b_n hn ?_
    refine r_goto (tgt := 119) hC dX6_goThrough_84 rfl ?_
    refine y_vret hK rfl dX6_goThrough_119 ?_
    exact k
  · refine r_tableIn (tgt := 87) (off := 86) hC dX6_goThrough_1 (by omega) (by omega) (by rw [h1]; rfl) rfl ?_
    refine r_aload_n hC dX6_goThrough_87 rfl ?_
    refine z_inv0 hM dX6_goThrough_88 vl_RX6_145 rfl rfl rfl (Nat.le_of_ble_eq_true rfl) (Nat.le_of_ble_eq_true rfl) ?_
    refine qm_nest b_n hn ?_
    refine r_goto (tgt := 119) hC dX6_goThrough_91 rfl ?_
    refine y_vret hK rfl dX6_goThrough_119 ?_
    exact k
  · refine r_tableIn (tgt := 94) (off := 93) hC dX6_goThrough_1 (by omega) (by omega) (by rw [h1]; rfl) rfl ?_
    refine r_aload_n hC dX6_goThrough_94 rfl ?_
    refine z_inv0 hM dX6_goThrough_95 vl_RX6_148 rfl rfl rfl (Nat.le_of_ble_eq_true rfl) (Nat.le_of_ble_eq_true rfl) ?_
    refine qm_like b_n hn ?_
    refine r_goto (tgt := 119) hC dX6_goThrough_98 rfl ?_
    refine y_vret hK rfl dX6_goThrough_119 ?_
    exact k
  · refine r_tableIn (tgt := 101) (off := 100) hC dX6_goThrough_1 (by omega) (by omega) (by rw [h1]; rfl) rfl ?_
    refine r_aload_n hC dX6_goThrough_101 rfl ?_
    refine z_inv0 hM dX6_goThrough_102 vl_RX6_151 rfl rfl rfl (Nat.le_of_ble_eq_true rfl) (Nat.le_of_ble_eq_true rfl) ?_
    refine qm_steps b_n hn ?_
    refine r_goto (tgt := 119) hC dX6_goThrough_105 rfl ?_
    refine y_vret hK rfl dX6_goThrough_119 ?_
    exact k
  · refine r_tableIn (tgt := 108) (off := 107) hC dX6_goThrough_1 (by omega) (by omega) (by rw [h1]; rfl) rfl ?_
    refine r_aload_n hC dX6_goThrough_108 rfl ?_
    refine z_inv0 hM dX6_goThrough_109 vl_RX6_154 rfl rfl rfl (Nat.le_of_ble_eq_true rfl) (Nat.le_of_ble_eq_true rfl) ?_
    refine qm_spread b_n hn ?_
    refine r_goto (tgt := 119) hC dX6_goThrough_112 rfl ?_
    refine y_vret hK rfl dX6_goThrough_119 ?_
    exact k
theorem qm_comes {eb : Bool} {d : Nat} {P : Option Vl → Mm → Prop} {σ : Mm} {o w n : Int} (b_w : 0 ≤ w ∧ w ≤ 6) (b_n : 0 ≤ n ∧ n ≤ 242) (qg0 : σ 30 0 8 = n)  (k : ∀ r : Int, (-2147483648 ≤ r ∧ r ≤ 2147483647) → P (some (vI r)) σ) : WT (false, eb, true) (d + 4) 159 [vR 30 0, vI o, vI w] σ P := by
  refine WT_in fun K hK => ?_
  have hK : StpY (false, eb, true) cX6_comes RX6 (some .int) (WT (false, eb, true) (d + 3)) P K := hK
  have hM := hK.1
  have hC := hK.1.1
  show K 0 [some (vR 30 0), some (vI o), some (vI w)] [] σ
  refine r_rngz hC (fun g0 => ?_)
  have r_o : -2147483648 ≤ o ∧ o ≤ 2147483647 := inR_le (g0 (vI o) (by simp))
  refine r_aload_n hC dX6_comes_0 rfl ?_
  refine z_getI (jz := 8) hM dX6_comes_1 fl_RX6_105 rfl rfl rfl (fun v1 h_v1 o_v1 t_v1 => ?_)
  have e_v1 : n = v1 := ((t_v1 ((Or.inr (Or.inr (Or.inr ⟨rfl, rfl⟩))))).trans qg0).symm
  subst e_v1
  refine r_if_ne (tgt := 10) hC dX6_comes_4 rfl (fun h2 => ?_) (fun h2 => ?_)
  · refine r_aload_n hC dX6_comes_10 rfl ?_
    refine r_iload_n hC dX6_comes_11 rfl ?_
    refine z_inv1 hM dX6_comes_12 vl_RX6_161 rfl rfl rfl (Nat.le_of_ble_eq_true rfl) (Nat.le_of_ble_eq_true rfl) ?_
    refine qm_goThrough (n := n) (by omega) (by have hq := qg0; omega) ?_
    refine r_aload_n hC dX6_comes_15 rfl ?_
    refine z_getR hM dX6_comes_16 fl_RX6_31 rfl rfl (vld_of (n := 1) rfl (by omega) (by omega)) ?_
    refine r_iload_n hC dX6_comes_19 rfl ?_
    refine z_iald hM dX6_comes_20 rfl (by omega) (by omega) (fun v3 h_v3 o_v3 t_v3 => ?_)
    refine y_iret hK rfl dX6_comes_21 ?_
    exact k _ (by omega)
  · refine r_ldc hC dX6_comes_7 co_RX6_160 rfl ?_
    refine y_iret hK rfl dX6_comes_9 ?_
    exact k _ (by omega)
theorem qm_clearRow {eb : Bool} {d : Nat} {P : Option Vl → Mm → Prop} {σ : Mm} {n : Int} (qg0 : σ 30 0 8 = n)  (k : ∀ ρ : Mm, Gx (fun c x y => c = 37 ∨ c = 30 ∧ y = 8) σ ρ → ρ 30 0 8 = 0 → P none ρ) : WT (false, eb, true) (d + 1) 152 [vR 30 0] σ P := by
  refine WT_in fun K hK => ?_
  have hK : StpY (false, eb, true) cX6_clearRow RX6 (none) (WT (false, eb, true) (d + 0)) P K := hK
  have hM := hK.1
  have hC := hK.1.1
  show K 0 [some (vR 30 0)] [] σ
  refine r_aload_n hC dX6_clearRow_0 rfl ?_
  refine r_iconst hC dX6_clearRow_1 rfl ?_
  refine z_putIG (jz := 8) hM dX6_clearRow_2 fw_RX6_105 rfl rfl rfl ⟨Or.inr (by simp [DL]), Or.inr (by simp [DF])⟩ (by first | trivial | (simp only [Okv]; omega) | (simp [Okv]; try omega)) (fun ρ1 a_ρ1 q_ρ1 => ?_)
  refine y_vret hK rfl dX6_clearRow_5 ?_
  exact k _ ((Gx.rf).al a_ρ1 (by first | (simp; done) | omega | (simp; omega))) (by have hq := q_ρ1; omega)
theorem qm_put {eb : Bool} {d : Nat} {P : Option Vl → Mm → Prop} {σ : Mm} {v n : Int} (b_n : 0 ≤ n ∧ n ≤ 241) (qg0 : σ 30 0 8 = n)  (k : ∀ ρ : Mm, Gx (fun c x y => c = 37 ∨ c = 30 ∧ y = 8) σ ρ → ρ 30 0 8 = n + 1 → P none ρ) : WT (false, eb, true) (d + 1) 153 [vR 30 0, vI v] σ P := by
  refine WT_in fun K hK => ?_
  have hK : StpY (false, eb, true) cX6_put RX6 (none) (WT (false, eb, true) (d + 0)) P K := hK
  have hM := hK.1
  have hC := hK.1.1
  show K 0 [some (vR 30 0), some (vI v)] [] σ
  refine r_rngz hC (fun g0 => ?_)
  have r_v : -2147483648 ≤ v ∧ v ≤ 2147483647 := inR_le (g0 (vI v) (by simp))
  refine r_aload_n hC dX6_put_0 rfl ?_
  refine z_getR hM dX6_put_1 fl_RX6_28 rfl rfl (vld_of (n := 1) rfl (by omega) (by omega)) ?_
  refine r_aload_n hC dX6_put_4 rfl ?_
  refine z_getI (jz := 8) hM dX6_put_5 fl_RX6_105 rfl rfl rfl (fun v1 h_v1 o_v1 t_v1 => ?_)
  have e_v1 : n = v1 := ((t_v1 ((Or.inr (Or.inr (Or.inr ⟨rfl, rfl⟩))))).trans qg0).symm
  subst e_v1
  refine r_iload_n hC dX6_put_8 rfl ?_
  refine z_iastG hM dX6_put_9 rfl (by omega) (by omega) ⟨Or.inr (by simp [DL]), Or.inr (by simp [DF])⟩ trivial (fun ρ2 a_ρ2 q_ρ2 => ?_)
  refine r_aload_n hC dX6_put_10 rfl ?_
  refine r_dup hC dX6_put_11 rfl ?_
  refine z_getI (jz := 8) hM dX6_put_12 fl_RX6_105 rfl rfl rfl (fun v3 h_v3 o_v3 t_v3 => ?_)
  have e_v3 : n = v3 := ((t_v3 ((Or.inr (Or.inr (Or.inr ⟨rfl, rfl⟩))))).trans ((a_ρ2 _ _ _ (by omega)).trans qg0)).symm
  subst e_v3
  refine r_iconst hC dX6_put_15 rfl ?_
  refine r_iaddE hC ((n + 1)) dX6_put_16 (by omega) (by unfold inR; omega) ?_
  refine z_putIG (jz := 8) hM dX6_put_17 fw_RX6_105 rfl rfl rfl ⟨Or.inr (by simp [DL]), Or.inr (by simp [DF])⟩ (by first | trivial | (simp only [Okv]; omega) | (simp [Okv]; try omega)) (fun ρ4 a_ρ4 q_ρ4 => ?_)
  refine y_vret hK rfl dX6_put_20 ?_
  exact k _ (((Gx.rf).al a_ρ2 (by first | (simp; done) | omega | (simp; omega))).al a_ρ4 (by first | (simp; done) | omega | (simp; omega))) (by have hq := q_ρ4; omega)
theorem qm_putFrom {eb : Bool} {d : Nat} {P : Option Vl → Mm → Prop} {σ : Mm} {l f z n : Int} (b_l : 0 ≤ l ∧ l ≤ 7) (b_f : 0 ≤ f ∧ f ≤ 121) (b_z : -2147483648 ≤ z ∧ z ≤ 120) (b_n : 0 ≤ n ∧ n ≤ 242) (qg0 : σ 30 0 8 = n) (hs : f ≤ z → n + (z - f + 1) ≤ 242)  (k : ∀ ρ : Mm, Gx (fun c x y => c = 37 ∨ c = 30 ∧ y = 8) σ ρ → ((f ≤ z → ρ 30 0 8 = n + (z - f + 1)) ∧ (z < f → ρ 30 0 8 = n)) → P none ρ) : WT (false, eb, true) (d + 2) 154 [vR 30 0, vI l, vI f, vI z] σ P := by
  refine WT_in fun K hK => ?_
  have hK : StpY (false, eb, true) cX6_putFrom RX6 (none) (WT (false, eb, true) (d + 1)) P K := hK
  have hM := hK.1
  have hC := hK.1.1
  show K 0 [some (vR 30 0), some (vI l), some (vI f), some (vI z), none] [] σ
  refine r_iload_n hC dX6_putFrom_0 rfl ?_
  refine r_istore hC dX6_putFrom_1 rfl ?_
  have L3 : ∀ (n3 : Nat) (w1 w2 : Int) (ρ3 : Mm), 0 ≤ w1 ∧ w1 ≤ 121 → 0 ≤ w2 ∧ w2 ≤ 242 → ((w2) = n + (w1) - f) → ((w1) ≤ z + 1 ∨ (w1) = f) → (f ≤ (w1)) → 121 - w1 < (n3 : Int) → Gx (fun c x y => c = 37 ∨ c = 30 ∧ y = 8) σ ρ3 → ρ3 30 0 8 = w2 → K 3 [some (vR 30 0), some (vI l), some (vI f), some (vI z), some (vI w1)] [] ρ3 := by
    intro n3
    induction n3 with
    | zero => intro w1 w2 ρ3 f_w1 f_w2 i0_3 i1_3 i2_3 hm g_ρ3 q0_ρ3 ; omega
    | succ n3 ih3 =>
      intro w1 w2 ρ3 f_w1 f_w2 i0_3 i1_3 i2_3 hm3 g_ρ3 q0_ρ3 
      refine r_iload hC dX6_putFrom_3 rfl ?_
      refine r_iload_n hC dX6_putFrom_5 rfl ?_
      refine r_icmp_gt (tgt := 31) hC dX6_putFrom_6 rfl (fun h4 => ?_) (fun h4 => ?_)
      · refine y_vret hK rfl dX6_putFrom_31 ?_
        exact k _ (g_ρ3) (by have hq := q0_ρ3; omega)
      · refine r_aload_n hC dX6_putFrom_9 rfl ?_
        refine r_aload_n hC dX6_putFrom_10 rfl ?_
        refine z_getR hM dX6_putFrom_11 fl_RX6_16 rfl rfl (vld_of (n := 1) rfl (by omega) (by omega)) ?_
        refine r_bipush hC dX6_putFrom_14 rfl ?_
        refine r_iload_n hC dX6_putFrom_16 rfl ?_
        refine r_imulE hC ((121 * l)) dX6_putFrom_17 (by omega) (by unfold inR; omega) ?_
        refine r_iload hC dX6_putFrom_18 rfl ?_
        refine r_iaddE hC (((121 * l) + w1)) dX6_putFrom_20 (by omega) (by unfold inR; omega) ?_
        refine z_iald hM dX6_putFrom_21 rfl (by omega) (by omega) (fun v5 h_v5 o_v5 t_v5 => ?_)
        refine z_inv1 hM dX6_putFrom_22 vl_RX6_109 rfl rfl rfl (Nat.le_of_ble_eq_true rfl) (Nat.le_of_ble_eq_true rfl) ?_
        refine qm_put (n := w2) (by omega) (by have hq := q0_ρ3; omega) (fun ρ6 g_ρ6 q_ρ6 => ?_)
        refine r_iincE hC ((w1 + 1)) dX6_putFrom_25 rfl rfl (by omega) (by unfold inR; omega) ?_
        refine r_goto (tgt := 3) hC dX6_putFrom_28 rfl ?_
        exact ih3 ((w1 + 1)) ((w2 + 1)) ρ6 (by omega) (by omega) (by omega) (by omega) (by omega) (by omega) (Gx.gx (g_ρ3) g_ρ6 (fun _ _ _ h => h)) (by have hq := q_ρ6; omega) 
  exact L3 123 (f) (n) σ (by omega) (by omega) (by omega) (by omega) (by omega) (by omega) (Gx.rf) (by have hq := qg0; omega) 
theorem qm_layAll {eb : Bool} {d : Nat} {P : Option Vl → Mm → Prop} {σ : Mm} {l n : Int} (b_l : 0 ≤ l ∧ l ≤ 7) (qg0 : σ 30 0 8 = n)  (k : ∀ ρ : Mm, Gx (fun c x y => c = 37 ∨ c = 30 ∧ y = 8) σ ρ → 0 ≤ ρ 30 0 8 ∧ ρ 30 0 8 ≤ 121 → (True → ρ 30 0 8 = σ 31 0 (22 * l + 5)) → P none ρ) : WT (false, eb, true) (d + 3) 155 [vR 30 0, vI l] σ P := by
  refine WT_in fun K hK => ?_
  have hK : StpY (false, eb, true) cX6_layAll RX6 (none) (WT (false, eb, true) (d + 2)) P K := hK
  have hM := hK.1
  have hC := hK.1.1
  show K 0 [some (vR 30 0), some (vI l)] [] σ
  refine r_aload_n hC dX6_layAll_0 rfl ?_
  refine z_inv0 hM dX6_layAll_1 vl_RX6_113 rfl rfl rfl (Nat.le_of_ble_eq_true rfl) (Nat.le_of_ble_eq_true rfl) ?_
  refine qm_clearRow (n := n) (by have hq := qg0; omega) (fun ρ1 g_ρ1 q_ρ1 => ?_)
  refine r_aload_n hC dX6_layAll_4 rfl ?_
  refine r_iload_n hC dX6_layAll_5 rfl ?_
  refine r_iconst hC dX6_layAll_6 rfl ?_
  refine r_aload_n hC dX6_layAll_7 rfl ?_
  refine r_iload_n hC dX6_layAll_8 rfl ?_
  refine z_inv1 hM dX6_layAll_9 vl_RX6_116 rfl rfl rfl (Nat.le_of_ble_eq_true rfl) (Nat.le_of_ble_eq_true rfl) ?_
  refine qm_heldOf (by omega) (fun v2 h_v2 t_v2 => ?_)
  refine r_iconst hC dX6_layAll_12 rfl ?_
  refine r_isubE hC ((v2 - 1)) dX6_layAll_13 (by omega) (by unfold inR; omega) ?_
  refine z_inv3 hM dX6_layAll_14 vl_RX6_120 rfl rfl rfl (Nat.le_of_ble_eq_true rfl) (Nat.le_of_ble_eq_true rfl) ?_
  refine qm_putFrom (n := 0) (by omega) (by omega) (by omega) (by omega) (by have hq := q_ρ1; omega) (by omega) (fun ρ3 g_ρ3 q_ρ3 => ?_)
  obtain ⟨n4, e_n4⟩ : ∃ v, ρ3 30 0 8 = v := ⟨_, rfl⟩
  have b_n4 : (0 ≤ (v2 - 1) → n4 = 0 + ((v2 - 1) - 0 + 1)) ∧ ((v2 - 1) < 0 → n4 = 0) ∧ 0 ≤ n4 ∧ n4 ≤ 242 := by have hq := q_ρ3; omega
  replace q_ρ3 := e_n4
  refine y_vret hK rfl dX6_layAll_17 ?_
  exact k _ (Gx.gx (Gx.gx (Gx.rf) g_ρ1 (fun _ _ _ h => h)) g_ρ3 (fun _ _ _ h => h)) (by have hq := q_ρ3; omega) (fun he => by have hq := q_ρ3; have hr := t_v2 he; have hs := (g_ρ1 31 0 (22 * l + 5) (by simp)); omega)
theorem qm_comesFrom_S {eb : Bool} {d : Nat} {P : Option Vl → Mm → Prop} {σ : Mm} {l f z w n : Int} (b_l : 0 ≤ l ∧ l ≤ 7) (b_f : 0 ≤ f ∧ f ≤ 121) (b_z : -2147483648 ≤ z ∧ z ≤ 120) (b_w : 0 ≤ w ∧ w ≤ 6) (qg0 : σ 30 0 8 = n)  (k : ∀ (r : Int) (ρ : Mm), Gx (fun c x y => c = 37 ∨ c = 30 ∧ y = 8) σ ρ → (-2147483648 ≤ r ∧ r ≤ 2147483647) → P (some (vI r)) ρ) : WT (false, eb, true) (d + 5) 213 [vR 30 0, vI l, vI f, vI z, vI w] σ P := by
  refine WT_in fun K hK => ?_
  have hK : StpY (false, eb, true) cX6_comesFrom RX6 (some .int) (WT (false, eb, true) (d + 4)) P K := hK
  have hM := hK.1
  have hC := hK.1.1
  show K 0 [some (vR 30 0), some (vI l), some (vI f), some (vI z), some (vI w)] [] σ
  refine r_aload_n hC dX6_comesFrom_0 rfl ?_
  refine z_inv0 hM dX6_comesFrom_1 vl_RX6_113 rfl rfl rfl (Nat.le_of_ble_eq_true rfl) (Nat.le_of_ble_eq_true rfl) ?_
  refine qm_clearRow (n := n) (by have hq := qg0; omega) (fun ρ1 g_ρ1 q_ρ1 => ?_)
  refine r_aload_n hC dX6_comesFrom_4 rfl ?_
  refine r_iload_n hC dX6_comesFrom_5 rfl ?_
  refine r_iload_n hC dX6_comesFrom_6 rfl ?_
  refine r_iload_n hC dX6_comesFrom_7 rfl ?_
  refine z_inv3 hM dX6_comesFrom_8 vl_RX6_120 rfl rfl rfl (Nat.le_of_ble_eq_true rfl) (Nat.le_of_ble_eq_true rfl) ?_
  refine qm_putFrom (n := 0) (by omega) (by omega) (by omega) (by omega) (by have hq := q_ρ1; omega) (by omega) (fun ρ2 g_ρ2 q_ρ2 => ?_)
  obtain ⟨n3, e_n3⟩ : ∃ v, ρ2 30 0 8 = v := ⟨_, rfl⟩
  have b_n3 : (f ≤ z → n3 = 0 + (z - f + 1)) ∧ (z < f → n3 = 0) ∧ 0 ≤ n3 ∧ n3 ≤ 242 := by have hq := q_ρ2; omega
  replace q_ρ2 := e_n3
  refine r_aload_n hC dX6_comesFrom_11 rfl ?_
  refine r_aload_n hC dX6_comesFrom_12 rfl ?_
  refine r_iload_n hC dX6_comesFrom_13 rfl ?_
  refine r_iconst hC dX6_comesFrom_14 rfl ?_
  refine z_inv2 hM dX6_comesFrom_15 vl_RX6_80 rfl rfl rfl (Nat.le_of_ble_eq_true rfl) (Nat.le_of_ble_eq_true rfl) ?_
  refine qm_of (by omega) (by omega) (fun v4 h_v4 h5_v4 h0_v4 t_v4 => ?_)
  refine r_iload hC dX6_comesFrom_18 rfl ?_
  refine z_inv2 hM dX6_comesFrom_20 vl_RX6_197 rfl rfl rfl (Nat.le_of_ble_eq_true rfl) (Nat.le_of_ble_eq_true rfl) ?_
  refine qm_comes (n := n3) (by omega) (by omega) (by have hq := q_ρ2; omega) (fun v5 h_v5 => ?_)
  refine y_iret hK rfl dX6_comesFrom_23 ?_
  exact k _ _ (Gx.gx (Gx.gx (Gx.rf) g_ρ1 (fun _ _ _ h => h)) g_ρ2 (fun _ _ _ h => h)) (by omega)
theorem qm_comesFrom {eb : Bool} {d : Nat} {P : Option Vl → Mm → Prop} {σ : Mm} {l f z w : Int} (b_l : 0 ≤ l ∧ l ≤ 7) (b_f : 0 ≤ f ∧ f ≤ 121) (b_z : -2147483648 ≤ z ∧ z ≤ 120) (b_w : 0 ≤ w ∧ w ≤ 6) (k : ∀ r : Int, -2147483648 ≤ r ∧ r ≤ 2147483647 → P (some (vI r)) σ) : WT (false, eb, false) (d + 5) 213 [vR 30 0, vI l, vI f, vI z, vI w] σ P := by
  refine WT_loose (false, eb, true) (fun h => h) (fun h => h) (fun c j q => ?_) (fun ρ hL_ hF hT hO => ?_)
  · rcases q with q | q | q | q
    · exact Or.inl q
    · cases q.1
    · exact Or.inr (Or.inr (Or.inl q))
    · cases q.1
  · refine qm_comesFrom_S b_l b_f b_z b_w (qg0 := rfl) (fun r ρ2 g hr => ⟨σ, k r hr, fun h => Or.inl h, fun h => Or.inl h, fun c i j q => ?_⟩)
    refine (g c i j ?_).trans (hT c i j q)
    rintro (rfl | ⟨rfl, rfl⟩)
    all_goals
      rcases q with q | q | q | q
      · exact q
      · exact q.2
      · rcases q.2 with z | z <;> exact z
      · cases q.1
theorem qm_comesWithout_S {eb : Bool} {d : Nat} {P : Option Vl → Mm → Prop} {σ : Mm} {l x w n : Int} (b_l : 0 ≤ l ∧ l ≤ 7) (b_x : 0 ≤ x ∧ x ≤ 120) (b_w : 0 ≤ w ∧ w ≤ 6) (qg0 : σ 30 0 8 = n)  (k : ∀ (r : Int) (ρ : Mm), Gx (fun c x y => c = 37 ∨ c = 30 ∧ y = 8) σ ρ → (-2147483648 ≤ r ∧ r ≤ 2147483647) → P (some (vI r)) ρ) : WT (false, eb, true) (d + 5) 224 [vR 30 0, vI l, vI x, vI w] σ P := by
  refine WT_in fun K hK => ?_
  have hK : StpY (false, eb, true) cX6_comesWithout RX6 (some .int) (WT (false, eb, true) (d + 4)) P K := hK
  have hM := hK.1
  have hC := hK.1.1
  show K 0 [some (vR 30 0), some (vI l), some (vI x), some (vI w)] [] σ
  refine r_aload_n hC dX6_comesWithout_0 rfl ?_
  refine z_inv0 hM dX6_comesWithout_1 vl_RX6_113 rfl rfl rfl (Nat.le_of_ble_eq_true rfl) (Nat.le_of_ble_eq_true rfl) ?_
  refine qm_clearRow (n := n) (by have hq := qg0; omega) (fun ρ1 g_ρ1 q_ρ1 => ?_)
  refine r_aload_n hC dX6_comesWithout_4 rfl ?_
  refine r_iload_n hC dX6_comesWithout_5 rfl ?_
  refine r_iconst hC dX6_comesWithout_6 rfl ?_
  refine r_iload_n hC dX6_comesWithout_7 rfl ?_
  refine r_iconst hC dX6_comesWithout_8 rfl ?_
  refine r_isubE hC ((x - 1)) dX6_comesWithout_9 (by omega) (by unfold inR; omega) ?_
  refine z_inv3 hM dX6_comesWithout_10 vl_RX6_120 rfl rfl rfl (Nat.le_of_ble_eq_true rfl) (Nat.le_of_ble_eq_true rfl) ?_
  refine qm_putFrom (n := 0) (by omega) (by omega) (by omega) (by omega) (by have hq := q_ρ1; omega) (by omega) (fun ρ2 g_ρ2 q_ρ2 => ?_)
  obtain ⟨n3, e_n3⟩ : ∃ v, ρ2 30 0 8 = v := ⟨_, rfl⟩
  have b_n3 : (0 ≤ (x - 1) → n3 = 0 + ((x - 1) - 0 + 1)) ∧ ((x - 1) < 0 → n3 = 0) ∧ 0 ≤ n3 ∧ n3 ≤ 242 := by have hq := q_ρ2; omega
  replace q_ρ2 := e_n3
  refine r_aload_n hC dX6_comesWithout_13 rfl ?_
  refine r_iload_n hC dX6_comesWithout_14 rfl ?_
  refine r_iload_n hC dX6_comesWithout_15 rfl ?_
  refine r_iconst hC dX6_comesWithout_16 rfl ?_
  refine r_iaddE hC ((x + 1)) dX6_comesWithout_17 (by omega) (by unfold inR; omega) ?_
  refine r_aload_n hC dX6_comesWithout_18 rfl ?_
  refine r_iload_n hC dX6_comesWithout_19 rfl ?_
  refine z_inv1 hM dX6_comesWithout_20 vl_RX6_116 rfl rfl rfl (Nat.le_of_ble_eq_true rfl) (Nat.le_of_ble_eq_true rfl) ?_
  refine qm_heldOf (by omega) (fun v4 h_v4 t_v4 => ?_)
  refine r_iconst hC dX6_comesWithout_23 rfl ?_
  refine r_isubE hC ((v4 - 1)) dX6_comesWithout_24 (by omega) (by unfold inR; omega) ?_
  refine z_inv3 hM dX6_comesWithout_25 vl_RX6_120 rfl rfl rfl (Nat.le_of_ble_eq_true rfl) (Nat.le_of_ble_eq_true rfl) ?_
  refine qm_putFrom (n := n3) (by omega) (by omega) (by omega) (by omega) (by have hq := q_ρ2; omega) (by omega) (fun ρ5 g_ρ5 q_ρ5 => ?_)
  obtain ⟨n6, e_n6⟩ : ∃ v, ρ5 30 0 8 = v := ⟨_, rfl⟩
  have b_n6 : ((x + 1) ≤ (v4 - 1) → n6 = n3 + ((v4 - 1) - (x + 1) + 1)) ∧ ((v4 - 1) < (x + 1) → n6 = n3) ∧ 0 ≤ n6 ∧ n6 ≤ 242 := by have hq := q_ρ5; omega
  replace q_ρ5 := e_n6
  refine r_aload_n hC dX6_comesWithout_28 rfl ?_
  refine r_aload_n hC dX6_comesWithout_29 rfl ?_
  refine r_iload_n hC dX6_comesWithout_30 rfl ?_
  refine r_iconst hC dX6_comesWithout_31 rfl ?_
  refine z_inv2 hM dX6_comesWithout_32 vl_RX6_80 rfl rfl rfl (Nat.le_of_ble_eq_true rfl) (Nat.le_of_ble_eq_true rfl) ?_
  refine qm_of (by omega) (by omega) (fun v7 h_v7 h5_v7 h0_v7 t_v7 => ?_)
  refine r_iload_n hC dX6_comesWithout_35 rfl ?_
  refine z_inv2 hM dX6_comesWithout_36 vl_RX6_197 rfl rfl rfl (Nat.le_of_ble_eq_true rfl) (Nat.le_of_ble_eq_true rfl) ?_
  refine qm_comes (n := n6) (by omega) (by omega) (by have hq := q_ρ5; omega) (fun v8 h_v8 => ?_)
  refine y_iret hK rfl dX6_comesWithout_39 ?_
  exact k _ _ (Gx.gx (Gx.gx (Gx.gx (Gx.rf) g_ρ1 (fun _ _ _ h => h)) g_ρ2 (fun _ _ _ h => h)) g_ρ5 (fun _ _ _ h => h)) (by omega)
theorem qm_comesWithout {eb : Bool} {d : Nat} {P : Option Vl → Mm → Prop} {σ : Mm} {l x w : Int} (b_l : 0 ≤ l ∧ l ≤ 7) (b_x : 0 ≤ x ∧ x ≤ 120) (b_w : 0 ≤ w ∧ w ≤ 6) (k : ∀ r : Int, -2147483648 ≤ r ∧ r ≤ 2147483647 → P (some (vI r)) σ) : WT (false, eb, false) (d + 5) 224 [vR 30 0, vI l, vI x, vI w] σ P := by
  refine WT_loose (false, eb, true) (fun h => h) (fun h => h) (fun c j q => ?_) (fun ρ hL_ hF hT hO => ?_)
  · rcases q with q | q | q | q
    · exact Or.inl q
    · cases q.1
    · exact Or.inr (Or.inr (Or.inl q))
    · cases q.1
  · refine qm_comesWithout_S b_l b_x b_w (qg0 := rfl) (fun r ρ2 g hr => ⟨σ, k r hr, fun h => Or.inl h, fun h => Or.inl h, fun c i j q => ?_⟩)
    refine (g c i j ?_).trans (hT c i j q)
    rintro (rfl | ⟨rfl, rfl⟩)
    all_goals
      rcases q with q | q | q | q
      · exact q
      · exact q.2
      · rcases q.2 with z | z <;> exact z
      · cases q.1
