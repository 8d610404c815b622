theorem w_linkEnd {d : Nat} {Post : Option Vl → Mm → Prop} {τ : Mm} {i : Int} (k : Post none (mu τ 13 i 0 (-1)))  : WP (d + 1) 40 [vR 13 i] τ Post := by
  intro K hK
  have hK : StpF cX3_end RX3 (none) (WP (d + 0)) Post K := hK
  have hM := hK.1
  have hC := hK.1.1
  show K 0 [some (vR 13 i)] [] τ
  refine r_aload_n hC dX3_end_0 rfl ?_
  refine r_iconst hC dX3_end_1 rfl ?_
  refine m_putI (jz := 0) hM dX3_end_2 fw_RX3_9 rfl rfl rfl ?_
  refine t_vret hK rfl dX3_end_5 ?_
  exact k
theorem w_endTies0 {d : Nat} {Post : Option Vl → Mm → Prop} {τ : Mm} {l : Int} (hl : 0 ≤ l) (hW : ∀ i : Int, 0 ≤ i → i < 8 → τ 12 i 0 = -1) (hL : ∀ i : Int, 0 ≤ i → i < 4 → τ 13 i 0 = -1) (k : ∀ τ2 : Mm, (∀ (c : Nat) (x j : Int), c ≠ 13 → τ2 c x j = τ c x j) → Post none τ2) : WP (d + 2) 108 [vR 2 0, vI l] τ Post := by
  intro K hK
  have hK : StpF cX5_endTies RX5 (none) (WP (d + 1)) Post K := hK
  have hM := hK.1
  have hC := hK.1.1
  show K 0 [some (vR 2 0), some (vI l), none] [] τ
  have L : ∀ (n : Nat) (i : Int) (τ1 : Mm), 0 ≤ i → i ≤ 4 → 4 - i < (n : Int) → (∀ x : Int, 0 ≤ x → x < 4 → τ1 13 x 0 = -1) → (∀ (c : Nat) (x j : Int), c ≠ 13 → τ1 c x j = τ c x j) → K 38 [some (vR 2 0), some (vI l), some (vI i)] [] τ1 := by
    intro n
    induction n with
    | zero => intro i τ1 h0 h1 h2 g2 g3; omega
    | succ n ih =>
      intro i τ1 h0 h1 h2 g2 g3
      refine r_iload_n hC dX5_endTies_38 rfl ?_
      refine r_iconst hC dX5_endTies_39 rfl ?_
      refine r_icmp_ge (tgt := 76) hC dX5_endTies_40 rfl (fun h1 => ?_) (fun h1 => ?_)
      · refine t_vret hK rfl dX5_endTies_76 ?_
        exact k _ g3
      · refine r_iload_n hC dX5_endTies_43 rfl ?_
        refine r_iload_n hC dX5_endTies_44 rfl ?_
        refine r_icmp_eq (tgt := 61) hC dX5_endTies_45 rfl (fun h2 => ?_) (fun h2 => ?_)
        · refine r_aload_n hC dX5_endTies_61 rfl ?_
          refine m_getR hM dX5_endTies_62 fl_RX5_19 rfl rfl (vld_of (n := 1) rfl (by omega) (by omega)) ?_
          refine r_iload_n hC dX5_endTies_65 rfl ?_
          refine m_aald hM dX5_endTies_66 rfl (by decide) (by omega) (by omega) (vld_of (n := 4) rfl (by omega) (by omega)) ?_
          refine m_inv0 hM dX5_endTies_67 vl_RX5_340 rfl rfl rfl (Nat.le_of_ble_eq_true rfl) (Nat.le_of_ble_eq_true rfl) ?_
          refine w_linkEnd ?_
          refine r_iincS hC dX5_endTies_70 rfl rfl (by unfold inR; omega) ?_
          refine r_goto (tgt := 38) hC dX5_endTies_73 rfl ?_
          first
            | exact ih (i + 1) _ (by omega) (by omega) (by omega) g2 g3
            | exact ih (i + 1) _ (by omega) (by omega) (by omega) (fun x a b => by unfold mu; split; rfl; exact g2 x a b) (fun c x j hc => (mu_ne (fun q => hc q.1)).trans (g3 c x j hc))
        · refine r_aload_n hC dX5_endTies_48 rfl ?_
          refine m_getR hM dX5_endTies_49 fl_RX5_19 rfl rfl (vld_of (n := 1) rfl (by omega) (by omega)) ?_
          refine r_iload_n hC dX5_endTies_52 rfl ?_
          refine m_aald hM dX5_endTies_53 rfl (by decide) (by omega) (by omega) (vld_of (n := 4) rfl (by omega) (by omega)) ?_
          refine m_getI (jz := 0) hM dX5_endTies_54 fl_RX5_215 rfl rfl rfl ?_
          refine r_iload_n hC dX5_endTies_57 rfl ?_
          have e1 := g2 i (by omega) (by omega)
          refine r_icmp_ne (tgt := 70) hC dX5_endTies_58 rfl (fun h4 => ?_) (fun h4 => by omega)
          refine r_iincS hC dX5_endTies_70 rfl rfl (by unfold inR; omega) ?_
          refine r_goto (tgt := 38) hC dX5_endTies_73 rfl ?_
          first
            | exact ih (i + 1) _ (by omega) (by omega) (by omega) g2 g3
            | exact ih (i + 1) _ (by omega) (by omega) (by omega) (fun x a b => by unfold mu; split; rfl; exact g2 x a b) (fun c x j hc => (mu_ne (fun q => hc q.1)).trans (g3 c x j hc))
  refine r_iconst hC dX5_endTies_0 rfl ?_
  refine r_istore_n hC dX5_endTies_1 rfl ?_
  refine r_iload_n hC dX5_endTies_2 rfl ?_
  refine r_bipush hC dX5_endTies_3 rfl ?_
  refine r_icmp_ge (tgt := 36) hC dX5_endTies_5 rfl (fun h5 => by omega) (fun h5 => ?_)
  refine r_aload_n hC dX5_endTies_8 rfl ?_
  refine m_getR hM dX5_endTies_9 fl_RX5_32 rfl rfl (vld_of (n := 1) rfl (by omega) (by omega)) ?_
  refine r_iload_n hC dX5_endTies_12 rfl ?_
  refine m_aald hM dX5_endTies_13 rfl (by decide) (by omega) (by omega) (vld_of (n := 8) rfl (by omega) (by omega)) ?_
  refine m_getI (jz := 0) hM dX5_endTies_14 fl_RX5_321 rfl rfl rfl ?_
  refine r_iload_n hC dX5_endTies_17 rfl ?_
  have e1 := hW (0) (by decide) (by decide)
  refine r_icmp_ne (tgt := 30) hC dX5_endTies_18 rfl (fun h6 => ?_) (fun h6 => by omega)
  refine r_iincE hC (1) dX5_endTies_30 rfl rfl rfl (inR_lit rfl) ?_
  refine r_goto (tgt := 2) hC dX5_endTies_33 rfl ?_
  refine r_iload_n hC dX5_endTies_2 rfl ?_
  refine r_bipush hC dX5_endTies_3 rfl ?_
  refine r_icmp_ge (tgt := 36) hC dX5_endTies_5 rfl (fun h7 => by omega) (fun h7 => ?_)
  refine r_aload_n hC dX5_endTies_8 rfl ?_
  refine m_getR hM dX5_endTies_9 fl_RX5_32 rfl rfl (vld_of (n := 1) rfl (by omega) (by omega)) ?_
  refine r_iload_n hC dX5_endTies_12 rfl ?_
  refine m_aald hM dX5_endTies_13 rfl (by decide) (by omega) (by omega) (vld_of (n := 8) rfl (by omega) (by omega)) ?_
  refine m_getI (jz := 0) hM dX5_endTies_14 fl_RX5_321 rfl rfl rfl ?_
  refine r_iload_n hC dX5_endTies_17 rfl ?_
  have e1 := hW (1) (by decide) (by decide)
  refine r_icmp_ne (tgt := 30) hC dX5_endTies_18 rfl (fun h8 => ?_) (fun h8 => by omega)
  refine r_iincE hC (2) dX5_endTies_30 rfl rfl rfl (inR_lit rfl) ?_
  show K _ [_, _, _] _ _
  refine r_goto (tgt := 2) hC dX5_endTies_33 rfl ?_
  refine r_iload_n hC dX5_endTies_2 rfl ?_
  refine r_bipush hC dX5_endTies_3 rfl ?_
  refine r_icmp_ge (tgt := 36) hC dX5_endTies_5 rfl (fun h9 => by omega) (fun h9 => ?_)
  refine r_aload_n hC dX5_endTies_8 rfl ?_
  refine m_getR hM dX5_endTies_9 fl_RX5_32 rfl rfl (vld_of (n := 1) rfl (by omega) (by omega)) ?_
  refine r_iload_n hC dX5_endTies_12 rfl ?_
  refine m_aald hM dX5_endTies_13 rfl (by decide) (by omega) (by omega) (vld_of (n := 8) rfl (by omega) (by omega)) ?_
  refine m_getI (jz := 0) hM dX5_endTies_14 fl_RX5_321 rfl rfl rfl ?_
  refine r_iload_n hC dX5_endTies_17 rfl ?_
  have e1 := hW (2) (by decide) (by decide)
  refine r_icmp_ne (tgt := 30) hC dX5_endTies_18 rfl (fun h10 => ?_) (fun h10 => by omega)
  refine r_iincE hC (3) dX5_endTies_30 rfl rfl rfl (inR_lit rfl) ?_
  refine r_goto (tgt := 2) hC dX5_endTies_33 rfl ?_
  refine r_iload_n hC dX5_endTies_2 rfl ?_
  refine r_bipush hC dX5_endTies_3 rfl ?_
  refine r_icmp_ge (tgt := 36) hC dX5_endTies_5 rfl (fun h11 => by omega) (fun h11 => ?_)
  refine r_aload_n hC dX5_endTies_8 rfl ?_
  refine m_getR hM dX5_endTies_9 fl_RX5_32 rfl rfl (vld_of (n := 1) rfl (by omega) (by omega)) ?_
  refine r_iload_n hC dX5_endTies_12 rfl ?_
  refine m_aald hM dX5_endTies_13 rfl (by decide) (by omega) (by omega) (vld_of (n := 8) rfl (by omega) (by omega)) ?_
  refine m_getI (jz := 0) hM dX5_endTies_14 fl_RX5_321 rfl rfl rfl ?_
  refine r_iload_n hC dX5_endTies_17 rfl ?_
  have e1 := hW (3) (by decide) (by decide)
  refine r_icmp_ne (tgt := 30) hC dX5_endTies_18 rfl (fun h12 => ?_) (fun h12 => by omega)
  refine r_iincE hC (4) dX5_endTies_30 rfl rfl rfl (inR_lit rfl) ?_
  refine r_goto (tgt := 2) hC dX5_endTies_33 rfl ?_
  refine r_iload_n hC dX5_endTies_2 rfl ?_
  refine r_bipush hC dX5_endTies_3 rfl ?_
  refine r_icmp_ge (tgt := 36) hC dX5_endTies_5 rfl (fun h13 => by omega) (fun h13 => ?_)
  refine r_aload_n hC dX5_endTies_8 rfl ?_
  refine m_getR hM dX5_endTies_9 fl_RX5_32 rfl rfl (vld_of (n := 1) rfl (by omega) (by omega)) ?_
  refine r_iload_n hC dX5_endTies_12 rfl ?_
  refine m_aald hM dX5_endTies_13 rfl (by decide) (by omega) (by omega) (vld_of (n := 8) rfl (by omega) (by omega)) ?_
  refine m_getI (jz := 0) hM dX5_endTies_14 fl_RX5_321 rfl rfl rfl ?_
  refine r_iload_n hC dX5_endTies_17 rfl ?_
  have e1 := hW (4) (by decide) (by decide)
  refine r_icmp_ne (tgt := 30) hC dX5_endTies_18 rfl (fun h14 => ?_) (fun h14 => by omega)
  refine r_iincE hC (5) dX5_endTies_30 rfl rfl rfl (inR_lit rfl) ?_
  show K _ [_, _, _] _ _
  refine r_goto (tgt := 2) hC dX5_endTies_33 rfl ?_
  refine r_iload_n hC dX5_endTies_2 rfl ?_
  refine r_bipush hC dX5_endTies_3 rfl ?_
  refine r_icmp_ge (tgt := 36) hC dX5_endTies_5 rfl (fun h15 => by omega) (fun h15 => ?_)
  refine r_aload_n hC dX5_endTies_8 rfl ?_
  refine m_getR hM dX5_endTies_9 fl_RX5_32 rfl rfl (vld_of (n := 1) rfl (by omega) (by omega)) ?_
  refine r_iload_n hC dX5_endTies_12 rfl ?_
  refine m_aald hM dX5_endTies_13 rfl (by decide) (by omega) (by omega) (vld_of (n := 8) rfl (by omega) (by omega)) ?_
  refine m_getI (jz := 0) hM dX5_endTies_14 fl_RX5_321 rfl rfl rfl ?_
  refine r_iload_n hC dX5_endTies_17 rfl ?_
  have e1 := hW (5) (by decide) (by decide)
  refine r_icmp_ne (tgt := 30) hC dX5_endTies_18 rfl (fun h16 => ?_) (fun h16 => by omega)
  refine r_iincE hC (6) dX5_endTies_30 rfl rfl rfl (inR_lit rfl) ?_
  refine r_goto (tgt := 2) hC dX5_endTies_33 rfl ?_
  refine r_iload_n hC dX5_endTies_2 rfl ?_
  refine r_bipush hC dX5_endTies_3 rfl ?_
  refine r_icmp_ge (tgt := 36) hC dX5_endTies_5 rfl (fun h17 => by omega) (fun h17 => ?_)
  refine r_aload_n hC dX5_endTies_8 rfl ?_
  refine m_getR hM dX5_endTies_9 fl_RX5_32 rfl rfl (vld_of (n := 1) rfl (by omega) (by omega)) ?_
  refine r_iload_n hC dX5_endTies_12 rfl ?_
  refine m_aald hM dX5_endTies_13 rfl (by decide) (by omega) (by omega) (vld_of (n := 8) rfl (by omega) (by omega)) ?_
  refine m_getI (jz := 0) hM dX5_endTies_14 fl_RX5_321 rfl rfl rfl ?_
  refine r_iload_n hC dX5_endTies_17 rfl ?_
  have e1 := hW (6) (by decide) (by decide)
  refine r_icmp_ne (tgt := 30) hC dX5_endTies_18 rfl (fun h18 => ?_) (fun h18 => by omega)
  refine r_iincE hC (7) dX5_endTies_30 rfl rfl rfl (inR_lit rfl) ?_
  refine r_goto (tgt := 2) hC dX5_endTies_33 rfl ?_
  refine r_iload_n hC dX5_endTies_2 rfl ?_
  refine r_bipush hC dX5_endTies_3 rfl ?_
  refine r_icmp_ge (tgt := 36) hC dX5_endTies_5 rfl (fun h19 => by omega) (fun h19 => ?_)
  refine r_aload_n hC dX5_endTies_8 rfl ?_
  refine m_getR hM dX5_endTies_9 fl_RX5_32 rfl rfl (vld_of (n := 1) rfl (by omega) (by omega)) ?_
  refine r_iload_n hC dX5_endTies_12 rfl ?_
  refine m_aald hM dX5_endTies_13 rfl (by decide) (by omega) (by omega) (vld_of (n := 8) rfl (by omega) (by omega)) ?_
  refine m_getI (jz := 0) hM dX5_endTies_14 fl_RX5_321 rfl rfl rfl ?_
  refine r_iload_n hC dX5_endTies_17 rfl ?_
  have e1 := hW (7) (by decide) (by decide)
  refine r_icmp_ne (tgt := 30) hC dX5_endTies_18 rfl (fun h20 => ?_) (fun h20 => by omega)
  refine r_iincE hC (8) dX5_endTies_30 rfl rfl rfl (inR_lit rfl) ?_
  show K _ [_, _, _] _ _
  refine r_goto (tgt := 2) hC dX5_endTies_33 rfl ?_
  refine r_iload_n hC dX5_endTies_2 rfl ?_
  refine r_bipush hC dX5_endTies_3 rfl ?_
  refine r_icmp_ge (tgt := 36) hC dX5_endTies_5 rfl (fun h21 => ?_) (fun h21 => by omega)
  refine r_iconst hC dX5_endTies_36 rfl ?_
  refine r_istore_n hC dX5_endTies_37 rfl ?_
  exact L 5 0 τ (by omega) (by omega) (by omega) hL (fun _ _ _ _ => rfl)
theorem w_openLanes1 {d : Nat} {Post : Option Vl → Mm → Prop} {τ : Mm}  {l : Int} (hl : 0 ≤ l ∧ l ≤ 3) (hO : ∀ i : Int, 0 ≤ i → i < 4 → (i = l ∧ τ 7 i 1 = 1) ∨ (i ≠ l ∧ τ 7 i 1 = 0)) (k : Post (some (vI 1)) τ) : WP (d + 1) 117 [vR 2 0] τ Post := by
  intro K hK
  have hK : StpF cX5_openLanes RX5 (some .int) (WP (d + 0)) Post K := hK
  have hM := hK.1
  have hC := hK.1.1
  show K 0 [some (vR 2 0), none, none] [] τ
  refine r_iconst hC dX5_openLanes_0 rfl ?_
  refine r_istore_n hC dX5_openLanes_1 rfl ?_
  refine r_iconst hC dX5_openLanes_2 rfl ?_
  refine r_istore_n hC dX5_openLanes_3 rfl ?_
  refine r_iload_n hC dX5_openLanes_4 rfl ?_
  refine r_iconst hC dX5_openLanes_5 rfl ?_
  refine r_icmp_ge (tgt := 35) hC dX5_openLanes_6 rfl (fun h1 => by omega) (fun h1 => ?_)
  refine r_iload_n hC dX5_openLanes_9 rfl ?_
  refine r_aload_n hC dX5_openLanes_10 rfl ?_
  refine m_getR hM dX5_openLanes_11 fl_RX5_13 rfl rfl (vld_of (n := 1) rfl (by omega) (by omega)) ?_
  refine r_iload_n hC dX5_openLanes_14 rfl ?_
  refine m_aald hM dX5_openLanes_15 rfl (by decide) (by omega) (by omega) (vld_of (n := 7) rfl (by omega) (by omega)) ?_
  refine m_getI (jz := 1) hM dX5_openLanes_16 fl_RX5_94 rfl rfl rfl ?_
  have e0 := hO (0) (by decide) (by decide)
  refine r_if_eq (tgt := 26) hC dX5_openLanes_19 rfl (fun h2 => ?_) (fun h2 => ?_)
  · refine r_iconst hC dX5_openLanes_26 rfl ?_
    refine r_iaddE hC (0) dX5_openLanes_27 rfl (inR_lit rfl) ?_
    refine r_istore_n hC dX5_openLanes_28 rfl ?_
    refine r_iincE hC (1) dX5_openLanes_29 rfl rfl rfl (inR_lit rfl) ?_
    refine r_goto (tgt := 4) hC dX5_openLanes_32 rfl ?_
    refine r_iload_n hC dX5_openLanes_4 rfl ?_
    refine r_iconst hC dX5_openLanes_5 rfl ?_
    refine r_icmp_ge (tgt := 35) hC dX5_openLanes_6 rfl (fun h3 => by omega) (fun h3 => ?_)
    refine r_iload_n hC dX5_openLanes_9 rfl ?_
    refine r_aload_n hC dX5_openLanes_10 rfl ?_
    refine m_getR hM dX5_openLanes_11 fl_RX5_13 rfl rfl (vld_of (n := 1) rfl (by omega) (by omega)) ?_
    refine r_iload_n hC dX5_openLanes_14 rfl ?_
    refine m_aald hM dX5_openLanes_15 rfl (by decide) (by omega) (by omega) (vld_of (n := 7) rfl (by omega) (by omega)) ?_
    refine m_getI (jz := 1) hM dX5_openLanes_16 fl_RX5_94 rfl rfl rfl ?_
    have e1 := hO (1) (by decide) (by decide)
    refine r_if_eq (tgt := 26) hC dX5_openLanes_19 rfl (fun h4 => ?_) (fun h4 => ?_)
    · refine r_iconst hC dX5_openLanes_26 rfl ?_
      refine r_iaddE hC (0) dX5_openLanes_27 rfl (inR_lit rfl) ?_
      refine r_istore_n hC dX5_openLanes_28 rfl ?_
      refine r_iincE hC (2) dX5_openLanes_29 rfl rfl rfl (inR_lit rfl) ?_
      refine r_goto (tgt := 4) hC dX5_openLanes_32 rfl ?_
      refine r_iload_n hC dX5_openLanes_4 rfl ?_
      refine r_iconst hC dX5_openLanes_5 rfl ?_
      refine r_icmp_ge (tgt := 35) hC dX5_openLanes_6 rfl (fun h5 => by omega) (fun h5 => ?_)
      refine r_iload_n hC dX5_openLanes_9 rfl ?_
      refine r_aload_n hC dX5_openLanes_10 rfl ?_
      refine m_getR hM dX5_openLanes_11 fl_RX5_13 rfl rfl (vld_of (n := 1) rfl (by omega) (by omega)) ?_
      refine r_iload_n hC dX5_openLanes_14 rfl ?_
      refine m_aald hM dX5_openLanes_15 rfl (by decide) (by omega) (by omega) (vld_of (n := 7) rfl (by omega) (by omega)) ?_
      refine m_getI (jz := 1) hM dX5_openLanes_16 fl_RX5_94 rfl rfl rfl ?_
      have e2 := hO (2) (by decide) (by decide)
      refine r_if_eq (tgt := 26) hC dX5_openLanes_19 rfl (fun h6 => ?_) (fun h6 => ?_)
      · refine r_iconst hC dX5_openLanes_26 rfl ?_
        refine r_iaddE hC (0) dX5_openLanes_27 rfl (inR_lit rfl) ?_
        refine r_istore_n hC dX5_openLanes_28 rfl ?_
        refine r_iincE hC (3) dX5_openLanes_29 rfl rfl rfl (inR_lit rfl) ?_
        refine r_goto (tgt := 4) hC dX5_openLanes_32 rfl ?_
        refine r_iload_n hC dX5_openLanes_4 rfl ?_
        refine r_iconst hC dX5_openLanes_5 rfl ?_
        refine r_icmp_ge (tgt := 35) hC dX5_openLanes_6 rfl (fun h7 => by omega) (fun h7 => ?_)
        refine r_iload_n hC dX5_openLanes_9 rfl ?_
        refine r_aload_n hC dX5_openLanes_10 rfl ?_
        refine m_getR hM dX5_openLanes_11 fl_RX5_13 rfl rfl (vld_of (n := 1) rfl (by omega) (by omega)) ?_
        refine r_iload_n hC dX5_openLanes_14 rfl ?_
        refine m_aald hM dX5_openLanes_15 rfl (by decide) (by omega) (by omega) (vld_of (n := 7) rfl (by omega) (by omega)) ?_
        refine m_getI (jz := 1) hM dX5_openLanes_16 fl_RX5_94 rfl rfl rfl ?_
        have e3 := hO (3) (by decide) (by decide)
        refine r_if_eq (tgt := 26) hC dX5_openLanes_19 rfl (fun h8 => ?_) (fun h8 => ?_)
        · refine r_iconst hC dX5_openLanes_26 rfl ?_
          refine r_iaddE hC (0) dX5_openLanes_27 rfl (inR_lit rfl) ?_
          refine r_istore_n hC dX5_openLanes_28 rfl ?_
          refine r_iincE hC (4) dX5_openLanes_29 rfl rfl rfl (inR_lit rfl) ?_
          refine r_goto (tgt := 4) hC dX5_openLanes_32 rfl ?_
          refine r_iload_n hC dX5_openLanes_4 rfl ?_
          refine r_iconst hC dX5_openLanes_5 rfl ?_
          refine r_icmp_ge (tgt := 35) hC dX5_openLanes_6 rfl (fun h9 => ?_) (fun h9 => by omega)
          refine r_iload_n hC dX5_openLanes_35 rfl ?_
          refine t_iret hK rfl dX5_openLanes_36 ?_
          first | exact k | (exfalso; omega)
        · refine r_iconst hC dX5_openLanes_22 rfl ?_
          refine r_goto (tgt := 27) hC dX5_openLanes_23 rfl ?_
          refine r_iaddE hC (1) dX5_openLanes_27 rfl (inR_lit rfl) ?_
          refine r_istore_n hC dX5_openLanes_28 rfl ?_
          refine r_iincE hC (4) dX5_openLanes_29 rfl rfl rfl (inR_lit rfl) ?_
          refine r_goto (tgt := 4) hC dX5_openLanes_32 rfl ?_
          refine r_iload_n hC dX5_openLanes_4 rfl ?_
          refine r_iconst hC dX5_openLanes_5 rfl ?_
          refine r_icmp_ge (tgt := 35) hC dX5_openLanes_6 rfl (fun h10 => ?_) (fun h10 => by omega)
          refine r_iload_n hC dX5_openLanes_35 rfl ?_
          refine t_iret hK rfl dX5_openLanes_36 ?_
          first | exact k | (exfalso; omega)
      · refine r_iconst hC dX5_openLanes_22 rfl ?_
        refine r_goto (tgt := 27) hC dX5_openLanes_23 rfl ?_
        refine r_iaddE hC (1) dX5_openLanes_27 rfl (inR_lit rfl) ?_
        refine r_istore_n hC dX5_openLanes_28 rfl ?_
        refine r_iincE hC (3) dX5_openLanes_29 rfl rfl rfl (inR_lit rfl) ?_
        refine r_goto (tgt := 4) hC dX5_openLanes_32 rfl ?_
        refine r_iload_n hC dX5_openLanes_4 rfl ?_
        refine r_iconst hC dX5_openLanes_5 rfl ?_
        refine r_icmp_ge (tgt := 35) hC dX5_openLanes_6 rfl (fun h11 => by omega) (fun h11 => ?_)
        refine r_iload_n hC dX5_openLanes_9 rfl ?_
        refine r_aload_n hC dX5_openLanes_10 rfl ?_
        refine m_getR hM dX5_openLanes_11 fl_RX5_13 rfl rfl (vld_of (n := 1) rfl (by omega) (by omega)) ?_
        refine r_iload_n hC dX5_openLanes_14 rfl ?_
        refine m_aald hM dX5_openLanes_15 rfl (by decide) (by omega) (by omega) (vld_of (n := 7) rfl (by omega) (by omega)) ?_
        refine m_getI (jz := 1) hM dX5_openLanes_16 fl_RX5_94 rfl rfl rfl ?_
        have e3 := hO (3) (by decide) (by decide)
        refine r_if_eq (tgt := 26) hC dX5_openLanes_19 rfl (fun h12 => ?_) (fun h12 => ?_)
        · refine r_iconst hC dX5_openLanes_26 rfl ?_
          refine r_iaddE hC (1) dX5_openLanes_27 rfl (inR_lit rfl) ?_
          refine r_istore_n hC dX5_openLanes_28 rfl ?_
          refine r_iincE hC (4) dX5_openLanes_29 rfl rfl rfl (inR_lit rfl) ?_
          refine r_goto (tgt := 4) hC dX5_openLanes_32 rfl ?_
          refine r_iload_n hC dX5_openLanes_4 rfl ?_
          refine r_iconst hC dX5_openLanes_5 rfl ?_
          refine r_icmp_ge (tgt := 35) hC dX5_openLanes_6 rfl (fun h13 => ?_) (fun h13 => by omega)
          refine r_iload_n hC dX5_openLanes_35 rfl ?_
          refine t_iret hK rfl dX5_openLanes_36 ?_
          first | exact k | (exfalso; omega)
        · refine r_iconst hC dX5_openLanes_22 rfl ?_
          refine r_goto (tgt := 27) hC dX5_openLanes_23 rfl ?_
          refine r_iaddE hC (2) dX5_openLanes_27 rfl (inR_lit rfl) ?_
          refine r_istore_n hC dX5_openLanes_28 rfl ?_
          refine r_iincE hC (4) dX5_openLanes_29 rfl rfl rfl (inR_lit rfl) ?_
          refine r_goto (tgt := 4) hC dX5_openLanes_32 rfl ?_
          refine r_iload_n hC dX5_openLanes_4 rfl ?_
          refine r_iconst hC dX5_openLanes_5 rfl ?_
          refine r_icmp_ge (tgt := 35) hC dX5_openLanes_6 rfl (fun h14 => ?_) (fun h14 => by omega)
          refine r_iload_n hC dX5_openLanes_35 rfl ?_
          refine t_iret hK rfl dX5_openLanes_36 ?_
          first | exact k | (exfalso; omega)
    · refine r_iconst hC dX5_openLanes_22 rfl ?_
      refine r_goto (tgt := 27) hC dX5_openLanes_23 rfl ?_
      refine r_iaddE hC (1) dX5_openLanes_27 rfl (inR_lit rfl) ?_
      refine r_istore_n hC dX5_openLanes_28 rfl ?_
      refine r_iincE hC (2) dX5_openLanes_29 rfl rfl rfl (inR_lit rfl) ?_
      refine r_goto (tgt := 4) hC dX5_openLanes_32 rfl ?_
      refine r_iload_n hC dX5_openLanes_4 rfl ?_
      refine r_iconst hC dX5_openLanes_5 rfl ?_
      refine r_icmp_ge (tgt := 35) hC dX5_openLanes_6 rfl (fun h15 => by omega) (fun h15 => ?_)
      refine r_iload_n hC dX5_openLanes_9 rfl ?_
      refine r_aload_n hC dX5_openLanes_10 rfl ?_
      refine m_getR hM dX5_openLanes_11 fl_RX5_13 rfl rfl (vld_of (n := 1) rfl (by omega) (by omega)) ?_
      refine r_iload_n hC dX5_openLanes_14 rfl ?_
      refine m_aald hM dX5_openLanes_15 rfl (by decide) (by omega) (by omega) (vld_of (n := 7) rfl (by omega) (by omega)) ?_
      refine m_getI (jz := 1) hM dX5_openLanes_16 fl_RX5_94 rfl rfl rfl ?_
      have e2 := hO (2) (by decide) (by decide)
      refine r_if_eq (tgt := 26) hC dX5_openLanes_19 rfl (fun h16 => ?_) (fun h16 => ?_)
      · refine r_iconst hC dX5_openLanes_26 rfl ?_
        refine r_iaddE hC (1) dX5_openLanes_27 rfl (inR_lit rfl) ?_
        refine r_istore_n hC dX5_openLanes_28 rfl ?_
        refine r_iincE hC (3) dX5_openLanes_29 rfl rfl rfl (inR_lit rfl) ?_
        refine r_goto (tgt := 4) hC dX5_openLanes_32 rfl ?_
        refine r_iload_n hC dX5_openLanes_4 rfl ?_
        refine r_iconst hC dX5_openLanes_5 rfl ?_
        refine r_icmp_ge (tgt := 35) hC dX5_openLanes_6 rfl (fun h17 => by omega) (fun h17 => ?_)
        refine r_iload_n hC dX5_openLanes_9 rfl ?_
        refine r_aload_n hC dX5_openLanes_10 rfl ?_
        refine m_getR hM dX5_openLanes_11 fl_RX5_13 rfl rfl (vld_of (n := 1) rfl (by omega) (by omega)) ?_
        refine r_iload_n hC dX5_openLanes_14 rfl ?_
        refine m_aald hM dX5_openLanes_15 rfl (by decide) (by omega) (by omega) (vld_of (n := 7) rfl (by omega) (by omega)) ?_
        refine m_getI (jz := 1) hM dX5_openLanes_16 fl_RX5_94 rfl rfl rfl ?_
        have e3 := hO (3) (by decide) (by decide)
        refine r_if_eq (tgt := 26) hC dX5_openLanes_19 rfl (fun h18 => ?_) (fun h18 => ?_)
        · refine r_iconst hC dX5_openLanes_26 rfl ?_
          refine r_iaddE hC (1) dX5_openLanes_27 rfl (inR_lit rfl) ?_
          refine r_istore_n hC dX5_openLanes_28 rfl ?_
          refine r_iincE hC (4) dX5_openLanes_29 rfl rfl rfl (inR_lit rfl) ?_
          refine r_goto (tgt := 4) hC dX5_openLanes_32 rfl ?_
          refine r_iload_n hC dX5_openLanes_4 rfl ?_
          refine r_iconst hC dX5_openLanes_5 rfl ?_
          refine r_icmp_ge (tgt := 35) hC dX5_openLanes_6 rfl (fun h19 => ?_) (fun h19 => by omega)
          refine r_iload_n hC dX5_openLanes_35 rfl ?_
          refine t_iret hK rfl dX5_openLanes_36 ?_
          first | exact k | (exfalso; omega)
        · refine r_iconst hC dX5_openLanes_22 rfl ?_
          refine r_goto (tgt := 27) hC dX5_openLanes_23 rfl ?_
          refine r_iaddE hC (2) dX5_openLanes_27 rfl (inR_lit rfl) ?_
          refine r_istore_n hC dX5_openLanes_28 rfl ?_
          refine r_iincE hC (4) dX5_openLanes_29 rfl rfl rfl (inR_lit rfl) ?_
          refine r_goto (tgt := 4) hC dX5_openLanes_32 rfl ?_
          refine r_iload_n hC dX5_openLanes_4 rfl ?_
          refine r_iconst hC dX5_openLanes_5 rfl ?_
          refine r_icmp_ge (tgt := 35) hC dX5_openLanes_6 rfl (fun h20 => ?_) (fun h20 => by omega)
          refine r_iload_n hC dX5_openLanes_35 rfl ?_
          refine t_iret hK rfl dX5_openLanes_36 ?_
          first | exact k | (exfalso; omega)
      · refine r_iconst hC dX5_openLanes_22 rfl ?_
        refine r_goto (tgt := 27) hC dX5_openLanes_23 rfl ?_
        refine r_iaddE hC (2) dX5_openLanes_27 rfl (inR_lit rfl) ?_
        refine r_istore_n hC dX5_openLanes_28 rfl ?_
        refine r_iincE hC (3) dX5_openLanes_29 rfl rfl rfl (inR_lit rfl) ?_
        refine r_goto (tgt := 4) hC dX5_openLanes_32 rfl ?_
        refine r_iload_n hC dX5_openLanes_4 rfl ?_
        refine r_iconst hC dX5_openLanes_5 rfl ?_
        refine r_icmp_ge (tgt := 35) hC dX5_openLanes_6 rfl (fun h21 => by omega) (fun h21 => ?_)
        refine r_iload_n hC dX5_openLanes_9 rfl ?_
        refine r_aload_n hC dX5_openLanes_10 rfl ?_
        refine m_getR hM dX5_openLanes_11 fl_RX5_13 rfl rfl (vld_of (n := 1) rfl (by omega) (by omega)) ?_
        refine r_iload_n hC dX5_openLanes_14 rfl ?_
        refine m_aald hM dX5_openLanes_15 rfl (by decide) (by omega) (by omega) (vld_of (n := 7) rfl (by omega) (by omega)) ?_
        refine m_getI (jz := 1) hM dX5_openLanes_16 fl_RX5_94 rfl rfl rfl ?_
        have e3 := hO (3) (by decide) (by decide)
        refine r_if_eq (tgt := 26) hC dX5_openLanes_19 rfl (fun h22 => ?_) (fun h22 => ?_)
        · refine r_iconst hC dX5_openLanes_26 rfl ?_
          refine r_iaddE hC (2) dX5_openLanes_27 rfl (inR_lit rfl) ?_
          refine r_istore_n hC dX5_openLanes_28 rfl ?_
          refine r_iincE hC (4) dX5_openLanes_29 rfl rfl rfl (inR_lit rfl) ?_
          refine r_goto (tgt := 4) hC dX5_openLanes_32 rfl ?_
          refine r_iload_n hC dX5_openLanes_4 rfl ?_
          refine r_iconst hC dX5_openLanes_5 rfl ?_
          refine r_icmp_ge (tgt := 35) hC dX5_openLanes_6 rfl (fun h23 => ?_) (fun h23 => by omega)
          refine r_iload_n hC dX5_openLanes_35 rfl ?_
          refine t_iret hK rfl dX5_openLanes_36 ?_
          first | exact k | (exfalso; omega)
        · refine r_iconst hC dX5_openLanes_22 rfl ?_
          refine r_goto (tgt := 27) hC dX5_openLanes_23 rfl ?_
          refine r_iaddE hC (3) dX5_openLanes_27 rfl (inR_lit rfl) ?_
          refine r_istore_n hC dX5_openLanes_28 rfl ?_
          refine r_iincE hC (4) dX5_openLanes_29 rfl rfl rfl (inR_lit rfl) ?_
          refine r_goto (tgt := 4) hC dX5_openLanes_32 rfl ?_
          refine r_iload_n hC dX5_openLanes_4 rfl ?_
          refine r_iconst hC dX5_openLanes_5 rfl ?_
          refine r_icmp_ge (tgt := 35) hC dX5_openLanes_6 rfl (fun h24 => ?_) (fun h24 => by omega)
          refine r_iload_n hC dX5_openLanes_35 rfl ?_
          refine t_iret hK rfl dX5_openLanes_36 ?_
          first | exact k | (exfalso; omega)
  · refine r_iconst hC dX5_openLanes_22 rfl ?_
    refine r_goto (tgt := 27) hC dX5_openLanes_23 rfl ?_
    refine r_iaddE hC (1) dX5_openLanes_27 rfl (inR_lit rfl) ?_
    refine r_istore_n hC dX5_openLanes_28 rfl ?_
    refine r_iincE hC (1) dX5_openLanes_29 rfl rfl rfl (inR_lit rfl) ?_
    refine r_goto (tgt := 4) hC dX5_openLanes_32 rfl ?_
    refine r_iload_n hC dX5_openLanes_4 rfl ?_
    refine r_iconst hC dX5_openLanes_5 rfl ?_
    refine r_icmp_ge (tgt := 35) hC dX5_openLanes_6 rfl (fun h25 => by omega) (fun h25 => ?_)
    refine r_iload_n hC dX5_openLanes_9 rfl ?_
    refine r_aload_n hC dX5_openLanes_10 rfl ?_
    refine m_getR hM dX5_openLanes_11 fl_RX5_13 rfl rfl (vld_of (n := 1) rfl (by omega) (by omega)) ?_
    refine r_iload_n hC dX5_openLanes_14 rfl ?_
    refine m_aald hM dX5_openLanes_15 rfl (by decide) (by omega) (by omega) (vld_of (n := 7) rfl (by omega) (by omega)) ?_
    refine m_getI (jz := 1) hM dX5_openLanes_16 fl_RX5_94 rfl rfl rfl ?_
    have e1 := hO (1) (by decide) (by decide)
    refine r_if_eq (tgt := 26) hC dX5_openLanes_19 rfl (fun h26 => ?_) (fun h26 => ?_)
    · refine r_iconst hC dX5_openLanes_26 rfl ?_
      refine r_iaddE hC (1) dX5_openLanes_27 rfl (inR_lit rfl) ?_
      refine r_istore_n hC dX5_openLanes_28 rfl ?_
      refine r_iincE hC (2) dX5_openLanes_29 rfl rfl rfl (inR_lit rfl) ?_
      refine r_goto (tgt := 4) hC dX5_openLanes_32 rfl ?_
      refine r_iload_n hC dX5_openLanes_4 rfl ?_
      refine r_iconst hC dX5_openLanes_5 rfl ?_
      refine r_icmp_ge (tgt := 35) hC dX5_openLanes_6 rfl (fun h27 => by omega) (fun h27 => ?_)
      refine r_iload_n hC dX5_openLanes_9 rfl ?_
      refine r_aload_n hC dX5_openLanes_10 rfl ?_
      refine m_getR hM dX5_openLanes_11 fl_RX5_13 rfl rfl (vld_of (n := 1) rfl (by omega) (by omega)) ?_
      refine r_iload_n hC dX5_openLanes_14 rfl ?_
      refine m_aald hM dX5_openLanes_15 rfl (by decide) (by omega) (by omega) (vld_of (n := 7) rfl (by omega) (by omega)) ?_
      refine m_getI (jz := 1) hM dX5_openLanes_16 fl_RX5_94 rfl rfl rfl ?_
      have e2 := hO (2) (by decide) (by decide)
      refine r_if_eq (tgt := 26) hC dX5_openLanes_19 rfl (fun h28 => ?_) (fun h28 => ?_)
      · refine r_iconst hC dX5_openLanes_26 rfl ?_
        refine r_iaddE hC (1) dX5_openLanes_27 rfl (inR_lit rfl) ?_
        refine r_istore_n hC dX5_openLanes_28 rfl ?_
        refine r_iincE hC (3) dX5_openLanes_29 rfl rfl rfl (inR_lit rfl) ?_
        refine r_goto (tgt := 4) hC dX5_openLanes_32 rfl ?_
        refine r_iload_n hC dX5_openLanes_4 rfl ?_
        refine r_iconst hC dX5_openLanes_5 rfl ?_
        refine r_icmp_ge (tgt := 35) hC dX5_openLanes_6 rfl (fun h29 => by omega) (fun h29 => ?_)
        refine r_iload_n hC dX5_openLanes_9 rfl ?_
        refine r_aload_n hC dX5_openLanes_10 rfl ?_
        refine m_getR hM dX5_openLanes_11 fl_RX5_13 rfl rfl (vld_of (n := 1) rfl (by omega) (by omega)) ?_
        refine r_iload_n hC dX5_openLanes_14 rfl ?_
        refine m_aald hM dX5_openLanes_15 rfl (by decide) (by omega) (by omega) (vld_of (n := 7) rfl (by omega) (by omega)) ?_
        refine m_getI (jz := 1) hM dX5_openLanes_16 fl_RX5_94 rfl rfl rfl ?_
        have e3 := hO (3) (by decide) (by decide)
        refine r_if_eq (tgt := 26) hC dX5_openLanes_19 rfl (fun h30 => ?_) (fun h30 => ?_)
        · refine r_iconst hC dX5_openLanes_26 rfl ?_
          refine r_iaddE hC (1) dX5_openLanes_27 rfl (inR_lit rfl) ?_
          refine r_istore_n hC dX5_openLanes_28 rfl ?_
          refine r_iincE hC (4) dX5_openLanes_29 rfl rfl rfl (inR_lit rfl) ?_
          refine r_goto (tgt := 4) hC dX5_openLanes_32 rfl ?_
          refine r_iload_n hC dX5_openLanes_4 rfl ?_
          refine r_iconst hC dX5_openLanes_5 rfl ?_
          refine r_icmp_ge (tgt := 35) hC dX5_openLanes_6 rfl (fun h31 => ?_) (fun h31 => by omega)
          refine r_iload_n hC dX5_openLanes_35 rfl ?_
          refine t_iret hK rfl dX5_openLanes_36 ?_
          first | exact k | (exfalso; omega)
        · refine r_iconst hC dX5_openLanes_22 rfl ?_
          refine r_goto (tgt := 27) hC dX5_openLanes_23 rfl ?_
          refine r_iaddE hC (2) dX5_openLanes_27 rfl (inR_lit rfl) ?_
          refine r_istore_n hC dX5_openLanes_28 rfl ?_
          refine r_iincE hC (4) dX5_openLanes_29 rfl rfl rfl (inR_lit rfl) ?_
          refine r_goto (tgt := 4) hC dX5_openLanes_32 rfl ?_
          refine r_iload_n hC dX5_openLanes_4 rfl ?_
          refine r_iconst hC dX5_openLanes_5 rfl ?_
          refine r_icmp_ge (tgt := 35) hC dX5_openLanes_6 rfl (fun h32 => ?_) (fun h32 => by omega)
          refine r_iload_n hC dX5_openLanes_35 rfl ?_
          refine t_iret hK rfl dX5_openLanes_36 ?_
          first | exact k | (exfalso; omega)
      · refine r_iconst hC dX5_openLanes_22 rfl ?_
        refine r_goto (tgt := 27) hC dX5_openLanes_23 rfl ?_
        refine r_iaddE hC (2) dX5_openLanes_27 rfl (inR_lit rfl) ?_
        refine r_istore_n hC dX5_openLanes_28 rfl ?_
        refine r_iincE hC (3) dX5_openLanes_29 rfl rfl rfl (inR_lit rfl) ?_
        refine r_goto (tgt := 4) hC dX5_openLanes_32 rfl ?_
        refine r_iload_n hC dX5_openLanes_4 rfl ?_
        refine r_iconst hC dX5_openLanes_5 rfl ?_
        refine r_icmp_ge (tgt := 35) hC dX5_openLanes_6 rfl (fun h33 => by omega) (fun h33 => ?_)
        refine r_iload_n hC dX5_openLanes_9 rfl ?_
        refine r_aload_n hC dX5_openLanes_10 rfl ?_
        refine m_getR hM dX5_openLanes_11 fl_RX5_13 rfl rfl (vld_of (n := 1) rfl (by omega) (by omega)) ?_
        refine r_iload_n hC dX5_openLanes_14 rfl ?_
        refine m_aald hM dX5_openLanes_15 rfl (by decide) (by omega) (by omega) (vld_of (n := 7) rfl (by omega) (by omega)) ?_
        refine m_getI (jz := 1) hM dX5_openLanes_16 fl_RX5_94 rfl rfl rfl ?_
        have e3 := hO (3) (by decide) (by decide)
        refine r_if_eq (tgt := 26) hC dX5_openLanes_19 rfl (fun h34 => ?_) (fun h34 => ?_)
        · refine r_iconst hC dX5_openLanes_26 rfl ?_
          refine r_iaddE hC (2) dX5_openLanes_27 rfl (inR_lit rfl) ?_
          refine r_istore_n hC dX5_openLanes_28 rfl ?_
          refine r_iincE hC (4) dX5_openLanes_29 rfl rfl rfl (inR_lit rfl) ?_
          refine r_goto (tgt := 4) hC dX5_openLanes_32 rfl ?_
          refine r_iload_n hC dX5_openLanes_4 rfl ?_
          refine r_iconst hC dX5_openLanes_5 rfl ?_
          refine r_icmp_ge (tgt := 35) hC dX5_openLanes_6 rfl (fun h35 => ?_) (fun h35 => by omega)
          refine r_iload_n hC dX5_openLanes_35 rfl ?_
          refine t_iret hK rfl dX5_openLanes_36 ?_
          first | exact k | (exfalso; omega)
        · refine r_iconst hC dX5_openLanes_22 rfl ?_
          refine r_goto (tgt := 27) hC dX5_openLanes_23 rfl ?_
          refine r_iaddE hC (3) dX5_openLanes_27 rfl (inR_lit rfl) ?_
          refine r_istore_n hC dX5_openLanes_28 rfl ?_
          refine r_iincE hC (4) dX5_openLanes_29 rfl rfl rfl (inR_lit rfl) ?_
          refine r_goto (tgt := 4) hC dX5_openLanes_32 rfl ?_
          refine r_iload_n hC dX5_openLanes_4 rfl ?_
          refine r_iconst hC dX5_openLanes_5 rfl ?_
          refine r_icmp_ge (tgt := 35) hC dX5_openLanes_6 rfl (fun h36 => ?_) (fun h36 => by omega)
          refine r_iload_n hC dX5_openLanes_35 rfl ?_
          refine t_iret hK rfl dX5_openLanes_36 ?_
          first | exact k | (exfalso; omega)
    · refine r_iconst hC dX5_openLanes_22 rfl ?_
      refine r_goto (tgt := 27) hC dX5_openLanes_23 rfl ?_
      refine r_iaddE hC (2) dX5_openLanes_27 rfl (inR_lit rfl) ?_
      refine r_istore_n hC dX5_openLanes_28 rfl ?_
      refine r_iincE hC (2) dX5_openLanes_29 rfl rfl rfl (inR_lit rfl) ?_
      refine r_goto (tgt := 4) hC dX5_openLanes_32 rfl ?_
      refine r_iload_n hC dX5_openLanes_4 rfl ?_
      refine r_iconst hC dX5_openLanes_5 rfl ?_
      refine r_icmp_ge (tgt := 35) hC dX5_openLanes_6 rfl (fun h37 => by omega) (fun h37 => ?_)
      refine r_iload_n hC dX5_openLanes_9 rfl ?_
      refine r_aload_n hC dX5_openLanes_10 rfl ?_
      refine m_getR hM dX5_openLanes_11 fl_RX5_13 rfl rfl (vld_of (n := 1) rfl (by omega) (by omega)) ?_
      refine r_iload_n hC dX5_openLanes_14 rfl ?_
      refine m_aald hM dX5_openLanes_15 rfl (by decide) (by omega) (by omega) (vld_of (n := 7) rfl (by omega) (by omega)) ?_
      refine m_getI (jz := 1) hM dX5_openLanes_16 fl_RX5_94 rfl rfl rfl ?_
      have e2 := hO (2) (by decide) (by decide)
      refine r_if_eq (tgt := 26) hC dX5_openLanes_19 rfl (fun h38 => ?_) (fun h38 => ?_)
      · refine r_iconst hC dX5_openLanes_26 rfl ?_
        refine r_iaddE hC (2) dX5_openLanes_27 rfl (inR_lit rfl) ?_
        refine r_istore_n hC dX5_openLanes_28 rfl ?_
        refine r_iincE hC (3) dX5_openLanes_29 rfl rfl rfl (inR_lit rfl) ?_
        refine r_goto (tgt := 4) hC dX5_openLanes_32 rfl ?_
        refine r_iload_n hC dX5_openLanes_4 rfl ?_
        refine r_iconst hC dX5_openLanes_5 rfl ?_
        refine r_icmp_ge (tgt := 35) hC dX5_openLanes_6 rfl (fun h39 => by omega) (fun h39 => ?_)
        refine r_iload_n hC dX5_openLanes_9 rfl ?_
        refine r_aload_n hC dX5_openLanes_10 rfl ?_
        refine m_getR hM dX5_openLanes_11 fl_RX5_13 rfl rfl (vld_of (n := 1) rfl (by omega) (by omega)) ?_
        refine r_iload_n hC dX5_openLanes_14 rfl ?_
        refine m_aald hM dX5_openLanes_15 rfl (by decide) (by omega) (by omega) (vld_of (n := 7) rfl (by omega) (by omega)) ?_
        refine m_getI (jz := 1) hM dX5_openLanes_16 fl_RX5_94 rfl rfl rfl ?_
        have e3 := hO (3) (by decide) (by decide)
        refine r_if_eq (tgt := 26) hC dX5_openLanes_19 rfl (fun h40 => ?_) (fun h40 => ?_)
        · refine r_iconst hC dX5_openLanes_26 rfl ?_
          refine r_iaddE hC (2) dX5_openLanes_27 rfl (inR_lit rfl) ?_
          refine r_istore_n hC dX5_openLanes_28 rfl ?_
          refine r_iincE hC (4) dX5_openLanes_29 rfl rfl rfl (inR_lit rfl) ?_
          refine r_goto (tgt := 4) hC dX5_openLanes_32 rfl ?_
          refine r_iload_n hC dX5_openLanes_4 rfl ?_
          refine r_iconst hC dX5_openLanes_5 rfl ?_
          refine r_icmp_ge (tgt := 35) hC dX5_openLanes_6 rfl (fun h41 => ?_) (fun h41 => by omega)
          refine r_iload_n hC dX5_openLanes_35 rfl ?_
          refine t_iret hK rfl dX5_openLanes_36 ?_
          first | exact k | (exfalso; omega)
        · refine r_iconst hC dX5_openLanes_22 rfl ?_
          refine r_goto (tgt := 27) hC dX5_openLanes_23 rfl ?_
          refine r_iaddE hC (3) dX5_openLanes_27 rfl (inR_lit rfl) ?_
          refine r_istore_n hC dX5_openLanes_28 rfl ?_
          refine r_iincE hC (4) dX5_openLanes_29 rfl rfl rfl (inR_lit rfl) ?_
          refine r_goto (tgt := 4) hC dX5_openLanes_32 rfl ?_
          refine r_iload_n hC dX5_openLanes_4 rfl ?_
          refine r_iconst hC dX5_openLanes_5 rfl ?_
          refine r_icmp_ge (tgt := 35) hC dX5_openLanes_6 rfl (fun h42 => ?_) (fun h42 => by omega)
          refine r_iload_n hC dX5_openLanes_35 rfl ?_
          refine t_iret hK rfl dX5_openLanes_36 ?_
          first | exact k | (exfalso; omega)
      · refine r_iconst hC dX5_openLanes_22 rfl ?_
        refine r_goto (tgt := 27) hC dX5_openLanes_23 rfl ?_
        refine r_iaddE hC (3) dX5_openLanes_27 rfl (inR_lit rfl) ?_
        refine r_istore_n hC dX5_openLanes_28 rfl ?_
        refine r_iincE hC (3) dX5_openLanes_29 rfl rfl rfl (inR_lit rfl) ?_
        refine r_goto (tgt := 4) hC dX5_openLanes_32 rfl ?_
        refine r_iload_n hC dX5_openLanes_4 rfl ?_
        refine r_iconst hC dX5_openLanes_5 rfl ?_
        refine r_icmp_ge (tgt := 35) hC dX5_openLanes_6 rfl (fun h43 => by omega) (fun h43 => ?_)
        refine r_iload_n hC dX5_openLanes_9 rfl ?_
        refine r_aload_n hC dX5_openLanes_10 rfl ?_
        refine m_getR hM dX5_openLanes_11 fl_RX5_13 rfl rfl (vld_of (n := 1) rfl (by omega) (by omega)) ?_
        refine r_iload_n hC dX5_openLanes_14 rfl ?_
        refine m_aald hM dX5_openLanes_15 rfl (by decide) (by omega) (by omega) (vld_of (n := 7) rfl (by omega) (by omega)) ?_
        refine m_getI (jz := 1) hM dX5_openLanes_16 fl_RX5_94 rfl rfl rfl ?_
        have e3 := hO (3) (by decide) (by decide)
        refine r_if_eq (tgt := 26) hC dX5_openLanes_19 rfl (fun h44 => ?_) (fun h44 => ?_)
        · refine r_iconst hC dX5_openLanes_26 rfl ?_
          refine r_iaddE hC (3) dX5_openLanes_27 rfl (inR_lit rfl) ?_
          refine r_istore_n hC dX5_openLanes_28 rfl ?_
          refine r_iincE hC (4) dX5_openLanes_29 rfl rfl rfl (inR_lit rfl) ?_
          refine r_goto (tgt := 4) hC dX5_openLanes_32 rfl ?_
          refine r_iload_n hC dX5_openLanes_4 rfl ?_
          refine r_iconst hC dX5_openLanes_5 rfl ?_
          refine r_icmp_ge (tgt := 35) hC dX5_openLanes_6 rfl (fun h45 => ?_) (fun h45 => by omega)
          refine r_iload_n hC dX5_openLanes_35 rfl ?_
          refine t_iret hK rfl dX5_openLanes_36 ?_
          first | exact k | (exfalso; omega)
        · refine r_iconst hC dX5_openLanes_22 rfl ?_
          refine r_goto (tgt := 27) hC dX5_openLanes_23 rfl ?_
          refine r_iaddE hC (4) dX5_openLanes_27 rfl (inR_lit rfl) ?_
          refine r_istore_n hC dX5_openLanes_28 rfl ?_
          refine r_iincE hC (4) dX5_openLanes_29 rfl rfl rfl (inR_lit rfl) ?_
          refine r_goto (tgt := 4) hC dX5_openLanes_32 rfl ?_
          refine r_iload_n hC dX5_openLanes_4 rfl ?_
          refine r_iconst hC dX5_openLanes_5 rfl ?_
          refine r_icmp_ge (tgt := 35) hC dX5_openLanes_6 rfl (fun h46 => ?_) (fun h46 => by omega)
          refine r_iload_n hC dX5_openLanes_35 rfl ?_
          refine t_iret hK rfl dX5_openLanes_36 ?_
          first | exact k | (exfalso; omega)
theorem c0_open {d : Nat} {Post : Option Vl → Mm → Prop} {τ : Mm} {l o b z s : Int} (hF : FrC τ) (k : ∀ (r : Int) (τ2 : Mm), (((0 ≤ l ∧ l ≤ 3) ∧ (0 ≤ o ∧ o ≤ 9) ∧ (0 ≤ s ∧ s ≤ 10000) ∧ (b = 0 ∨ (b = 1 ∧ 1 ≤ z ∧ z ≤ 120) ∨ (b = 2 ∧ 1 ≤ z ∧ z ≤ 10000))) ∧ r = 1) ∨ (¬ ((0 ≤ l ∧ l ≤ 3) ∧ (0 ≤ o ∧ o ≤ 9) ∧ (0 ≤ s ∧ s ≤ 10000) ∧ (b = 0 ∨ (b = 1 ∧ 1 ≤ z ∧ z ≤ 120) ∨ (b = 2 ∧ 1 ≤ z ∧ z ≤ 10000))) ∧ r = -1) → Sm30 τ τ2 → Post (some (vI r)) τ2) : WP (d + 4) 58 [vR 2 0, vI l, vI o, vI b, vI z, vI s] τ Post := by
  intro K hK
  have hK : StpF cX5_open RX5 (some .int) (WP (d + 3)) Post K := hK
  have hM := hK.1
  have hC := hK.1.1
  show K 0 [some (vR 2 0), some (vI l), some (vI o), some (vI b), some (vI z), some (vI s)] [] τ
  refine r_iload_n hC dX5_open_0 rfl ?_
  refine m_ins1 hM dX5_open_1 tl_RX5_102 rfl (Nat.le_of_ble_eq_true rfl) (Nat.le_of_ble_eq_true rfl) ?_
  refine w_isLane (fun rh1 h1 => ?_)
  refine r_if_eq (tgt := 38) hC dX5_open_4 rfl (fun h2 => ?_) (fun h2 => ?_)
  · refine r_iconst hC dX5_open_38 rfl ?_
    refine t_iret hK rfl dX5_open_39 ?_
    first | exact k _ _ (by omega) Sm30.rf | exact k _ _ (by omega) (fun c x j h => (ht c x j (by omega)).trans (hb1 c x j (by omega) (by omega)))
  · refine r_iload_n hC dX5_open_7 rfl ?_
    refine r_iconst hC dX5_open_8 rfl ?_
    refine r_bipush hC dX5_open_9 rfl ?_
    refine m_ins3 hM dX5_open_11 tl_RX5_59 rfl (Nat.le_of_ble_eq_true rfl) (Nat.le_of_ble_eq_true rfl) ?_
    refine w_within (fun rh3 h3 => ?_)
    refine r_if_eq (tgt := 38) hC dX5_open_14 rfl (fun h4 => ?_) (fun h4 => ?_)
    · refine r_iconst hC dX5_open_38 rfl ?_
      refine t_iret hK rfl dX5_open_39 ?_
      first | exact k _ _ (by omega) Sm30.rf | exact k _ _ (by omega) (fun c x j h => (ht c x j (by omega)).trans (hb1 c x j (by omega) (by omega)))
    · refine r_iload hC dX5_open_17 rfl ?_
      refine r_iconst hC dX5_open_19 rfl ?_
      refine r_sipush hC dX5_open_20 rfl ?_
      refine m_ins3 hM dX5_open_23 tl_RX5_59 rfl (Nat.le_of_ble_eq_true rfl) (Nat.le_of_ble_eq_true rfl) ?_
      refine w_within (fun rh5 h5 => ?_)
      refine r_if_eq (tgt := 38) hC dX5_open_26 rfl (fun h6 => ?_) (fun h6 => ?_)
      · refine r_iconst hC dX5_open_38 rfl ?_
        refine t_iret hK rfl dX5_open_39 ?_
        first | exact k _ _ (by omega) Sm30.rf | exact k _ _ (by omega) (fun c x j h => (ht c x j (by omega)).trans (hb1 c x j (by omega) (by omega)))
      · refine r_iload_n hC dX5_open_29 rfl ?_
        refine r_iload hC dX5_open_30 rfl ?_
        refine m_ins2 hM dX5_open_32 tl_RX5_105 rfl (Nat.le_of_ble_eq_true rfl) (Nat.le_of_ble_eq_true rfl) ?_
        refine w_isSize (fun rh7 h7 => ?_)
        refine r_if_ne (tgt := 40) hC dX5_open_35 rfl (fun h8 => ?_) (fun h8 => ?_)
        · refine r_iload_n hC dX5_open_40 rfl ?_
          refine r_bipush hC dX5_open_41 rfl ?_
          refine r_icmp_ne (tgt := 58) hC dX5_open_43 rfl (fun h9 => ?_) (fun h9 => ?_)
          · refine r_aload_n hC dX5_open_58 rfl ?_
            refine m_getR hM dX5_open_59 fl_RX5_13 rfl rfl (vld_of (n := 1) rfl (by omega) (by omega)) ?_
            refine r_iload_n hC dX5_open_62 rfl ?_
            refine m_aald hM dX5_open_63 rfl (by decide) (by omega) (by omega) (vld_of (n := 7) rfl (by omega) (by omega)) ?_
            refine r_iload_n hC dX5_open_64 rfl ?_
            refine r_iload_n hC dX5_open_65 rfl ?_
            refine r_iload_n hC dX5_open_66 rfl ?_
            refine r_if_ne (tgt := 74) hC dX5_open_67 rfl (fun h10 => ?_) (fun h10 => ?_)
            · refine r_iload hC dX5_open_74 rfl ?_
              refine r_iload hC dX5_open_76 rfl ?_
              refine m_inv4 hM dX5_open_78 vl_RX5_113 rfl rfl rfl (Nat.le_of_ble_eq_true rfl) (Nat.le_of_ble_eq_true rfl) ?_
              refine w_begin (by omega) (fun τ1 hb1 hb2 => ?_)
              refine r_aload_n hC dX5_open_81 rfl ?_
              refine r_iload_n hC dX5_open_82 rfl ?_
              refine m_inv1 hM dX5_open_83 vl_RX5_117 rfl rfl rfl (Nat.le_of_ble_eq_true rfl) (Nat.le_of_ble_eq_true rfl) ?_
              refine w_endTies0 (by omega) (fun i a b => (hb1 12 i 0 (fun q => absurd q.1 (by decide)) (fun q => absurd q.1 (by decide))).trans (hF.2.2.1 i a b)) (fun i a b => (hb1 13 i 0 (fun q => absurd q.1 (by decide)) (fun q => absurd q.1 (by decide))).trans (hF.2.2.2 i a b)) (fun τ2 ht => ?_)
              refine r_aload_n hC dX5_open_86 rfl ?_
              refine m_inv0 hM dX5_open_87 vl_RX5_120 rfl rfl rfl (Nat.le_of_ble_eq_true rfl) (Nat.le_of_ble_eq_true rfl) ?_
              refine w_openLanes1 (l := l) (by omega) (fun i a b => ?_) ?_
              · by_cases q : i = l
                · subst q; exact Or.inl ⟨rfl, (ht 7 i 1 (by decide)).trans hb2⟩
                · exact Or.inr ⟨q, ((ht 7 i 1 (by decide)).trans (hb1 7 i 1 (fun z => q z.2) (fun z => absurd z.1 (by decide)))).trans (hF.1 i a (by omega))⟩
              refine t_iret hK rfl dX5_open_90 ?_
              first | exact k _ _ (by omega) Sm30.rf | exact k _ _ (by omega) (fun c x j h => (ht c x j (by omega)).trans (hb1 c x j (by omega) (by omega)))
            · refine r_iconst hC dX5_open_70 rfl ?_
              refine r_goto (tgt := 76) hC dX5_open_71 rfl ?_
              refine r_iload hC dX5_open_76 rfl ?_
              refine m_inv4 hM dX5_open_78 vl_RX5_113 rfl rfl rfl (Nat.le_of_ble_eq_true rfl) (Nat.le_of_ble_eq_true rfl) ?_
              refine w_begin (by omega) (fun τ1 hb1 hb2 => ?_)
              refine r_aload_n hC dX5_open_81 rfl ?_
              refine r_iload_n hC dX5_open_82 rfl ?_
              refine m_inv1 hM dX5_open_83 vl_RX5_117 rfl rfl rfl (Nat.le_of_ble_eq_true rfl) (Nat.le_of_ble_eq_true rfl) ?_
              refine w_endTies0 (by omega) (fun i a b => (hb1 12 i 0 (fun q => absurd q.1 (by decide)) (fun q => absurd q.1 (by decide))).trans (hF.2.2.1 i a b)) (fun i a b => (hb1 13 i 0 (fun q => absurd q.1 (by decide)) (fun q => absurd q.1 (by decide))).trans (hF.2.2.2 i a b)) (fun τ2 ht => ?_)
              refine r_aload_n hC dX5_open_86 rfl ?_
              refine m_inv0 hM dX5_open_87 vl_RX5_120 rfl rfl rfl (Nat.le_of_ble_eq_true rfl) (Nat.le_of_ble_eq_true rfl) ?_
              refine w_openLanes1 (l := l) (by omega) (fun i a b => ?_) ?_
              · by_cases q : i = l
                · subst q; exact Or.inl ⟨rfl, (ht 7 i 1 (by decide)).trans hb2⟩
                · exact Or.inr ⟨q, ((ht 7 i 1 (by decide)).trans (hb1 7 i 1 (fun z => q z.2) (fun z => absurd z.1 (by decide)))).trans (hF.1 i a (by omega))⟩
              refine t_iret hK rfl dX5_open_90 ?_
              first | exact k _ _ (by omega) Sm30.rf | exact k _ _ (by omega) (fun c x j h => (ht c x j (by omega)).trans (hb1 c x j (by omega) (by omega)))
          · refine r_aload_n hC dX5_open_46 rfl ?_
            refine r_iconst hC dX5_open_47 rfl ?_
            refine m_inv1 hM dX5_open_48 vl_RX5_109 rfl rfl rfl (Nat.le_of_ble_eq_true rfl) (Nat.le_of_ble_eq_true rfl) ?_
            refine c0_triple hF (fun rh17 h17 => ?_)
            refine r_bipush hC dX5_open_51 rfl ?_
            refine r_icmp_eq (tgt := 58) hC dX5_open_53 rfl (fun h18 => ?_) (fun h18 => ?_)
            · refine r_aload_n hC dX5_open_58 rfl ?_
              refine m_getR hM dX5_open_59 fl_RX5_13 rfl rfl (vld_of (n := 1) rfl (by omega) (by omega)) ?_
              refine r_iload_n hC dX5_open_62 rfl ?_
              refine m_aald hM dX5_open_63 rfl (by decide) (by omega) (by omega) (vld_of (n := 7) rfl (by omega) (by omega)) ?_
              refine r_iload_n hC dX5_open_64 rfl ?_
              refine r_iload_n hC dX5_open_65 rfl ?_
              refine r_iload_n hC dX5_open_66 rfl ?_
              refine r_if_ne (tgt := 74) hC dX5_open_67 rfl (fun h19 => ?_) (fun h19 => ?_)
              · refine r_iload hC dX5_open_74 rfl ?_
                refine r_iload hC dX5_open_76 rfl ?_
                refine m_inv4 hM dX5_open_78 vl_RX5_113 rfl rfl rfl (Nat.le_of_ble_eq_true rfl) (Nat.le_of_ble_eq_true rfl) ?_
                refine w_begin (by omega) (fun τ1 hb1 hb2 => ?_)
                refine r_aload_n hC dX5_open_81 rfl ?_
                refine r_iload_n hC dX5_open_82 rfl ?_
                refine m_inv1 hM dX5_open_83 vl_RX5_117 rfl rfl rfl (Nat.le_of_ble_eq_true rfl) (Nat.le_of_ble_eq_true rfl) ?_
                refine w_endTies0 (by omega) (fun i a b => (hb1 12 i 0 (fun q => absurd q.1 (by decide)) (fun q => absurd q.1 (by decide))).trans (hF.2.2.1 i a b)) (fun i a b => (hb1 13 i 0 (fun q => absurd q.1 (by decide)) (fun q => absurd q.1 (by decide))).trans (hF.2.2.2 i a b)) (fun τ2 ht => ?_)
                refine r_aload_n hC dX5_open_86 rfl ?_
                refine m_inv0 hM dX5_open_87 vl_RX5_120 rfl rfl rfl (Nat.le_of_ble_eq_true rfl) (Nat.le_of_ble_eq_true rfl) ?_
                refine w_openLanes1 (l := l) (by omega) (fun i a b => ?_) ?_
                · by_cases q : i = l
                  · subst q; exact Or.inl ⟨rfl, (ht 7 i 1 (by decide)).trans hb2⟩
                  · exact Or.inr ⟨q, ((ht 7 i 1 (by decide)).trans (hb1 7 i 1 (fun z => q z.2) (fun z => absurd z.1 (by decide)))).trans (hF.1 i a (by omega))⟩
                refine t_iret hK rfl dX5_open_90 ?_
                first | exact k _ _ (by omega) Sm30.rf | exact k _ _ (by omega) (fun c x j h => (ht c x j (by omega)).trans (hb1 c x j (by omega) (by omega)))
              · refine r_iconst hC dX5_open_70 rfl ?_
                refine r_goto (tgt := 76) hC dX5_open_71 rfl ?_
                refine r_iload hC dX5_open_76 rfl ?_
                refine m_inv4 hM dX5_open_78 vl_RX5_113 rfl rfl rfl (Nat.le_of_ble_eq_true rfl) (Nat.le_of_ble_eq_true rfl) ?_
                refine w_begin (by omega) (fun τ1 hb1 hb2 => ?_)
                refine r_aload_n hC dX5_open_81 rfl ?_
                refine r_iload_n hC dX5_open_82 rfl ?_
                refine m_inv1 hM dX5_open_83 vl_RX5_117 rfl rfl rfl (Nat.le_of_ble_eq_true rfl) (Nat.le_of_ble_eq_true rfl) ?_
                refine w_endTies0 (by omega) (fun i a b => (hb1 12 i 0 (fun q => absurd q.1 (by decide)) (fun q => absurd q.1 (by decide))).trans (hF.2.2.1 i a b)) (fun i a b => (hb1 13 i 0 (fun q => absurd q.1 (by decide)) (fun q => absurd q.1 (by decide))).trans (hF.2.2.2 i a b)) (fun τ2 ht => ?_)
                refine r_aload_n hC dX5_open_86 rfl ?_
                refine m_inv0 hM dX5_open_87 vl_RX5_120 rfl rfl rfl (Nat.le_of_ble_eq_true rfl) (Nat.le_of_ble_eq_true rfl) ?_
                refine w_openLanes1 (l := l) (by omega) (fun i a b => ?_) ?_
                · by_cases q : i = l
                  · subst q; exact Or.inl ⟨rfl, (ht 7 i 1 (by decide)).trans hb2⟩
                  · exact Or.inr ⟨q, ((ht 7 i 1 (by decide)).trans (hb1 7 i 1 (fun z => q z.2) (fun z => absurd z.1 (by decide)))).trans (hF.1 i a (by omega))⟩
                refine t_iret hK rfl dX5_open_90 ?_
                first | exact k _ _ (by omega) Sm30.rf | exact k _ _ (by omega) (fun c x j h => (ht c x j (by omega)).trans (hb1 c x j (by omega) (by omega)))
            · refine r_iconst hC dX5_open_56 rfl ?_
              refine t_iret hK rfl dX5_open_57 ?_
              first | exact k _ _ (by omega) Sm30.rf | exact k _ _ (by omega) (fun c x j h => (ht c x j (by omega)).trans (hb1 c x j (by omega) (by omega)))
        · refine r_iconst hC dX5_open_38 rfl ?_
          refine t_iret hK rfl dX5_open_39 ?_
          first | exact k _ _ (by omega) Sm30.rf | exact k _ _ (by omega) (fun c x j h => (ht c x j (by omega)).trans (hb1 c x j (by omega) (by omega)))
