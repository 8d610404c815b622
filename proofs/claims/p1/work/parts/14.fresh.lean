-- the reference, on a fresh object
theorem K_name {K : Nat → Lc → List Vl → Mm → Prop} {pc : Nat} {ls : Lc} {st : List Vl} {τ : Mm} (k : ∀ τ2 : Mm, τ2 = τ → K pc ls st τ2) : K pc ls st τ := k τ rfl
theorem m_isIn {d : Nat} {Post : Option Vl → Mm → Prop} {τ : Mm} {a lo hi : Int} (k : ∀ r : Int, ((lo ≤ a ∧ a ≤ hi) ∧ r = 1) ∨ (¬ (lo ≤ a ∧ a ≤ hi) ∧ r = 0) → Post (some (vI r)) τ) : WP (d + 1) 136 [vI a, vI lo, vI hi] τ Post := by
  intro K hK
  have hK : StpF cX6_isIn RX6 (some .boolean) (WP (d + 0)) Post K := hK
  have hM := hK.1
  have hC := hK.1.1
  show K 0 [some (vI a), some (vI lo), some (vI hi)] [] τ
  refine r_iload_n hC dX6_isIn_0 rfl ?_
  refine r_iload_n hC dX6_isIn_1 rfl ?_
  refine r_icmp_lt (tgt := 14) hC dX6_isIn_2 rfl (fun h1 => ?_) (fun h1 => ?_)
  · refine r_iconst hC dX6_isIn_14 rfl ?_
    refine t_zret hK rfl dX6_isIn_15 (by omega) ?_
    exact k _ (by omega)
  · refine r_iload_n hC dX6_isIn_5 rfl ?_
    refine r_iload_n hC dX6_isIn_6 rfl ?_
    refine r_icmp_gt (tgt := 14) hC dX6_isIn_7 rfl (fun h2 => ?_) (fun h2 => ?_)
    · refine r_iconst hC dX6_isIn_14 rfl ?_
      refine t_zret hK rfl dX6_isIn_15 (by omega) ?_
      exact k _ (by omega)
    · refine r_iconst hC dX6_isIn_10 rfl ?_
      refine r_goto (tgt := 15) hC dX6_isIn_11 rfl ?_
      refine t_zret hK rfl dX6_isIn_15 (by omega) ?_
      exact k _ (by omega)
theorem m_isLane0 {d : Nat} {Post : Option Vl → Mm → Prop} {τ : Mm} {l : Int} (hR : FrR τ) (k : Post (some (vI (0))) τ) : WP (d + 2) 137 [vR 30 0, vI l] τ Post := by
  intro K hK
  have hK : StpF cX6_isLane RX6 (some .boolean) (WP (d + 1)) Post K := hK
  have hM := hK.1
  have hC := hK.1.1
  show K 0 [some (vR 30 0), some (vI l)] [] τ
  refine r_iload_n hC dX6_isLane_0 rfl ?_
  refine r_iconst hC dX6_isLane_1 rfl ?_
  refine r_iconst hC dX6_isLane_2 rfl ?_
  refine m_ins3 hM dX6_isLane_3 tl_RX6_76 rfl (Nat.le_of_ble_eq_true rfl) (Nat.le_of_ble_eq_true rfl) ?_
  refine m_isIn (fun rh1 h1 => ?_)
  refine r_if_eq (tgt := 28) hC dX6_isLane_6 rfl (fun h2 => ?_) (fun h2 => ?_)
  · refine r_iconst hC dX6_isLane_28 rfl ?_
    refine t_zret hK rfl dX6_isLane_29 (by omega) ?_
    exact k
  · refine r_aload_n hC dX6_isLane_9 rfl ?_
    refine m_getR hM dX6_isLane_10 fl_RX6_7 rfl rfl (vld_of (n := 1) rfl (by omega) (by omega)) ?_
    refine r_bipush hC dX6_isLane_13 rfl ?_
    refine r_iload_n hC dX6_isLane_15 rfl ?_
    refine r_imulS hC dX6_isLane_16 (by unfold inR; omega) ?_
    refine r_iconst hC dX6_isLane_17 rfl ?_
    refine r_iaddS hC dX6_isLane_18 (by unfold inR; omega) ?_
    refine m_iald hM dX6_isLane_19 rfl (by omega) (by omega) ?_
    refine r_iconst hC dX6_isLane_20 rfl ?_
    have e1 := hR.1 (22 * l + 0) (by omega) (by omega)
    refine r_icmp_ne (tgt := 28) hC dX6_isLane_21 rfl (fun h3 => ?_) (fun h3 => by omega)
    refine r_iconst hC dX6_isLane_28 rfl ?_
    refine t_zret hK rfl dX6_isLane_29 (by omega) ?_
    exact k
theorem m_of {d : Nat} {Post : Option Vl → Mm → Prop} {τ : Mm} {l f : Int} (hl : 0 ≤ l ∧ l < 8) (hf : 0 ≤ f ∧ f < 22) (k : Post (some (vI (τ 31 0 (22 * l + f)))) τ) : WP (d + 1) 138 [vR 30 0, vI l, vI f] τ Post := by
  intro K hK
  have hK : StpF cX6_of RX6 (some .int) (WP (d + 0)) Post K := hK
  have hM := hK.1
  have hC := hK.1.1
  show K 0 [some (vR 30 0), some (vI l), some (vI f)] [] τ
  refine r_aload_n hC dX6_of_0 rfl ?_
  refine m_getR hM dX6_of_1 fl_RX6_7 rfl rfl (vld_of (n := 1) rfl (by omega) (by omega)) ?_
  refine r_bipush hC dX6_of_4 rfl ?_
  refine r_iload_n hC dX6_of_6 rfl ?_
  refine r_imulS hC dX6_of_7 (by unfold inR; omega) ?_
  refine r_iload_n hC dX6_of_8 rfl ?_
  refine r_iaddS hC dX6_of_9 (by unfold inR; omega) ?_
  refine m_iald hM dX6_of_10 rfl (by omega) (by omega) ?_
  refine t_iret hK rfl dX6_of_11 ?_
  exact k
theorem m_of0 {d : Nat} {Post : Option Vl → Mm → Prop} {τ : Mm} {l f : Int} (hR : FrR τ) (hl : 0 ≤ l ∧ l < 8) (hf : 0 ≤ f ∧ f < 22) (k : Post (some (vI 0)) τ) : WP (d + 1) 138 [vR 30 0, vI l, vI f] τ Post := by
  intro K hK
  have hK : StpF cX6_of RX6 (some .int) (WP (d + 0)) Post K := hK
  have hM := hK.1
  have hC := hK.1.1
  show K 0 [some (vR 30 0), some (vI l), some (vI f)] [] τ
  refine r_aload_n hC dX6_of_0 rfl ?_
  refine m_getR hM dX6_of_1 fl_RX6_7 rfl rfl (vld_of (n := 1) rfl (by omega) (by omega)) ?_
  refine r_bipush hC dX6_of_4 rfl ?_
  refine r_iload_n hC dX6_of_6 rfl ?_
  refine r_imulS hC dX6_of_7 (by unfold inR; omega) ?_
  refine r_iload_n hC dX6_of_8 rfl ?_
  refine r_iaddS hC dX6_of_9 (by unfold inR; omega) ?_
  refine m_iald hM dX6_of_10 rfl (by omega) (by omega) ?_
  refine t_iret hK rfl dX6_of_11 ?_
  exact post_of (hR.1 (22 * l + f) (by omega) (by omega)) k
theorem m_isNumber0 {d : Nat} {Post : Option Vl → Mm → Prop} {τ : Mm} {l w : Int} (hR : FrR τ) (k : Post (some (vI (0))) τ) : WP (d + 3) 157 [vR 30 0, vI l, vI w] τ Post := by
  intro K hK
  have hK : StpF cX6_isNumber RX6 (some .boolean) (WP (d + 2)) Post K := hK
  have hM := hK.1
  have hC := hK.1.1
  show K 0 [some (vR 30 0), some (vI l), some (vI w)] [] τ
  refine r_aload_n hC dX6_isNumber_0 rfl ?_
  refine r_iload_n hC dX6_isNumber_1 rfl ?_
  refine m_inv1 hM dX6_isNumber_2 vl_RX6_124 rfl rfl rfl (Nat.le_of_ble_eq_true rfl) (Nat.le_of_ble_eq_true rfl) ?_
  refine m_isLane0 hR ?_
  refine r_if_eq (tgt := 31) hC dX6_isNumber_5 rfl (fun h2 => ?_) (fun h2 => by omega)
  refine r_iconst hC dX6_isNumber_31 rfl ?_
  refine t_zret hK rfl dX6_isNumber_32 (by omega) ?_
  exact k
theorem m_isEvent0 {d : Nat} {Post : Option Vl → Mm → Prop} {τ : Mm} {l i : Int} (hR : FrR τ) (k : Post (some (vI (0))) τ) : WP (d + 3) 209 [vR 30 0, vI l, vI i] τ Post := by
  intro K hK
  have hK : StpF cX6_isEvent RX6 (some .boolean) (WP (d + 2)) Post K := hK
  have hM := hK.1
  have hC := hK.1.1
  show K 0 [some (vR 30 0), some (vI l), some (vI i)] [] τ
  refine r_aload_n hC dX6_isEvent_0 rfl ?_
  refine r_iload_n hC dX6_isEvent_1 rfl ?_
  refine m_inv1 hM dX6_isEvent_2 vl_RX6_124 rfl rfl rfl (Nat.le_of_ble_eq_true rfl) (Nat.le_of_ble_eq_true rfl) ?_
  refine m_isLane0 hR ?_
  refine r_if_eq (tgt := 27) hC dX6_isEvent_5 rfl (fun h2 => ?_) (fun h2 => by omega)
  refine r_iconst hC dX6_isEvent_27 rfl ?_
  refine t_zret hK rfl dX6_isEvent_28 (by omega) ?_
  exact k
theorem m_areAlike0 {d : Nat} {Post : Option Vl → Mm → Prop} {τ : Mm} {l o : Int} (hR : FrR τ) (k : Post (some (vI (0))) τ) : WP (d + 3) 231 [vR 30 0, vI l, vI o] τ Post := by
  intro K hK
  have hK : StpF cX6_areAlike RX6 (some .boolean) (WP (d + 2)) Post K := hK
  have hM := hK.1
  have hC := hK.1.1
  show K 0 [some (vR 30 0), some (vI l), some (vI o)] [] τ
  refine r_aload_n hC dX6_areAlike_0 rfl ?_
  refine r_iload_n hC dX6_areAlike_1 rfl ?_
  refine m_inv1 hM dX6_areAlike_2 vl_RX6_124 rfl rfl rfl (Nat.le_of_ble_eq_true rfl) (Nat.le_of_ble_eq_true rfl) ?_
  refine m_isLane0 hR ?_
  refine r_if_eq (tgt := 35) hC dX6_areAlike_5 rfl (fun h2 => ?_) (fun h2 => by omega)
  refine r_iconst hC dX6_areAlike_35 rfl ?_
  refine t_zret hK rfl dX6_areAlike_36 (by omega) ?_
  exact k
theorem m_isTold0 {d : Nat} {Post : Option Vl → Mm → Prop} {τ : Mm} {v : Int} (hR : FrR τ) (k : Post (some (vI (0))) τ) : WP (d + 2) 183 [vR 30 0, vI v] τ Post := by
  intro K hK
  have hK : StpF cX6_isTold RX6 (some .boolean) (WP (d + 1)) Post K := hK
  have hM := hK.1
  have hC := hK.1.1
  show K 0 [some (vR 30 0), some (vI v)] [] τ
  refine r_iload_n hC dX6_isTold_0 rfl ?_
  refine r_iconst hC dX6_isTold_1 rfl ?_
  refine r_bipush hC dX6_isTold_2 rfl ?_
  refine m_ins3 hM dX6_isTold_4 tl_RX6_76 rfl (Nat.le_of_ble_eq_true rfl) (Nat.le_of_ble_eq_true rfl) ?_
  refine m_isIn (fun rh1 h1 => ?_)
  refine r_if_eq (tgt := 23) hC dX6_isTold_7 rfl (fun h2 => ?_) (fun h2 => ?_)
  · refine r_iconst hC dX6_isTold_23 rfl ?_
    refine t_zret hK rfl dX6_isTold_24 (by omega) ?_
    exact k
  · refine r_aload_n hC dX6_isTold_10 rfl ?_
    refine m_getR hM dX6_isTold_11 fl_RX6_34 rfl rfl (vld_of (n := 1) rfl (by omega) (by omega)) ?_
    refine r_iload_n hC dX6_isTold_14 rfl ?_
    refine m_iald hM dX6_isTold_15 rfl (by omega) (by omega) ?_
    have e1 := hR.2.2.1 v (by omega) (by omega)
    refine r_if_lt (tgt := 23) hC dX6_isTold_16 rfl (fun h3 => ?_) (fun h3 => by omega)
    refine r_iconst hC dX6_isTold_23 rfl ?_
    refine t_zret hK rfl dX6_isTold_24 (by omega) ?_
    exact k
theorem m_isUsed0 {d : Nat} {Post : Option Vl → Mm → Prop} {τ : Mm} {o : Int} (hR : FrR τ) (k : Post (some (vI (0))) τ) : WP (d + 2) 142 [vR 30 0, vI o] τ Post := by
  intro K hK
  have hK : StpF cX6_isUsed RX6 (some .boolean) (WP (d + 1)) Post K := hK
  have hM := hK.1
  have hC := hK.1.1
  show K 0 [some (vR 30 0), some (vI o), none] [] τ
  refine r_iconst hC dX6_isUsed_0 rfl ?_
  refine r_istore_n hC dX6_isUsed_1 rfl ?_
  refine r_iload_n hC dX6_isUsed_2 rfl ?_
  refine r_bipush hC dX6_isUsed_3 rfl ?_
  refine r_icmp_ge (tgt := 36) hC dX6_isUsed_5 rfl (fun h1 => by omega) (fun h1 => ?_)
  refine r_aload_n hC dX6_isUsed_8 rfl ?_
  refine r_iload_n hC dX6_isUsed_9 rfl ?_
  refine r_iconst hC dX6_isUsed_10 rfl ?_
  refine m_inv2 hM dX6_isUsed_11 vl_RX6_80 rfl rfl rfl (Nat.le_of_ble_eq_true rfl) (Nat.le_of_ble_eq_true rfl) ?_
  refine m_of0 hR (by omega) (by omega) ?_
  refine r_iconst hC dX6_isUsed_14 rfl ?_
  refine r_icmp_ne (tgt := 30) hC dX6_isUsed_15 rfl (fun h3 => ?_) (fun h3 => by omega)
  refine r_iincE hC (1) dX6_isUsed_30 rfl rfl rfl (inR_lit rfl) ?_
  refine r_goto (tgt := 2) hC dX6_isUsed_33 rfl ?_
  refine r_iload_n hC dX6_isUsed_2 rfl ?_
  refine r_bipush hC dX6_isUsed_3 rfl ?_
  refine r_icmp_ge (tgt := 36) hC dX6_isUsed_5 rfl (fun h4 => by omega) (fun h4 => ?_)
  refine r_aload_n hC dX6_isUsed_8 rfl ?_
  refine r_iload_n hC dX6_isUsed_9 rfl ?_
  refine r_iconst hC dX6_isUsed_10 rfl ?_
  refine m_inv2 hM dX6_isUsed_11 vl_RX6_80 rfl rfl rfl (Nat.le_of_ble_eq_true rfl) (Nat.le_of_ble_eq_true rfl) ?_
  refine m_of0 hR (by omega) (by omega) ?_
  refine r_iconst hC dX6_isUsed_14 rfl ?_
  refine r_icmp_ne (tgt := 30) hC dX6_isUsed_15 rfl (fun h6 => ?_) (fun h6 => by omega)
  refine r_iincE hC (2) dX6_isUsed_30 rfl rfl rfl (inR_lit rfl) ?_
  show K _ [_, _, _] _ _
  refine r_goto (tgt := 2) hC dX6_isUsed_33 rfl ?_
  refine r_iload_n hC dX6_isUsed_2 rfl ?_
  refine r_bipush hC dX6_isUsed_3 rfl ?_
  refine r_icmp_ge (tgt := 36) hC dX6_isUsed_5 rfl (fun h7 => by omega) (fun h7 => ?_)
  refine r_aload_n hC dX6_isUsed_8 rfl ?_
  refine r_iload_n hC dX6_isUsed_9 rfl ?_
  refine r_iconst hC dX6_isUsed_10 rfl ?_
  refine m_inv2 hM dX6_isUsed_11 vl_RX6_80 rfl rfl rfl (Nat.le_of_ble_eq_true rfl) (Nat.le_of_ble_eq_true rfl) ?_
  refine m_of0 hR (by omega) (by omega) ?_
  refine r_iconst hC dX6_isUsed_14 rfl ?_
  refine r_icmp_ne (tgt := 30) hC dX6_isUsed_15 rfl (fun h9 => ?_) (fun h9 => by omega)
  refine r_iincE hC (3) dX6_isUsed_30 rfl rfl rfl (inR_lit rfl) ?_
  refine r_goto (tgt := 2) hC dX6_isUsed_33 rfl ?_
  refine r_iload_n hC dX6_isUsed_2 rfl ?_
  refine r_bipush hC dX6_isUsed_3 rfl ?_
  refine r_icmp_ge (tgt := 36) hC dX6_isUsed_5 rfl (fun h10 => by omega) (fun h10 => ?_)
  refine r_aload_n hC dX6_isUsed_8 rfl ?_
  refine r_iload_n hC dX6_isUsed_9 rfl ?_
  refine r_iconst hC dX6_isUsed_10 rfl ?_
  refine m_inv2 hM dX6_isUsed_11 vl_RX6_80 rfl rfl rfl (Nat.le_of_ble_eq_true rfl) (Nat.le_of_ble_eq_true rfl) ?_
  refine m_of0 hR (by omega) (by omega) ?_
  refine r_iconst hC dX6_isUsed_14 rfl ?_
  refine r_icmp_ne (tgt := 30) hC dX6_isUsed_15 rfl (fun h12 => ?_) (fun h12 => by omega)
  refine r_iincE hC (4) dX6_isUsed_30 rfl rfl rfl (inR_lit rfl) ?_
  refine r_goto (tgt := 2) hC dX6_isUsed_33 rfl ?_
  refine r_iload_n hC dX6_isUsed_2 rfl ?_
  refine r_bipush hC dX6_isUsed_3 rfl ?_
  refine r_icmp_ge (tgt := 36) hC dX6_isUsed_5 rfl (fun h13 => by omega) (fun h13 => ?_)
  refine r_aload_n hC dX6_isUsed_8 rfl ?_
  refine r_iload_n hC dX6_isUsed_9 rfl ?_
  refine r_iconst hC dX6_isUsed_10 rfl ?_
  refine m_inv2 hM dX6_isUsed_11 vl_RX6_80 rfl rfl rfl (Nat.le_of_ble_eq_true rfl) (Nat.le_of_ble_eq_true rfl) ?_
  refine m_of0 hR (by omega) (by omega) ?_
  refine r_iconst hC dX6_isUsed_14 rfl ?_
  refine r_icmp_ne (tgt := 30) hC dX6_isUsed_15 rfl (fun h15 => ?_) (fun h15 => by omega)
  refine r_iincE hC (5) dX6_isUsed_30 rfl rfl rfl (inR_lit rfl) ?_
  show K _ [_, _, _] _ _
  refine r_goto (tgt := 2) hC dX6_isUsed_33 rfl ?_
  refine r_iload_n hC dX6_isUsed_2 rfl ?_
  refine r_bipush hC dX6_isUsed_3 rfl ?_
  refine r_icmp_ge (tgt := 36) hC dX6_isUsed_5 rfl (fun h16 => by omega) (fun h16 => ?_)
  refine r_aload_n hC dX6_isUsed_8 rfl ?_
  refine r_iload_n hC dX6_isUsed_9 rfl ?_
  refine r_iconst hC dX6_isUsed_10 rfl ?_
  refine m_inv2 hM dX6_isUsed_11 vl_RX6_80 rfl rfl rfl (Nat.le_of_ble_eq_true rfl) (Nat.le_of_ble_eq_true rfl) ?_
  refine m_of0 hR (by omega) (by omega) ?_
  refine r_iconst hC dX6_isUsed_14 rfl ?_
  refine r_icmp_ne (tgt := 30) hC dX6_isUsed_15 rfl (fun h18 => ?_) (fun h18 => by omega)
  refine r_iincE hC (6) dX6_isUsed_30 rfl rfl rfl (inR_lit rfl) ?_
  refine r_goto (tgt := 2) hC dX6_isUsed_33 rfl ?_
  refine r_iload_n hC dX6_isUsed_2 rfl ?_
  refine r_bipush hC dX6_isUsed_3 rfl ?_
  refine r_icmp_ge (tgt := 36) hC dX6_isUsed_5 rfl (fun h19 => by omega) (fun h19 => ?_)
  refine r_aload_n hC dX6_isUsed_8 rfl ?_
  refine r_iload_n hC dX6_isUsed_9 rfl ?_
  refine r_iconst hC dX6_isUsed_10 rfl ?_
  refine m_inv2 hM dX6_isUsed_11 vl_RX6_80 rfl rfl rfl (Nat.le_of_ble_eq_true rfl) (Nat.le_of_ble_eq_true rfl) ?_
  refine m_of0 hR (by omega) (by omega) ?_
  refine r_iconst hC dX6_isUsed_14 rfl ?_
  refine r_icmp_ne (tgt := 30) hC dX6_isUsed_15 rfl (fun h21 => ?_) (fun h21 => by omega)
  refine r_iincE hC (7) dX6_isUsed_30 rfl rfl rfl (inR_lit rfl) ?_
  refine r_goto (tgt := 2) hC dX6_isUsed_33 rfl ?_
  refine r_iload_n hC dX6_isUsed_2 rfl ?_
  refine r_bipush hC dX6_isUsed_3 rfl ?_
  refine r_icmp_ge (tgt := 36) hC dX6_isUsed_5 rfl (fun h22 => ?_) (fun h22 => by omega)
  refine r_iconst hC dX6_isUsed_36 rfl ?_
  refine t_zret hK rfl dX6_isUsed_37 (by omega) ?_
  exact k
theorem d0_shut {d : Nat} {Post : Option Vl → Mm → Prop} {τ : Mm} {l : Int} (hR : FrR τ) (k : Post (some (vI (0))) τ) : WP (d + 3) 176 [vR 30 0, vI l] τ Post := by
  intro K hK
  have hK : StpF cX6_shut RX6 (some .boolean) (WP (d + 2)) Post K := hK
  have hM := hK.1
  have hC := hK.1.1
  show K 0 [some (vR 30 0), some (vI l)] [] τ
  refine r_aload_n hC dX6_shut_0 rfl ?_
  refine r_iload_n hC dX6_shut_1 rfl ?_
  refine m_inv1 hM dX6_shut_2 vl_RX6_124 rfl rfl rfl (Nat.le_of_ble_eq_true rfl) (Nat.le_of_ble_eq_true rfl) ?_
  refine m_isLane0 hR ?_
  refine r_if_ne (tgt := 10) hC dX6_shut_5 rfl (fun h2 => by omega) (fun h2 => ?_)
  refine r_iconst hC dX6_shut_8 rfl ?_
  refine t_zret hK rfl dX6_shut_9 (by omega) ?_
  exact k
theorem d0_come {d : Nat} {Post : Option Vl → Mm → Prop} {τ : Mm} {l t v : Int} (hR : FrR τ) (k : Post (some (vI (-1))) τ) : WP (d + 3) 205 [vR 30 0, vI l, vI t, vI v] τ Post := by
  intro K hK
  have hK : StpF cX6_come RX6 (some .int) (WP (d + 2)) Post K := hK
  have hM := hK.1
  have hC := hK.1.1
  show K 0 [some (vR 30 0), some (vI l), some (vI t), some (vI v)] [] τ
  refine r_aload_n hC dX6_come_0 rfl ?_
  refine r_iload_n hC dX6_come_1 rfl ?_
  refine m_inv1 hM dX6_come_2 vl_RX6_124 rfl rfl rfl (Nat.le_of_ble_eq_true rfl) (Nat.le_of_ble_eq_true rfl) ?_
  refine m_isLane0 hR ?_
  refine r_if_eq (tgt := 31) hC dX6_come_5 rfl (fun h2 => ?_) (fun h2 => by omega)
  refine r_iconst hC dX6_come_31 rfl ?_
  refine t_iret hK rfl dX6_come_32 ?_
  exact k
theorem d0_burst {d : Nat} {Post : Option Vl → Mm → Prop} {τ : Mm} {l m v z : Int} (hR : FrR τ) (k : Post (some (vI (-1))) τ) : WP (d + 3) 206 [vR 30 0, vI l, vI m, vI v, vI z] τ Post := by
  intro K hK
  have hK : StpF cX6_burst RX6 (some .int) (WP (d + 2)) Post K := hK
  have hM := hK.1
  have hC := hK.1.1
  show K 0 [some (vR 30 0), some (vI l), some (vI m), some (vI v), some (vI z), none, none] [] τ
  refine r_aload_n hC dX6_burst_0 rfl ?_
  refine r_iload_n hC dX6_burst_1 rfl ?_
  refine m_inv1 hM dX6_burst_2 vl_RX6_124 rfl rfl rfl (Nat.le_of_ble_eq_true rfl) (Nat.le_of_ble_eq_true rfl) ?_
  refine m_isLane0 hR ?_
  refine r_if_eq (tgt := 32) hC dX6_burst_5 rfl (fun h2 => ?_) (fun h2 => by omega)
  refine r_iconst hC dX6_burst_32 rfl ?_
  refine t_iret hK rfl dX6_burst_33 ?_
  exact k
theorem d0_leave {d : Nat} {Post : Option Vl → Mm → Prop} {τ : Mm} {l m : Int} (hR : FrR τ) (k : Post (some (vI (-1))) τ) : WP (d + 3) 207 [vR 30 0, vI l, vI m] τ Post := by
  intro K hK
  have hK : StpF cX6_leave RX6 (some .int) (WP (d + 2)) Post K := hK
  have hM := hK.1
  have hC := hK.1.1
  show K 0 [some (vR 30 0), some (vI l), some (vI m), none] [] τ
  refine r_aload_n hC dX6_leave_0 rfl ?_
  refine r_iload_n hC dX6_leave_1 rfl ?_
  refine m_inv1 hM dX6_leave_2 vl_RX6_124 rfl rfl rfl (Nat.le_of_ble_eq_true rfl) (Nat.le_of_ble_eq_true rfl) ?_
  refine m_isLane0 hR ?_
  refine r_if_eq (tgt := 21) hC dX6_leave_5 rfl (fun h2 => ?_) (fun h2 => by omega)
  refine r_iconst hC dX6_leave_21 rfl ?_
  refine t_iret hK rfl dX6_leave_22 ?_
  exact k
theorem d0_until {d : Nat} {Post : Option Vl → Mm → Prop} {τ : Mm} {l t : Int} (hR : FrR τ) (k : Post (some (vI (-1))) τ) : WP (d + 3) 208 [vR 30 0, vI l, vI t] τ Post := by
  intro K hK
  have hK : StpF cX6_until RX6 (some .int) (WP (d + 2)) Post K := hK
  have hM := hK.1
  have hC := hK.1.1
  show K 0 [some (vR 30 0), some (vI l), some (vI t), none, none] [] τ
  refine r_aload_n hC dX6_until_0 rfl ?_
  refine r_iload_n hC dX6_until_1 rfl ?_
  refine m_inv1 hM dX6_until_2 vl_RX6_124 rfl rfl rfl (Nat.le_of_ble_eq_true rfl) (Nat.le_of_ble_eq_true rfl) ?_
  refine m_isLane0 hR ?_
  refine r_if_ne (tgt := 10) hC dX6_until_5 rfl (fun h2 => by omega) (fun h2 => ?_)
  refine r_iconst hC dX6_until_8 rfl ?_
  refine t_iret hK rfl dX6_until_9 ?_
  exact k
theorem d0_take {d : Nat} {Post : Option Vl → Mm → Prop} {τ : Mm} {l v : Int} (hR : FrR τ) (k : Post (some (vI (-2147483648))) τ) : WP (d + 4) 210 [vR 30 0, vI l, vI v] τ Post := by
  intro K hK
  have hK : StpF cX6_take RX6 (some .int) (WP (d + 3)) Post K := hK
  have hM := hK.1
  have hC := hK.1.1
  show K 0 [some (vR 30 0), some (vI l), some (vI v), none] [] τ
  refine r_aload_n hC dX6_take_0 rfl ?_
  refine r_iload_n hC dX6_take_1 rfl ?_
  refine r_iload_n hC dX6_take_2 rfl ?_
  refine m_inv2 hM dX6_take_3 vl_RX6_262 rfl rfl rfl (Nat.le_of_ble_eq_true rfl) (Nat.le_of_ble_eq_true rfl) ?_
  refine m_isEvent0 hR ?_
  refine r_if_ne (tgt := 12) hC dX6_take_6 rfl (fun h2 => by omega) (fun h2 => ?_)
  refine r_ldc hC dX6_take_9 co_RX6_160 rfl ?_
  refine t_iret hK rfl dX6_take_11 ?_
  exact k
theorem d0_alter {d : Nat} {Post : Option Vl → Mm → Prop} {τ : Mm} {l i v : Int} (hR : FrR τ) (k : Post (some (vI (0))) τ) : WP (d + 4) 211 [vR 30 0, vI l, vI i, vI v] τ Post := by
  intro K hK
  have hK : StpF cX6_alter RX6 (some .boolean) (WP (d + 3)) Post K := hK
  have hM := hK.1
  have hC := hK.1.1
  show K 0 [some (vR 30 0), some (vI l), some (vI i), some (vI v)] [] τ
  refine r_aload_n hC dX6_alter_0 rfl ?_
  refine r_iload_n hC dX6_alter_1 rfl ?_
  refine r_iload_n hC dX6_alter_2 rfl ?_
  refine m_inv2 hM dX6_alter_3 vl_RX6_262 rfl rfl rfl (Nat.le_of_ble_eq_true rfl) (Nat.le_of_ble_eq_true rfl) ?_
  refine m_isEvent0 hR ?_
  refine r_if_eq (tgt := 22) hC dX6_alter_6 rfl (fun h2 => ?_) (fun h2 => by omega)
  refine r_iconst hC dX6_alter_22 rfl ?_
  refine t_zret hK rfl dX6_alter_23 (by omega) ?_
  exact k
theorem d0_event {d : Nat} {Post : Option Vl → Mm → Prop} {τ : Mm} {l i w : Int} (hR : FrR τ) (k : Post (some (vI (-2147483648))) τ) : WP (d + 4) 212 [vR 30 0, vI l, vI i, vI w] τ Post := by
  intro K hK
  have hK : StpF cX6_event RX6 (some .int) (WP (d + 3)) Post K := hK
  have hM := hK.1
  have hC := hK.1.1
  show K 0 [some (vR 30 0), some (vI l), some (vI i), some (vI w)] [] τ
  refine r_aload_n hC dX6_event_0 rfl ?_
  refine r_iload_n hC dX6_event_1 rfl ?_
  refine r_iload_n hC dX6_event_2 rfl ?_
  refine m_inv2 hM dX6_event_3 vl_RX6_262 rfl rfl rfl (Nat.le_of_ble_eq_true rfl) (Nat.le_of_ble_eq_true rfl) ?_
  refine m_isEvent0 hR ?_
  refine r_if_ne (tgt := 12) hC dX6_event_6 rfl (fun h2 => by omega) (fun h2 => ?_)
  refine r_ldc hC dX6_event_9 co_RX6_160 rfl ?_
  refine t_iret hK rfl dX6_event_11 ?_
  exact k
theorem d0_total {d : Nat} {Post : Option Vl → Mm → Prop} {τ : Mm} {l w : Int} (hR : FrR τ) (k : Post (some (vI (-2147483648))) τ) : WP (d + 4) 214 [vR 30 0, vI l, vI w] τ Post := by
  intro K hK
  have hK : StpF cX6_total RX6 (some .int) (WP (d + 3)) Post K := hK
  have hM := hK.1
  have hC := hK.1.1
  show K 0 [some (vR 30 0), some (vI l), some (vI w)] [] τ
  refine r_aload_n hC dX6_total_0 rfl ?_
  refine r_iload_n hC dX6_total_1 rfl ?_
  refine r_iload_n hC dX6_total_2 rfl ?_
  refine m_inv2 hM dX6_total_3 vl_RX6_207 rfl rfl rfl (Nat.le_of_ble_eq_true rfl) (Nat.le_of_ble_eq_true rfl) ?_
  refine m_isNumber0 hR ?_
  refine r_if_eq (tgt := 26) hC dX6_total_6 rfl (fun h2 => ?_) (fun h2 => by omega)
  refine r_ldc hC dX6_total_26 co_RX6_160 rfl ?_
  refine t_iret hK rfl dX6_total_28 ?_
  exact k
theorem d0_part {d : Nat} {Post : Option Vl → Mm → Prop} {τ : Mm} {l f t w : Int} (hR : FrR τ) (k : Post (some (vI (-2147483648))) τ) : WP (d + 4) 215 [vR 30 0, vI l, vI f, vI t, vI w] τ Post := by
  intro K hK
  have hK : StpF cX6_part RX6 (some .int) (WP (d + 3)) Post K := hK
  have hM := hK.1
  have hC := hK.1.1
  show K 0 [some (vR 30 0), some (vI l), some (vI f), some (vI t), some (vI w)] [] τ
  refine r_aload_n hC dX6_part_0 rfl ?_
  refine r_iload_n hC dX6_part_1 rfl ?_
  refine r_iload hC dX6_part_2 rfl ?_
  refine m_inv2 hM dX6_part_4 vl_RX6_207 rfl rfl rfl (Nat.le_of_ble_eq_true rfl) (Nat.le_of_ble_eq_true rfl) ?_
  refine m_isNumber0 hR ?_
  refine r_if_eq (tgt := 33) hC dX6_part_7 rfl (fun h2 => ?_) (fun h2 => by omega)
  refine r_ldc hC dX6_part_33 co_RX6_160 rfl ?_
  refine t_iret hK rfl dX6_part_35 ?_
  exact k
theorem d0_during {d : Nat} {Post : Option Vl → Mm → Prop} {τ : Mm} {l f t w : Int} (hR : FrR τ) (k : Post (some (vI (-2147483648))) τ) : WP (d + 4) 217 [vR 30 0, vI l, vI f, vI t, vI w] τ Post := by
  intro K hK
  have hK : StpF cX6_during RX6 (some .int) (WP (d + 3)) Post K := hK
  have hM := hK.1
  have hC := hK.1.1
  show K 0 [some (vR 30 0), some (vI l), some (vI f), some (vI t), some (vI w), none, none] [] τ
  refine r_aload_n hC dX6_during_0 rfl ?_
  refine r_iload_n hC dX6_during_1 rfl ?_
  refine r_iload hC dX6_during_2 rfl ?_
  refine m_inv2 hM dX6_during_4 vl_RX6_207 rfl rfl rfl (Nat.le_of_ble_eq_true rfl) (Nat.le_of_ble_eq_true rfl) ?_
  refine m_isNumber0 hR ?_
  refine r_if_ne (tgt := 13) hC dX6_during_7 rfl (fun h2 => by omega) (fun h2 => ?_)
  refine r_ldc hC dX6_during_10 co_RX6_160 rfl ?_
  refine t_iret hK rfl dX6_during_12 ?_
  exact k
theorem d0_many {d : Nat} {Post : Option Vl → Mm → Prop} {τ : Mm} {l f t : Int} (hR : FrR τ) (k : Post (some (vI (-1))) τ) : WP (d + 3) 218 [vR 30 0, vI l, vI f, vI t] τ Post := by
  intro K hK
  have hK : StpF cX6_many RX6 (some .int) (WP (d + 2)) Post K := hK
  have hM := hK.1
  have hC := hK.1.1
  show K 0 [some (vR 30 0), some (vI l), some (vI f), some (vI t), none] [] τ
  refine r_aload_n hC dX6_many_0 rfl ?_
  refine r_iload_n hC dX6_many_1 rfl ?_
  refine m_inv1 hM dX6_many_2 vl_RX6_124 rfl rfl rfl (Nat.le_of_ble_eq_true rfl) (Nat.le_of_ble_eq_true rfl) ?_
  refine m_isLane0 hR ?_
  refine r_if_ne (tgt := 10) hC dX6_many_5 rfl (fun h2 => by omega) (fun h2 => ?_)
  refine r_iconst hC dX6_many_8 rfl ?_
  refine t_iret hK rfl dX6_many_9 ?_
  exact k
theorem d0_reach {d : Nat} {Post : Option Vl → Mm → Prop} {τ : Mm} {l w b : Int} (hR : FrR τ) (k : Post (some (vI (-1))) τ) : WP (d + 4) 219 [vR 30 0, vI l, vI w, vI b] τ Post := by
  intro K hK
  have hK : StpF cX6_reach RX6 (some .int) (WP (d + 3)) Post K := hK
  have hM := hK.1
  have hC := hK.1.1
  show K 0 [some (vR 30 0), some (vI l), some (vI w), some (vI b), none] [] τ
  refine r_aload_n hC dX6_reach_0 rfl ?_
  refine r_iload_n hC dX6_reach_1 rfl ?_
  refine r_iload_n hC dX6_reach_2 rfl ?_
  refine m_inv2 hM dX6_reach_3 vl_RX6_207 rfl rfl rfl (Nat.le_of_ble_eq_true rfl) (Nat.le_of_ble_eq_true rfl) ?_
  refine m_isNumber0 hR ?_
  refine r_if_ne (tgt := 11) hC dX6_reach_6 rfl (fun h2 => by omega) (fun h2 => ?_)
  refine r_iconst hC dX6_reach_9 rfl ?_
  refine t_iret hK rfl dX6_reach_10 ?_
  exact k
theorem d0_reachBack {d : Nat} {Post : Option Vl → Mm → Prop} {τ : Mm} {l w b : Int} (hR : FrR τ) (k : Post (some (vI (-1))) τ) : WP (d + 4) 220 [vR 30 0, vI l, vI w, vI b] τ Post := by
  intro K hK
  have hK : StpF cX6_reachBack RX6 (some .int) (WP (d + 3)) Post K := hK
  have hM := hK.1
  have hC := hK.1.1
  show K 0 [some (vR 30 0), some (vI l), some (vI w), some (vI b), none] [] τ
  refine r_aload_n hC dX6_reachBack_0 rfl ?_
  refine r_iload_n hC dX6_reachBack_1 rfl ?_
  refine r_iload_n hC dX6_reachBack_2 rfl ?_
  refine m_inv2 hM dX6_reachBack_3 vl_RX6_207 rfl rfl rfl (Nat.le_of_ble_eq_true rfl) (Nat.le_of_ble_eq_true rfl) ?_
  refine m_isNumber0 hR ?_
  refine r_if_ne (tgt := 11) hC dX6_reachBack_6 rfl (fun h2 => by omega) (fun h2 => ?_)
  refine r_iconst hC dX6_reachBack_9 rfl ?_
  refine t_iret hK rfl dX6_reachBack_10 ?_
  exact k
theorem d0_bestOf {d : Nat} {Post : Option Vl → Mm → Prop} {τ : Mm} {l m w : Int} (hR : FrR τ) (k : Post (some (vI (-1))) τ) : WP (d + 4) 221 [vR 30 0, vI l, vI m, vI w] τ Post := by
  intro K hK
  have hK : StpF cX6_bestOf RX6 (some .int) (WP (d + 3)) Post K := hK
  have hM := hK.1
  have hC := hK.1.1
  show K 0 [some (vR 30 0), some (vI l), some (vI m), some (vI w), none, none, none, none] [] τ
  refine r_aload_n hC dX6_bestOf_0 rfl ?_
  refine r_iload_n hC dX6_bestOf_1 rfl ?_
  refine r_iload_n hC dX6_bestOf_2 rfl ?_
  refine m_inv2 hM dX6_bestOf_3 vl_RX6_207 rfl rfl rfl (Nat.le_of_ble_eq_true rfl) (Nat.le_of_ble_eq_true rfl) ?_
  refine m_isNumber0 hR ?_
  refine r_if_eq (tgt := 22) hC dX6_bestOf_6 rfl (fun h2 => ?_) (fun h2 => by omega)
  refine r_iconst hC dX6_bestOf_22 rfl ?_
  refine t_iret hK rfl dX6_bestOf_23 ?_
  exact k
theorem d0_without {d : Nat} {Post : Option Vl → Mm → Prop} {τ : Mm} {l i w : Int} (hR : FrR τ) (k : Post (some (vI (-2147483648))) τ) : WP (d + 4) 225 [vR 30 0, vI l, vI i, vI w] τ Post := by
  intro K hK
  have hK : StpF cX6_without RX6 (some .int) (WP (d + 3)) Post K := hK
  have hM := hK.1
  have hC := hK.1.1
  show K 0 [some (vR 30 0), some (vI l), some (vI i), some (vI w)] [] τ
  refine r_aload_n hC dX6_without_0 rfl ?_
  refine r_iload_n hC dX6_without_1 rfl ?_
  refine r_iload_n hC dX6_without_2 rfl ?_
  refine m_inv2 hM dX6_without_3 vl_RX6_207 rfl rfl rfl (Nat.le_of_ble_eq_true rfl) (Nat.le_of_ble_eq_true rfl) ?_
  refine m_isNumber0 hR ?_
  refine r_if_eq (tgt := 28) hC dX6_without_6 rfl (fun h2 => ?_) (fun h2 => by omega)
  refine r_ldc hC dX6_without_28 co_RX6_160 rfl ?_
  refine t_iret hK rfl dX6_without_30 ?_
  exact k
theorem d0_spare {d : Nat} {Post : Option Vl → Mm → Prop} {τ : Mm} {l w : Int} (hR : FrR τ) (k : Post (some (vI (-1))) τ) : WP (d + 4) 226 [vR 30 0, vI l, vI w] τ Post := by
  intro K hK
  have hK : StpF cX6_spare RX6 (some .int) (WP (d + 3)) Post K := hK
  have hM := hK.1
  have hC := hK.1.1
  show K 0 [some (vR 30 0), some (vI l), some (vI w), none, none, none, none] [] τ
  refine r_aload_n hC dX6_spare_0 rfl ?_
  refine r_iload_n hC dX6_spare_1 rfl ?_
  refine r_iload_n hC dX6_spare_2 rfl ?_
  refine m_inv2 hM dX6_spare_3 vl_RX6_207 rfl rfl rfl (Nat.le_of_ble_eq_true rfl) (Nat.le_of_ble_eq_true rfl) ?_
  refine m_isNumber0 hR ?_
  refine r_if_eq (tgt := 18) hC dX6_spare_6 rfl (fun h2 => ?_) (fun h2 => by omega)
  refine r_iconst hC dX6_spare_18 rfl ?_
  refine t_iret hK rfl dX6_spare_19 ?_
  exact k
theorem d0_turned {d : Nat} {Post : Option Vl → Mm → Prop} {τ : Mm} {l w : Int} (hR : FrR τ) (k : Post (some (vI (-2147483648))) τ) : WP (d + 4) 227 [vR 30 0, vI l, vI w] τ Post := by
  intro K hK
  have hK : StpF cX6_turned RX6 (some .int) (WP (d + 3)) Post K := hK
  have hM := hK.1
  have hC := hK.1.1
  show K 0 [some (vR 30 0), some (vI l), some (vI w), none] [] τ
  refine r_aload_n hC dX6_turned_0 rfl ?_
  refine r_iload_n hC dX6_turned_1 rfl ?_
  refine r_iload_n hC dX6_turned_2 rfl ?_
  refine m_inv2 hM dX6_turned_3 vl_RX6_207 rfl rfl rfl (Nat.le_of_ble_eq_true rfl) (Nat.le_of_ble_eq_true rfl) ?_
  refine m_isNumber0 hR ?_
  refine r_if_ne (tgt := 12) hC dX6_turned_6 rfl (fun h2 => by omega) (fun h2 => ?_)
  refine r_ldc hC dX6_turned_9 co_RX6_160 rfl ?_
  refine t_iret hK rfl dX6_turned_11 ?_
  exact k
theorem d0_commutes {d : Nat} {Post : Option Vl → Mm → Prop} {τ : Mm} {l i : Int} (hR : FrR τ) (k : Post (some (vI (-1))) τ) : WP (d + 3) 230 [vR 30 0, vI l, vI i] τ Post := by
  intro K hK
  have hK : StpF cX6_commutes RX6 (some .int) (WP (d + 2)) Post K := hK
  have hM := hK.1
  have hC := hK.1.1
  show K 0 [some (vR 30 0), some (vI l), some (vI i), none] [] τ
  refine r_aload_n hC dX6_commutes_0 rfl ?_
  refine r_iload_n hC dX6_commutes_1 rfl ?_
  refine m_inv1 hM dX6_commutes_2 vl_RX6_124 rfl rfl rfl (Nat.le_of_ble_eq_true rfl) (Nat.le_of_ble_eq_true rfl) ?_
  refine m_isLane0 hR ?_
  refine r_if_eq (tgt := 23) hC dX6_commutes_5 rfl (fun h2 => ?_) (fun h2 => by omega)
  refine r_iconst hC dX6_commutes_23 rfl ?_
  refine t_iret hK rfl dX6_commutes_24 ?_
  exact k
theorem d0_joined {d : Nat} {Post : Option Vl → Mm → Prop} {τ : Mm} {l o w : Int} (hR : FrR τ) (k : Post (some (vI (-2147483648))) τ) : WP (d + 4) 232 [vR 30 0, vI l, vI o, vI w] τ Post := by
  intro K hK
  have hK : StpF cX6_joined RX6 (some .int) (WP (d + 3)) Post K := hK
  have hM := hK.1
  have hC := hK.1.1
  show K 0 [some (vR 30 0), some (vI l), some (vI o), some (vI w)] [] τ
  refine r_aload_n hC dX6_joined_0 rfl ?_
  refine r_iload_n hC dX6_joined_1 rfl ?_
  refine r_iload_n hC dX6_joined_2 rfl ?_
  refine m_inv2 hM dX6_joined_3 vl_RX6_280 rfl rfl rfl (Nat.le_of_ble_eq_true rfl) (Nat.le_of_ble_eq_true rfl) ?_
  refine m_areAlike0 hR ?_
  refine r_if_eq (tgt := 18) hC dX6_joined_6 rfl (fun h2 => ?_) (fun h2 => by omega)
  refine r_ldc hC dX6_joined_18 co_RX6_160 rfl ?_
  refine t_iret hK rfl dX6_joined_20 ?_
  exact k
theorem d0_woven {d : Nat} {Post : Option Vl → Mm → Prop} {τ : Mm} {l o w : Int} (hR : FrR τ) (k : Post (some (vI (-2147483648))) τ) : WP (d + 4) 233 [vR 30 0, vI l, vI o, vI w] τ Post := by
  intro K hK
  have hK : StpF cX6_woven RX6 (some .int) (WP (d + 3)) Post K := hK
  have hM := hK.1
  have hC := hK.1.1
  show K 0 [some (vR 30 0), some (vI l), some (vI o), some (vI w), none, none] [] τ
  refine r_aload_n hC dX6_woven_0 rfl ?_
  refine r_iload_n hC dX6_woven_1 rfl ?_
  refine r_iload_n hC dX6_woven_2 rfl ?_
  refine m_inv2 hM dX6_woven_3 vl_RX6_280 rfl rfl rfl (Nat.le_of_ble_eq_true rfl) (Nat.le_of_ble_eq_true rfl) ?_
  refine m_areAlike0 hR ?_
  refine r_if_eq (tgt := 18) hC dX6_woven_6 rfl (fun h2 => ?_) (fun h2 => by omega)
  refine r_ldc hC dX6_woven_18 co_RX6_160 rfl ?_
  refine t_iret hK rfl dX6_woven_20 ?_
  exact k
theorem d0_same {d : Nat} {Post : Option Vl → Mm → Prop} {τ : Mm} {l o : Int} (hR : FrR τ) (k : Post (some (vI (-1))) τ) : WP (d + 4) 234 [vR 30 0, vI l, vI o] τ Post := by
  intro K hK
  have hK : StpF cX6_same RX6 (some .int) (WP (d + 3)) Post K := hK
  have hM := hK.1
  have hC := hK.1.1
  show K 0 [some (vR 30 0), some (vI l), some (vI o)] [] τ
  refine r_aload_n hC dX6_same_0 rfl ?_
  refine r_iload_n hC dX6_same_1 rfl ?_
  refine r_iload_n hC dX6_same_2 rfl ?_
  refine m_inv2 hM dX6_same_3 vl_RX6_280 rfl rfl rfl (Nat.le_of_ble_eq_true rfl) (Nat.le_of_ble_eq_true rfl) ?_
  refine m_areAlike0 hR ?_
  refine r_if_ne (tgt := 11) hC dX6_same_6 rfl (fun h2 => by omega) (fun h2 => ?_)
  refine r_iconst hC dX6_same_9 rfl ?_
  refine t_iret hK rfl dX6_same_10 ?_
  exact k
theorem d0_panes {d : Nat} {Post : Option Vl → Mm → Prop} {τ : Mm} {l w : Int} (hR : FrR τ) (k : Post (some (vI (-1))) τ) : WP (d + 3) 245 [vR 30 0, vI l, vI w] τ Post := by
  intro K hK
  have hK : StpF cX6_panes RX6 (some .int) (WP (d + 2)) Post K := hK
  have hM := hK.1
  have hC := hK.1.1
  show K 0 [some (vR 30 0), some (vI l), some (vI w), none, none] [] τ
  refine r_aload_n hC dX6_panes_0 rfl ?_
  refine r_iload_n hC dX6_panes_1 rfl ?_
  refine m_inv1 hM dX6_panes_2 vl_RX6_124 rfl rfl rfl (Nat.le_of_ble_eq_true rfl) (Nat.le_of_ble_eq_true rfl) ?_
  refine m_isLane0 hR ?_
  refine r_if_eq (tgt := 16) hC dX6_panes_5 rfl (fun h2 => ?_) (fun h2 => by omega)
  refine r_iconst hC dX6_panes_16 rfl ?_
  refine t_iret hK rfl dX6_panes_17 ?_
  exact k
theorem d0_fullest {d : Nat} {Post : Option Vl → Mm → Prop} {τ : Mm} {l w : Int} (hR : FrR τ) (k : Post (some (vI (-1))) τ) : WP (d + 3) 246 [vR 30 0, vI l, vI w] τ Post := by
  intro K hK
  have hK : StpF cX6_fullest RX6 (some .int) (WP (d + 2)) Post K := hK
  have hM := hK.1
  have hC := hK.1.1
  show K 0 [some (vR 30 0), some (vI l), some (vI w), none, none, none] [] τ
  refine r_aload_n hC dX6_fullest_0 rfl ?_
  refine r_iload_n hC dX6_fullest_1 rfl ?_
  refine m_inv1 hM dX6_fullest_2 vl_RX6_124 rfl rfl rfl (Nat.le_of_ble_eq_true rfl) (Nat.le_of_ble_eq_true rfl) ?_
  refine m_isLane0 hR ?_
  refine r_if_eq (tgt := 16) hC dX6_fullest_5 rfl (fun h2 => ?_) (fun h2 => by omega)
  refine r_iconst hC dX6_fullest_16 rfl ?_
  refine t_iret hK rfl dX6_fullest_17 ?_
  exact k
theorem d0_sessions {d : Nat} {Post : Option Vl → Mm → Prop} {τ : Mm} {l w : Int} (hR : FrR τ) (k : Post (some (vI (-1))) τ) : WP (d + 3) 249 [vR 30 0, vI l, vI w] τ Post := by
  intro K hK
  have hK : StpF cX6_sessions RX6 (some .int) (WP (d + 2)) Post K := hK
  have hM := hK.1
  have hC := hK.1.1
  show K 0 [some (vR 30 0), some (vI l), some (vI w), none, none] [] τ
  refine r_aload_n hC dX6_sessions_0 rfl ?_
  refine r_iload_n hC dX6_sessions_1 rfl ?_
  refine m_inv1 hM dX6_sessions_2 vl_RX6_124 rfl rfl rfl (Nat.le_of_ble_eq_true rfl) (Nat.le_of_ble_eq_true rfl) ?_
  refine m_isLane0 hR ?_
  refine r_if_eq (tgt := 16) hC dX6_sessions_5 rfl (fun h2 => ?_) (fun h2 => by omega)
  refine r_iconst hC dX6_sessions_16 rfl ?_
  refine t_iret hK rfl dX6_sessions_17 ?_
  exact k
theorem d0_session {d : Nat} {Post : Option Vl → Mm → Prop} {τ : Mm} {l a b w : Int} (hR : FrR τ) (k : Post (some (vI (-2147483648))) τ) : WP (d + 4) 250 [vR 30 0, vI l, vI a, vI b, vI w] τ Post := by
  intro K hK
  have hK : StpF cX6_session RX6 (some .int) (WP (d + 3)) Post K := hK
  have hM := hK.1
  have hC := hK.1.1
  show K 0 [some (vR 30 0), some (vI l), some (vI a), some (vI b), some (vI w), none, none] [] τ
  refine r_aload_n hC dX6_session_0 rfl ?_
  refine r_iload_n hC dX6_session_1 rfl ?_
  refine r_iload hC dX6_session_2 rfl ?_
  refine m_inv2 hM dX6_session_4 vl_RX6_207 rfl rfl rfl (Nat.le_of_ble_eq_true rfl) (Nat.le_of_ble_eq_true rfl) ?_
  refine m_isNumber0 hR ?_
  refine r_if_eq (tgt := 22) hC dX6_session_7 rfl (fun h2 => ?_) (fun h2 => by omega)
  refine r_ldc hC dX6_session_22 co_RX6_160 rfl ?_
  refine t_iret hK rfl dX6_session_24 ?_
  exact k
theorem d0_longest {d : Nat} {Post : Option Vl → Mm → Prop} {τ : Mm} {l w : Int} (hR : FrR τ) (k : Post (some (vI (-1))) τ) : WP (d + 3) 251 [vR 30 0, vI l, vI w] τ Post := by
  intro K hK
  have hK : StpF cX6_longest RX6 (some .int) (WP (d + 2)) Post K := hK
  have hM := hK.1
  have hC := hK.1.1
  show K 0 [some (vR 30 0), some (vI l), some (vI w), none, none, none, none] [] τ
  refine r_aload_n hC dX6_longest_0 rfl ?_
  refine r_iload_n hC dX6_longest_1 rfl ?_
  refine m_inv1 hM dX6_longest_2 vl_RX6_124 rfl rfl rfl (Nat.le_of_ble_eq_true rfl) (Nat.le_of_ble_eq_true rfl) ?_
  refine m_isLane0 hR ?_
  refine r_if_eq (tgt := 16) hC dX6_longest_5 rfl (fun h2 => ?_) (fun h2 => by omega)
  refine r_iconst hC dX6_longest_16 rfl ?_
  refine t_iret hK rfl dX6_longest_17 ?_
  exact k
theorem d0_state {d : Nat} {Post : Option Vl → Mm → Prop} {τ : Mm} {l w : Int} (hR : FrR τ) (k : Post (some (vI (-1))) τ) : WP (d + 3) 180 [vR 30 0, vI l, vI w] τ Post := by
  intro K hK
  have hK : StpF cX6_state RX6 (some .int) (WP (d + 2)) Post K := hK
  have hM := hK.1
  have hC := hK.1.1
  show K 0 [some (vR 30 0), some (vI l), some (vI w)] [] τ
  refine r_aload_n hC dX6_state_0 rfl ?_
  refine r_iload_n hC dX6_state_1 rfl ?_
  refine m_inv1 hM dX6_state_2 vl_RX6_124 rfl rfl rfl (Nat.le_of_ble_eq_true rfl) (Nat.le_of_ble_eq_true rfl) ?_
  refine m_isLane0 hR ?_
  refine r_if_ne (tgt := 10) hC dX6_state_5 rfl (fun h2 => by omega) (fun h2 => ?_)
  refine r_iconst hC dX6_state_8 rfl ?_
  refine t_iret hK rfl dX6_state_9 ?_
  exact k
theorem d0_soon {d : Nat} {Post : Option Vl → Mm → Prop} {τ : Mm} {l w : Int} (hR : FrR τ) (k : Post (some (vI (-1))) τ) : WP (d + 3) 181 [vR 30 0, vI l, vI w] τ Post := by
  intro K hK
  have hK : StpF cX6_soon RX6 (some .int) (WP (d + 2)) Post K := hK
  have hM := hK.1
  have hC := hK.1.1
  show K 0 [some (vR 30 0), some (vI l), some (vI w)] [] τ
  refine r_aload_n hC dX6_soon_0 rfl ?_
  refine r_iload_n hC dX6_soon_1 rfl ?_
  refine m_inv1 hM dX6_soon_2 vl_RX6_124 rfl rfl rfl (Nat.le_of_ble_eq_true rfl) (Nat.le_of_ble_eq_true rfl) ?_
  refine m_isLane0 hR ?_
  refine r_if_eq (tgt := 28) hC dX6_soon_5 rfl (fun h2 => ?_) (fun h2 => by omega)
  refine r_iconst hC dX6_soon_28 rfl ?_
  refine t_iret hK rfl dX6_soon_29 ?_
  exact k
theorem d0_cost {d : Nat} {Post : Option Vl → Mm → Prop} {τ : Mm} {l m w : Int} (hR : FrR τ) (k : Post (some (vI (-1))) τ) : WP (d + 3) 242 [vR 30 0, vI l, vI m, vI w] τ Post := by
  intro K hK
  have hK : StpF cX6_cost RX6 (some .int) (WP (d + 2)) Post K := hK
  have hM := hK.1
  have hC := hK.1.1
  show K 0 [some (vR 30 0), some (vI l), some (vI m), some (vI w), none, none, none, none] [] τ
  refine r_aload_n hC dX6_cost_0 rfl ?_
  refine r_iload_n hC dX6_cost_1 rfl ?_
  refine m_inv1 hM dX6_cost_2 vl_RX6_124 rfl rfl rfl (Nat.le_of_ble_eq_true rfl) (Nat.le_of_ble_eq_true rfl) ?_
  refine m_isLane0 hR ?_
  refine r_if_eq (tgt := 28) hC dX6_cost_5 rfl (fun h2 => ?_) (fun h2 => by omega)
  refine r_iconst hC dX6_cost_28 rfl ?_
  refine t_iret hK rfl dX6_cost_29 ?_
  exact k
theorem d0_lane {d : Nat} {Post : Option Vl → Mm → Prop} {τ : Mm} {l w : Int} (hR : FrR τ) (k : Post (some (vI (-1))) τ) : WP (d + 3) 252 [vR 30 0, vI l, vI w] τ Post := by
  intro K hK
  have hK : StpF cX6_lane RX6 (some .int) (WP (d + 2)) Post K := hK
  have hM := hK.1
  have hC := hK.1.1
  show K 0 [some (vR 30 0), some (vI l), some (vI w)] [] τ
  refine r_aload_n hC dX6_lane_0 rfl ?_
  refine r_iload_n hC dX6_lane_1 rfl ?_
  refine m_inv1 hM dX6_lane_2 vl_RX6_124 rfl rfl rfl (Nat.le_of_ble_eq_true rfl) (Nat.le_of_ble_eq_true rfl) ?_
  refine m_isLane0 hR ?_
  refine r_if_ne (tgt := 10) hC dX6_lane_5 rfl (fun h2 => by omega) (fun h2 => ?_)
  refine r_iconst hC dX6_lane_8 rfl ?_
  refine t_iret hK rfl dX6_lane_9 ?_
  exact k
theorem d0_watch {d : Nat} {Post : Option Vl → Mm → Prop} {τ : Mm} {v l w b : Int} (hR : FrR τ) (k : Post (some (vI (-1))) τ) : WP (d + 4) 186 [vR 30 0, vI v, vI l, vI w, vI b] τ Post := by
  intro K hK
  have hK : StpF cX6_watch RX6 (some .int) (WP (d + 3)) Post K := hK
  have hM := hK.1
  have hC := hK.1.1
  show K 0 [some (vR 30 0), some (vI v), some (vI l), some (vI w), some (vI b)] [] τ
  refine r_iload_n hC dX6_watch_0 rfl ?_
  refine r_iconst hC dX6_watch_1 rfl ?_
  refine r_bipush hC dX6_watch_2 rfl ?_
  refine m_ins3 hM dX6_watch_4 tl_RX6_76 rfl (Nat.le_of_ble_eq_true rfl) (Nat.le_of_ble_eq_true rfl) ?_
  refine m_isIn (fun rh1 h1 => ?_)
  refine r_if_eq (tgt := 19) hC dX6_watch_7 rfl (fun h2 => ?_) (fun h2 => ?_)
  · refine r_iconst hC dX6_watch_19 rfl ?_
    refine t_iret hK rfl dX6_watch_20 ?_
    exact k
  · refine r_aload_n hC dX6_watch_10 rfl ?_
    refine r_iload_n hC dX6_watch_11 rfl ?_
    refine r_iload_n hC dX6_watch_12 rfl ?_
    refine m_inv2 hM dX6_watch_13 vl_RX6_207 rfl rfl rfl (Nat.le_of_ble_eq_true rfl) (Nat.le_of_ble_eq_true rfl) ?_
    refine m_isNumber0 hR ?_
    refine r_if_ne (tgt := 21) hC dX6_watch_16 rfl (fun h4 => by omega) (fun h4 => ?_)
    refine r_iconst hC dX6_watch_19 rfl ?_
    refine t_iret hK rfl dX6_watch_20 ?_
    exact k
theorem d0_link {d : Nat} {Post : Option Vl → Mm → Prop} {τ : Mm} {l o a w : Int} (hR : FrR τ) (k : Post (some (vI (0))) τ) : WP (d + 3) 199 [vR 30 0, vI l, vI o, vI a, vI w] τ Post := by
  intro K hK
  have hK : StpF cX6_link RX6 (some .boolean) (WP (d + 2)) Post K := hK
  have hM := hK.1
  have hC := hK.1.1
  show K 0 [some (vR 30 0), some (vI l), some (vI o), some (vI a), some (vI w)] [] τ
  refine r_aload_n hC dX6_link_0 rfl ?_
  refine r_iload_n hC dX6_link_1 rfl ?_
  refine m_inv1 hM dX6_link_2 vl_RX6_124 rfl rfl rfl (Nat.le_of_ble_eq_true rfl) (Nat.le_of_ble_eq_true rfl) ?_
  refine m_isLane0 hR ?_
  refine r_if_eq (tgt := 50) hC dX6_link_5 rfl (fun h2 => ?_) (fun h2 => by omega)
  refine r_iconst hC dX6_link_50 rfl ?_
  refine t_zret hK rfl dX6_link_51 (by omega) ?_
  exact k
theorem d0_shortest {d : Nat} {Post : Option Vl → Mm → Prop} {τ : Mm} {l w b z : Int} (hR : FrR τ) (k : Post (some (vI (-1))) τ) : WP (d + 4) 237 [vR 30 0, vI l, vI w, vI b, vI z] τ Post := by
  intro K hK
  have hK : StpF cX6_shortest RX6 (some .int) (WP (d + 3)) Post K := hK
  have hM := hK.1
  have hC := hK.1.1
  show K 0 [some (vR 30 0), some (vI l), some (vI w), some (vI b), some (vI z), none, none] [] τ
  refine r_aload_n hC dX6_shortest_0 rfl ?_
  refine r_iload_n hC dX6_shortest_1 rfl ?_
  refine r_iload_n hC dX6_shortest_2 rfl ?_
  refine m_inv2 hM dX6_shortest_3 vl_RX6_207 rfl rfl rfl (Nat.le_of_ble_eq_true rfl) (Nat.le_of_ble_eq_true rfl) ?_
  refine m_isNumber0 hR ?_
  refine r_if_eq (tgt := 19) hC dX6_shortest_6 rfl (fun h2 => ?_) (fun h2 => by omega)
  refine r_iconst hC dX6_shortest_19 rfl ?_
  refine t_iret hK rfl dX6_shortest_20 ?_
  exact k
theorem d0_windows {d : Nat} {Post : Option Vl → Mm → Prop} {τ : Mm} {l w a b : Int} (hR : FrR τ) (k : Post (some (vI (-1))) τ) : WP (d + 4) 238 [vR 30 0, vI l, vI w, vI a, vI b] τ Post := by
  intro K hK
  have hK : StpF cX6_windows RX6 (some .int) (WP (d + 3)) Post K := hK
  have hM := hK.1
  have hC := hK.1.1
  show K 0 [some (vR 30 0), some (vI l), some (vI w), some (vI a), some (vI b), none, none, none, none] [] τ
  refine r_aload_n hC dX6_windows_0 rfl ?_
  refine r_iload_n hC dX6_windows_1 rfl ?_
  refine r_iload_n hC dX6_windows_2 rfl ?_
  refine m_inv2 hM dX6_windows_3 vl_RX6_207 rfl rfl rfl (Nat.le_of_ble_eq_true rfl) (Nat.le_of_ble_eq_true rfl) ?_
  refine m_isNumber0 hR ?_
  refine r_if_ne (tgt := 11) hC dX6_windows_6 rfl (fun h2 => by omega) (fun h2 => ?_)
  refine r_iconst hC dX6_windows_9 rfl ?_
  refine t_iret hK rfl dX6_windows_10 ?_
  exact k
theorem d0_were {d : Nat} {Post : Option Vl → Mm → Prop} {τ : Mm} {l t v w : Int} (hR : FrR τ) (k : Post (some (vI (-2147483648))) τ) : WP (d + 4) 241 [vR 30 0, vI l, vI t, vI v, vI w] τ Post := by
  intro K hK
  have hK : StpF cX6_were RX6 (some .int) (WP (d + 3)) Post K := hK
  have hM := hK.1
  have hC := hK.1.1
  show K 0 [some (vR 30 0), some (vI l), some (vI t), some (vI v), some (vI w), none] [] τ
  refine r_aload_n hC dX6_were_0 rfl ?_
  refine r_iload_n hC dX6_were_1 rfl ?_
  refine r_iload hC dX6_were_2 rfl ?_
  refine m_inv2 hM dX6_were_4 vl_RX6_207 rfl rfl rfl (Nat.le_of_ble_eq_true rfl) (Nat.le_of_ble_eq_true rfl) ?_
  refine m_isNumber0 hR ?_
  refine r_if_eq (tgt := 50) hC dX6_were_7 rfl (fun h2 => ?_) (fun h2 => by omega)
  refine r_ldc hC dX6_were_50 co_RX6_160 rfl ?_
  refine t_iret hK rfl dX6_were_52 ?_
  exact k
theorem d0_parted {d : Nat} {Post : Option Vl → Mm → Prop} {τ : Mm} {l m w i : Int} (hR : FrR τ) (k : Post (some (vI (-2147483648))) τ) : WP (d + 4) 240 [vR 30 0, vI l, vI m, vI w, vI i] τ Post := by
  intro K hK
  have hK : StpF cX6_parted RX6 (some .int) (WP (d + 3)) Post K := hK
  have hM := hK.1
  have hC := hK.1.1
  show K 0 [some (vR 30 0), some (vI l), some (vI m), some (vI w), some (vI i), none, none] [] τ
  refine r_aload_n hC dX6_parted_0 rfl ?_
  refine r_iload_n hC dX6_parted_1 rfl ?_
  refine r_iload_n hC dX6_parted_2 rfl ?_
  refine m_inv2 hM dX6_parted_3 vl_RX6_207 rfl rfl rfl (Nat.le_of_ble_eq_true rfl) (Nat.le_of_ble_eq_true rfl) ?_
  refine m_isNumber0 hR ?_
  refine r_if_eq (tgt := 28) hC dX6_parted_6 rfl (fun h2 => ?_) (fun h2 => by omega)
  refine r_ldc hC dX6_parted_28 co_RX6_160 rfl ?_
  refine t_iret hK rfl dX6_parted_30 ?_
  exact k
theorem d0_keep {d : Nat} {Post : Option Vl → Mm → Prop} {τ : Mm} {l b : Int} (hR : FrR τ) (k : Post (some (vI (-1))) τ) : WP (d + 3) 254 [vR 30 0, vI l, vI b] τ Post := by
  intro K hK
  have hK : StpF cX6_keep RX6 (some .int) (WP (d + 2)) Post K := hK
  have hM := hK.1
  have hC := hK.1.1
  show K 0 [some (vR 30 0), some (vI l), some (vI b)] [] τ
  refine r_aload_n hC dX6_keep_0 rfl ?_
  refine r_iload_n hC dX6_keep_1 rfl ?_
  refine m_inv1 hM dX6_keep_2 vl_RX6_124 rfl rfl rfl (Nat.le_of_ble_eq_true rfl) (Nat.le_of_ble_eq_true rfl) ?_
  refine m_isLane0 hR ?_
  refine r_if_eq (tgt := 17) hC dX6_keep_5 rfl (fun h2 => ?_) (fun h2 => by omega)
  refine r_iconst hC dX6_keep_17 rfl ?_
  refine t_iret hK rfl dX6_keep_18 ?_
  exact k
theorem d0_rings {d : Nat} {Post : Option Vl → Mm → Prop} {τ : Mm} {v : Int} (hR : FrR τ) (k : Post (some (vI (-1))) τ) : WP (d + 3) 187 [vR 30 0, vI v] τ Post := by
  intro K hK
  have hK : StpF cX6_rings RX6 (some .int) (WP (d + 2)) Post K := hK
  have hM := hK.1
  have hC := hK.1.1
  show K 0 [some (vR 30 0), some (vI v)] [] τ
  refine r_aload_n hC dX6_rings_0 rfl ?_
  refine r_iload_n hC dX6_rings_1 rfl ?_
  refine m_inv1 hM dX6_rings_2 vl_RX6_210 rfl rfl rfl (Nat.le_of_ble_eq_true rfl) (Nat.le_of_ble_eq_true rfl) ?_
  refine m_isTold0 hR ?_
  refine r_if_eq (tgt := 17) hC dX6_rings_5 rfl (fun h2 => ?_) (fun h2 => by omega)
  refine r_iconst hC dX6_rings_17 rfl ?_
  refine t_iret hK rfl dX6_rings_18 ?_
  exact k
theorem d0_rang {d : Nat} {Post : Option Vl → Mm → Prop} {τ : Mm} {v : Int} (hR : FrR τ) (k : Post (some (vI (-1))) τ) : WP (d + 3) 188 [vR 30 0, vI v] τ Post := by
  intro K hK
  have hK : StpF cX6_rang RX6 (some .int) (WP (d + 2)) Post K := hK
  have hM := hK.1
  have hC := hK.1.1
  show K 0 [some (vR 30 0), some (vI v)] [] τ
  refine r_aload_n hC dX6_rang_0 rfl ?_
  refine r_iload_n hC dX6_rang_1 rfl ?_
  refine m_inv1 hM dX6_rang_2 vl_RX6_210 rfl rfl rfl (Nat.le_of_ble_eq_true rfl) (Nat.le_of_ble_eq_true rfl) ?_
  refine m_isTold0 hR ?_
  refine r_if_eq (tgt := 17) hC dX6_rang_5 rfl (fun h2 => ?_) (fun h2 => by omega)
  refine r_iconst hC dX6_rang_17 rfl ?_
  refine t_iret hK rfl dX6_rang_18 ?_
  exact k
theorem d0_unlink {d : Nat} {Post : Option Vl → Mm → Prop} {τ : Mm} {l : Int} (hR : FrR τ) (k : Post (some (vI (0))) τ) : WP (d + 3) 200 [vR 30 0, vI l] τ Post := by
  intro K hK
  have hK : StpF cX6_unlink RX6 (some .boolean) (WP (d + 2)) Post K := hK
  have hM := hK.1
  have hC := hK.1.1
  show K 0 [some (vR 30 0), some (vI l)] [] τ
  refine r_aload_n hC dX6_unlink_0 rfl ?_
  refine r_iload_n hC dX6_unlink_1 rfl ?_
  refine m_inv1 hM dX6_unlink_2 vl_RX6_124 rfl rfl rfl (Nat.le_of_ble_eq_true rfl) (Nat.le_of_ble_eq_true rfl) ?_
  refine m_isLane0 hR ?_
  refine r_if_eq (tgt := 17) hC dX6_unlink_5 rfl (fun h2 => ?_) (fun h2 => by omega)
  refine r_iconst hC dX6_unlink_17 rfl ?_
  refine t_zret hK rfl dX6_unlink_18 (by omega) ?_
  exact k
theorem d0_linked {d : Nat} {Post : Option Vl → Mm → Prop} {τ : Mm} {l w : Int} (hR : FrR τ) (k : Post (some (vI (-1))) τ) : WP (d + 3) 201 [vR 30 0, vI l, vI w] τ Post := by
  intro K hK
  have hK : StpF cX6_linked RX6 (some .int) (WP (d + 2)) Post K := hK
  have hM := hK.1
  have hC := hK.1.1
  show K 0 [some (vR 30 0), some (vI l), some (vI w)] [] τ
  refine r_aload_n hC dX6_linked_0 rfl ?_
  refine r_iload_n hC dX6_linked_1 rfl ?_
  refine m_inv1 hM dX6_linked_2 vl_RX6_124 rfl rfl rfl (Nat.le_of_ble_eq_true rfl) (Nat.le_of_ble_eq_true rfl) ?_
  refine m_isLane0 hR ?_
  refine r_if_eq (tgt := 17) hC dX6_linked_5 rfl (fun h2 => ?_) (fun h2 => by omega)
  refine r_iconst hC dX6_linked_17 rfl ?_
  refine t_iret hK rfl dX6_linked_18 ?_
  exact k
theorem d0_back {d : Nat} {Post : Option Vl → Mm → Prop} {τ : Mm} {b : Int} (hR : FrR τ) (k : Post (some (vI (-1))) τ) : WP (d + 2) 255 [vR 30 0, vI b] τ Post := by
  intro K hK
  have hK : StpF cX6_back RX6 (some .int) (WP (d + 1)) Post K := hK
  have hM := hK.1
  have hC := hK.1.1
  show K 0 [some (vR 30 0), some (vI b), none] [] τ
  refine r_iload_n hC dX6_back_0 rfl ?_
  refine r_iconst hC dX6_back_1 rfl ?_
  refine r_iconst hC dX6_back_2 rfl ?_
  refine m_ins3 hM dX6_back_3 tl_RX6_76 rfl (Nat.le_of_ble_eq_true rfl) (Nat.le_of_ble_eq_true rfl) ?_
  refine m_isIn (fun rh1 h1 => ?_)
  refine r_if_eq (tgt := 20) hC dX6_back_6 rfl (fun h2 => ?_) (fun h2 => ?_)
  · refine r_iconst hC dX6_back_20 rfl ?_
    refine t_iret hK rfl dX6_back_21 ?_
    exact k
  · refine r_aload_n hC dX6_back_9 rfl ?_
    refine r_iconst hC dX6_back_10 rfl ?_
    refine r_iload_n hC dX6_back_11 rfl ?_
    refine r_iaddS hC dX6_back_12 (by unfold inR; omega) ?_
    refine r_iconst hC dX6_back_13 rfl ?_
    refine m_inv2 hM dX6_back_14 vl_RX6_80 rfl rfl rfl (Nat.le_of_ble_eq_true rfl) (Nat.le_of_ble_eq_true rfl) ?_
    refine m_of0 hR (by omega) (by omega) ?_
    refine r_if_ne (tgt := 22) hC dX6_back_17 rfl (fun h4 => by omega) (fun h4 => ?_)
    refine r_iconst hC dX6_back_20 rfl ?_
    refine t_iret hK rfl dX6_back_21 ?_
    exact k
theorem d0_peakAt {d : Nat} {Post : Option Vl → Mm → Prop} {τ : Mm} {l m w : Int} (hR : FrR τ) (k : Post (some (vI (-1))) τ) : WP (d + 5) 222 [vR 30 0, vI l, vI m, vI w] τ Post := by
  intro K hK
  have hK : StpF cX6_peakAt RX6 (some .int) (WP (d + 4)) Post K := hK
  have hM := hK.1
  have hC := hK.1.1
  show K 0 [some (vR 30 0), some (vI l), some (vI m), some (vI w)] [] τ
  refine r_aload_n hC dX6_peakAt_0 rfl ?_
  refine r_iload_n hC dX6_peakAt_1 rfl ?_
  refine r_iload_n hC dX6_peakAt_2 rfl ?_
  refine r_iload_n hC dX6_peakAt_3 rfl ?_
  refine m_inv3 hM dX6_peakAt_4 vl_RX6_268 rfl rfl rfl (Nat.le_of_ble_eq_true rfl) (Nat.le_of_ble_eq_true rfl) ?_
  refine d0_bestOf hR ?_
  refine t_iret hK rfl dX6_peakAt_7 ?_
  exact k
theorem d0_peak {d : Nat} {Post : Option Vl → Mm → Prop} {τ : Mm} {l m w : Int} (hR : FrR τ) (k : Post (some (vI (-2147483648))) τ) : WP (d + 5) 223 [vR 30 0, vI l, vI m, vI w] τ Post := by
  intro K hK
  have hK : StpF cX6_peak RX6 (some .int) (WP (d + 4)) Post K := hK
  have hM := hK.1
  have hC := hK.1.1
  show K 0 [some (vR 30 0), some (vI l), some (vI m), some (vI w), none] [] τ
  refine r_aload_n hC dX6_peak_0 rfl ?_
  refine r_iload_n hC dX6_peak_1 rfl ?_
  refine r_iload_n hC dX6_peak_2 rfl ?_
  refine r_iload_n hC dX6_peak_3 rfl ?_
  refine m_inv3 hM dX6_peak_4 vl_RX6_268 rfl rfl rfl (Nat.le_of_ble_eq_true rfl) (Nat.le_of_ble_eq_true rfl) ?_
  refine d0_bestOf hR ?_
  refine r_istore hC dX6_peak_7 rfl ?_
  refine r_iload hC dX6_peak_9 rfl ?_
  refine r_if_ge (tgt := 19) hC dX6_peak_11 rfl (fun h2 => by omega) (fun h2 => ?_)
  refine r_ldc hC dX6_peak_14 co_RX6_160 rfl ?_
  refine r_goto (tgt := 33) hC dX6_peak_16 rfl ?_
  refine t_iret hK rfl dX6_peak_33 ?_
  exact k
theorem d0_law {d : Nat} {Post : Option Vl → Mm → Prop} {τ : Mm} {l o w : Int} (hR : FrR τ) (k : Post (some (vI (-2147483648))) τ) : WP (d + 5) 235 [vR 30 0, vI l, vI o, vI w] τ Post := by
  intro K hK
  have hK : StpF cX6_law RX6 (some .int) (WP (d + 4)) Post K := hK
  have hM := hK.1
  have hC := hK.1.1
  show K 0 [some (vR 30 0), some (vI l), some (vI o), some (vI w)] [] τ
  refine r_iload_n hC dX6_law_0 rfl ?_
  refine r_iconst hC dX6_law_1 rfl ?_
  refine r_iconst hC dX6_law_2 rfl ?_
  refine m_ins3 hM dX6_law_3 tl_RX6_76 rfl (Nat.le_of_ble_eq_true rfl) (Nat.le_of_ble_eq_true rfl) ?_
  refine m_isIn (fun rh1 h1 => ?_)
  refine r_if_eq (tgt := 18) hC dX6_law_6 rfl (fun h2 => ?_) (fun h2 => ?_)
  · refine r_ldc hC dX6_law_18 co_RX6_160 rfl ?_
    refine t_iret hK rfl dX6_law_20 ?_
    exact k
  · refine r_aload_n hC dX6_law_9 rfl ?_
    refine r_iload_n hC dX6_law_10 rfl ?_
    refine r_iload_n hC dX6_law_11 rfl ?_
    refine m_inv2 hM dX6_law_12 vl_RX6_283 rfl rfl rfl (Nat.le_of_ble_eq_true rfl) (Nat.le_of_ble_eq_true rfl) ?_
    refine d0_total hR ?_
    refine r_goto (tgt := 20) hC dX6_law_15 rfl ?_
    refine t_iret hK rfl dX6_law_20 ?_
    exact k
theorem m_openLanes0 {d : Nat} {Post : Option Vl → Mm → Prop} {τ : Mm}  (hR : FrR τ) (k : Post (some (vI (0))) τ) : WP (d + 2) 175 [vR 30 0] τ Post := by
  intro K hK
  have hK : StpF cX6_openLanes RX6 (some .int) (WP (d + 1)) Post K := hK
  have hM := hK.1
  have hC := hK.1.1
  show K 0 [some (vR 30 0), none, none] [] τ
  refine r_iconst hC dX6_openLanes_0 rfl ?_
  refine r_istore_n hC dX6_openLanes_1 rfl ?_
  refine r_iconst hC dX6_openLanes_2 rfl ?_
  refine r_istore_n hC dX6_openLanes_3 rfl ?_
  refine r_iload_n hC dX6_openLanes_4 rfl ?_
  refine r_iconst hC dX6_openLanes_5 rfl ?_
  refine r_icmp_ge (tgt := 24) hC dX6_openLanes_6 rfl (fun h1 => by omega) (fun h1 => ?_)
  refine r_iload_n hC dX6_openLanes_9 rfl ?_
  refine r_aload_n hC dX6_openLanes_10 rfl ?_
  refine r_iload_n hC dX6_openLanes_11 rfl ?_
  refine r_iconst hC dX6_openLanes_12 rfl ?_
  refine m_inv2 hM dX6_openLanes_13 vl_RX6_80 rfl rfl rfl (Nat.le_of_ble_eq_true rfl) (Nat.le_of_ble_eq_true rfl) ?_
  refine m_of0 hR (by omega) (by omega) ?_
  refine r_iaddE hC (0) dX6_openLanes_16 rfl (inR_lit rfl) ?_
  refine r_istore_n hC dX6_openLanes_17 rfl ?_
  show K _ [_, _, _] _ _
  refine r_iincE hC (1) dX6_openLanes_18 rfl rfl rfl (inR_lit rfl) ?_
  refine r_goto (tgt := 4) hC dX6_openLanes_21 rfl ?_
  refine r_iload_n hC dX6_openLanes_4 rfl ?_
  refine r_iconst hC dX6_openLanes_5 rfl ?_
  refine r_icmp_ge (tgt := 24) hC dX6_openLanes_6 rfl (fun h3 => by omega) (fun h3 => ?_)
  refine r_iload_n hC dX6_openLanes_9 rfl ?_
  refine r_aload_n hC dX6_openLanes_10 rfl ?_
  refine r_iload_n hC dX6_openLanes_11 rfl ?_
  refine r_iconst hC dX6_openLanes_12 rfl ?_
  refine m_inv2 hM dX6_openLanes_13 vl_RX6_80 rfl rfl rfl (Nat.le_of_ble_eq_true rfl) (Nat.le_of_ble_eq_true rfl) ?_
  refine m_of0 hR (by omega) (by omega) ?_
  refine r_iaddE hC (0) dX6_openLanes_16 rfl (inR_lit rfl) ?_
  refine r_istore_n hC dX6_openLanes_17 rfl ?_
  refine r_iincE hC (2) dX6_openLanes_18 rfl rfl rfl (inR_lit rfl) ?_
  show K _ [_, _, _] _ _
  refine r_goto (tgt := 4) hC dX6_openLanes_21 rfl ?_
  refine r_iload_n hC dX6_openLanes_4 rfl ?_
  refine r_iconst hC dX6_openLanes_5 rfl ?_
  refine r_icmp_ge (tgt := 24) hC dX6_openLanes_6 rfl (fun h5 => by omega) (fun h5 => ?_)
  refine r_iload_n hC dX6_openLanes_9 rfl ?_
  refine r_aload_n hC dX6_openLanes_10 rfl ?_
  refine r_iload_n hC dX6_openLanes_11 rfl ?_
  refine r_iconst hC dX6_openLanes_12 rfl ?_
  refine m_inv2 hM dX6_openLanes_13 vl_RX6_80 rfl rfl rfl (Nat.le_of_ble_eq_true rfl) (Nat.le_of_ble_eq_true rfl) ?_
  refine m_of0 hR (by omega) (by omega) ?_
  refine r_iaddE hC (0) dX6_openLanes_16 rfl (inR_lit rfl) ?_
  refine r_istore_n hC dX6_openLanes_17 rfl ?_
  refine r_iincE hC (3) dX6_openLanes_18 rfl rfl rfl (inR_lit rfl) ?_
  refine r_goto (tgt := 4) hC dX6_openLanes_21 rfl ?_
  refine r_iload_n hC dX6_openLanes_4 rfl ?_
  refine r_iconst hC dX6_openLanes_5 rfl ?_
  refine r_icmp_ge (tgt := 24) hC dX6_openLanes_6 rfl (fun h7 => by omega) (fun h7 => ?_)
  refine r_iload_n hC dX6_openLanes_9 rfl ?_
  refine r_aload_n hC dX6_openLanes_10 rfl ?_
  refine r_iload_n hC dX6_openLanes_11 rfl ?_
  refine r_iconst hC dX6_openLanes_12 rfl ?_
  refine m_inv2 hM dX6_openLanes_13 vl_RX6_80 rfl rfl rfl (Nat.le_of_ble_eq_true rfl) (Nat.le_of_ble_eq_true rfl) ?_
  refine m_of0 hR (by omega) (by omega) ?_
  refine r_iaddE hC (0) dX6_openLanes_16 rfl (inR_lit rfl) ?_
  refine r_istore_n hC dX6_openLanes_17 rfl ?_
  show K _ [_, _, _] _ _
  refine r_iincE hC (4) dX6_openLanes_18 rfl rfl rfl (inR_lit rfl) ?_
  refine r_goto (tgt := 4) hC dX6_openLanes_21 rfl ?_
  refine r_iload_n hC dX6_openLanes_4 rfl ?_
  refine r_iconst hC dX6_openLanes_5 rfl ?_
  refine r_icmp_ge (tgt := 24) hC dX6_openLanes_6 rfl (fun h9 => ?_) (fun h9 => by omega)
  refine r_iload_n hC dX6_openLanes_24 rfl ?_
  refine t_iret hK rfl dX6_openLanes_25 ?_
  exact k
theorem m_sumOf0 {d : Nat} {Post : Option Vl → Mm → Prop} {τ : Mm} {f : Int} (hR : FrR τ) (hf : 0 ≤ f ∧ f < 22) (k : Post (some (vI (0))) τ) : WP (d + 2) 256 [vR 30 0, vI f] τ Post := by
  intro K hK
  have hK : StpF cX6_sumOf RX6 (some .int) (WP (d + 1)) Post K := hK
  have hM := hK.1
  have hC := hK.1.1
  show K 0 [some (vR 30 0), some (vI f), none, none] [] τ
  refine r_iconst hC dX6_sumOf_0 rfl ?_
  refine r_istore_n hC dX6_sumOf_1 rfl ?_
  refine r_iconst hC dX6_sumOf_2 rfl ?_
  refine r_istore_n hC dX6_sumOf_3 rfl ?_
  refine r_iload_n hC dX6_sumOf_4 rfl ?_
  refine r_iconst hC dX6_sumOf_5 rfl ?_
  refine r_icmp_ge (tgt := 38) hC dX6_sumOf_6 rfl (fun h1 => by omega) (fun h1 => ?_)
  refine r_iload_n hC dX6_sumOf_9 rfl ?_
  refine r_aload_n hC dX6_sumOf_10 rfl ?_
  refine r_iload_n hC dX6_sumOf_11 rfl ?_
  refine r_iconst hC dX6_sumOf_12 rfl ?_
  refine m_inv2 hM dX6_sumOf_13 vl_RX6_80 rfl rfl rfl (Nat.le_of_ble_eq_true rfl) (Nat.le_of_ble_eq_true rfl) ?_
  refine m_of0 hR (by omega) (by omega) ?_
  refine r_iconst hC dX6_sumOf_16 rfl ?_
  refine r_icmp_ne (tgt := 29) hC dX6_sumOf_17 rfl (fun h3 => ?_) (fun h3 => by omega)
  refine r_iconst hC dX6_sumOf_29 rfl ?_
  refine r_iaddE hC (0) dX6_sumOf_30 rfl (inR_lit rfl) ?_
  refine r_istore_n hC dX6_sumOf_31 rfl ?_
  show K _ [_, _, _, _] _ _
  refine r_iincE hC (1) dX6_sumOf_32 rfl rfl rfl (inR_lit rfl) ?_
  refine r_goto (tgt := 4) hC dX6_sumOf_35 rfl ?_
  refine r_iload_n hC dX6_sumOf_4 rfl ?_
  refine r_iconst hC dX6_sumOf_5 rfl ?_
  refine r_icmp_ge (tgt := 38) hC dX6_sumOf_6 rfl (fun h4 => by omega) (fun h4 => ?_)
  refine r_iload_n hC dX6_sumOf_9 rfl ?_
  refine r_aload_n hC dX6_sumOf_10 rfl ?_
  refine r_iload_n hC dX6_sumOf_11 rfl ?_
  refine r_iconst hC dX6_sumOf_12 rfl ?_
  refine m_inv2 hM dX6_sumOf_13 vl_RX6_80 rfl rfl rfl (Nat.le_of_ble_eq_true rfl) (Nat.le_of_ble_eq_true rfl) ?_
  refine m_of0 hR (by omega) (by omega) ?_
  refine r_iconst hC dX6_sumOf_16 rfl ?_
  refine r_icmp_ne (tgt := 29) hC dX6_sumOf_17 rfl (fun h6 => ?_) (fun h6 => by omega)
  refine r_iconst hC dX6_sumOf_29 rfl ?_
  refine r_iaddE hC (0) dX6_sumOf_30 rfl (inR_lit rfl) ?_
  refine r_istore_n hC dX6_sumOf_31 rfl ?_
  refine r_iincE hC (2) dX6_sumOf_32 rfl rfl rfl (inR_lit rfl) ?_
  show K _ [_, _, _, _] _ _
  refine r_goto (tgt := 4) hC dX6_sumOf_35 rfl ?_
  refine r_iload_n hC dX6_sumOf_4 rfl ?_
  refine r_iconst hC dX6_sumOf_5 rfl ?_
  refine r_icmp_ge (tgt := 38) hC dX6_sumOf_6 rfl (fun h7 => by omega) (fun h7 => ?_)
  refine r_iload_n hC dX6_sumOf_9 rfl ?_
  refine r_aload_n hC dX6_sumOf_10 rfl ?_
  refine r_iload_n hC dX6_sumOf_11 rfl ?_
  refine r_iconst hC dX6_sumOf_12 rfl ?_
  refine m_inv2 hM dX6_sumOf_13 vl_RX6_80 rfl rfl rfl (Nat.le_of_ble_eq_true rfl) (Nat.le_of_ble_eq_true rfl) ?_
  refine m_of0 hR (by omega) (by omega) ?_
  refine r_iconst hC dX6_sumOf_16 rfl ?_
  refine r_icmp_ne (tgt := 29) hC dX6_sumOf_17 rfl (fun h9 => ?_) (fun h9 => by omega)
  refine r_iconst hC dX6_sumOf_29 rfl ?_
  refine r_iaddE hC (0) dX6_sumOf_30 rfl (inR_lit rfl) ?_
  refine r_istore_n hC dX6_sumOf_31 rfl ?_
  refine r_iincE hC (3) dX6_sumOf_32 rfl rfl rfl (inR_lit rfl) ?_
  refine r_goto (tgt := 4) hC dX6_sumOf_35 rfl ?_
  refine r_iload_n hC dX6_sumOf_4 rfl ?_
  refine r_iconst hC dX6_sumOf_5 rfl ?_
  refine r_icmp_ge (tgt := 38) hC dX6_sumOf_6 rfl (fun h10 => by omega) (fun h10 => ?_)
  refine r_iload_n hC dX6_sumOf_9 rfl ?_
  refine r_aload_n hC dX6_sumOf_10 rfl ?_
  refine r_iload_n hC dX6_sumOf_11 rfl ?_
  refine r_iconst hC dX6_sumOf_12 rfl ?_
  refine m_inv2 hM dX6_sumOf_13 vl_RX6_80 rfl rfl rfl (Nat.le_of_ble_eq_true rfl) (Nat.le_of_ble_eq_true rfl) ?_
  refine m_of0 hR (by omega) (by omega) ?_
  refine r_iconst hC dX6_sumOf_16 rfl ?_
  refine r_icmp_ne (tgt := 29) hC dX6_sumOf_17 rfl (fun h12 => ?_) (fun h12 => by omega)
  refine r_iconst hC dX6_sumOf_29 rfl ?_
  refine r_iaddE hC (0) dX6_sumOf_30 rfl (inR_lit rfl) ?_
  refine r_istore_n hC dX6_sumOf_31 rfl ?_
  show K _ [_, _, _, _] _ _
  refine r_iincE hC (4) dX6_sumOf_32 rfl rfl rfl (inR_lit rfl) ?_
  refine r_goto (tgt := 4) hC dX6_sumOf_35 rfl ?_
  refine r_iload_n hC dX6_sumOf_4 rfl ?_
  refine r_iconst hC dX6_sumOf_5 rfl ?_
  refine r_icmp_ge (tgt := 38) hC dX6_sumOf_6 rfl (fun h13 => ?_) (fun h13 => by omega)
  refine r_iload_n hC dX6_sumOf_38 rfl ?_
  refine t_iret hK rfl dX6_sumOf_39 ?_
  exact k
theorem m_boxesNow0 {d : Nat} {Post : Option Vl → Mm → Prop} {τ : Mm}  (hR : FrR τ) (k : Post (some (vI (0))) τ) : WP (d + 2) 257 [vR 30 0] τ Post := by
  intro K hK
  have hK : StpF cX6_boxesNow RX6 (some .int) (WP (d + 1)) Post K := hK
  have hM := hK.1
  have hC := hK.1.1
  show K 0 [some (vR 30 0), none, none] [] τ
  refine r_iconst hC dX6_boxesNow_0 rfl ?_
  refine r_istore_n hC dX6_boxesNow_1 rfl ?_
  refine r_iconst hC dX6_boxesNow_2 rfl ?_
  refine r_istore_n hC dX6_boxesNow_3 rfl ?_
  refine r_iload_n hC dX6_boxesNow_4 rfl ?_
  refine r_iconst hC dX6_boxesNow_5 rfl ?_
  refine r_icmp_ge (tgt := 26) hC dX6_boxesNow_6 rfl (fun h1 => by omega) (fun h1 => ?_)
  refine r_iload_n hC dX6_boxesNow_9 rfl ?_
  refine r_aload_n hC dX6_boxesNow_10 rfl ?_
  refine r_iconst hC dX6_boxesNow_11 rfl ?_
  refine r_iload_n hC dX6_boxesNow_12 rfl ?_
  refine r_iaddE hC (4) dX6_boxesNow_13 rfl (inR_lit rfl) ?_
  refine r_iconst hC dX6_boxesNow_14 rfl ?_
  refine m_inv2 hM dX6_boxesNow_15 vl_RX6_80 rfl rfl rfl (Nat.le_of_ble_eq_true rfl) (Nat.le_of_ble_eq_true rfl) ?_
  refine m_of0 hR (by omega) (by omega) ?_
  refine r_iaddE hC (0) dX6_boxesNow_18 rfl (inR_lit rfl) ?_
  refine r_istore_n hC dX6_boxesNow_19 rfl ?_
  show K _ [_, _, _] _ _
  refine r_iincE hC (1) dX6_boxesNow_20 rfl rfl rfl (inR_lit rfl) ?_
  refine r_goto (tgt := 4) hC dX6_boxesNow_23 rfl ?_
  refine r_iload_n hC dX6_boxesNow_4 rfl ?_
  refine r_iconst hC dX6_boxesNow_5 rfl ?_
  refine r_icmp_ge (tgt := 26) hC dX6_boxesNow_6 rfl (fun h3 => by omega) (fun h3 => ?_)
  refine r_iload_n hC dX6_boxesNow_9 rfl ?_
  refine r_aload_n hC dX6_boxesNow_10 rfl ?_
  refine r_iconst hC dX6_boxesNow_11 rfl ?_
  refine r_iload_n hC dX6_boxesNow_12 rfl ?_
  refine r_iaddE hC (5) dX6_boxesNow_13 rfl (inR_lit rfl) ?_
  refine r_iconst hC dX6_boxesNow_14 rfl ?_
  refine m_inv2 hM dX6_boxesNow_15 vl_RX6_80 rfl rfl rfl (Nat.le_of_ble_eq_true rfl) (Nat.le_of_ble_eq_true rfl) ?_
  refine m_of0 hR (by omega) (by omega) ?_
  refine r_iaddE hC (0) dX6_boxesNow_18 rfl (inR_lit rfl) ?_
  refine r_istore_n hC dX6_boxesNow_19 rfl ?_
  refine r_iincE hC (2) dX6_boxesNow_20 rfl rfl rfl (inR_lit rfl) ?_
  show K _ [_, _, _] _ _
  refine r_goto (tgt := 4) hC dX6_boxesNow_23 rfl ?_
  refine r_iload_n hC dX6_boxesNow_4 rfl ?_
  refine r_iconst hC dX6_boxesNow_5 rfl ?_
  refine r_icmp_ge (tgt := 26) hC dX6_boxesNow_6 rfl (fun h5 => by omega) (fun h5 => ?_)
  refine r_iload_n hC dX6_boxesNow_9 rfl ?_
  refine r_aload_n hC dX6_boxesNow_10 rfl ?_
  refine r_iconst hC dX6_boxesNow_11 rfl ?_
  refine r_iload_n hC dX6_boxesNow_12 rfl ?_
  refine r_iaddE hC (6) dX6_boxesNow_13 rfl (inR_lit rfl) ?_
  refine r_iconst hC dX6_boxesNow_14 rfl ?_
  refine m_inv2 hM dX6_boxesNow_15 vl_RX6_80 rfl rfl rfl (Nat.le_of_ble_eq_true rfl) (Nat.le_of_ble_eq_true rfl) ?_
  refine m_of0 hR (by omega) (by omega) ?_
  refine r_iaddE hC (0) dX6_boxesNow_18 rfl (inR_lit rfl) ?_
  refine r_istore_n hC dX6_boxesNow_19 rfl ?_
  refine r_iincE hC (3) dX6_boxesNow_20 rfl rfl rfl (inR_lit rfl) ?_
  refine r_goto (tgt := 4) hC dX6_boxesNow_23 rfl ?_
  refine r_iload_n hC dX6_boxesNow_4 rfl ?_
  refine r_iconst hC dX6_boxesNow_5 rfl ?_
  refine r_icmp_ge (tgt := 26) hC dX6_boxesNow_6 rfl (fun h7 => ?_) (fun h7 => by omega)
  refine r_iload_n hC dX6_boxesNow_26 rfl ?_
  refine t_iret hK rfl dX6_boxesNow_27 ?_
  exact k
theorem m_toldNow0 {d : Nat} {Post : Option Vl → Mm → Prop} {τ : Mm} {z : Int} (hR : FrR τ) (k : Post (some (vI (0))) τ) : WP (d + 3) 258 [vR 30 0, vI z] τ Post := by
  intro K hK
  have hK : StpF cX6_toldNow RX6 (some .int) (WP (d + 2)) Post K := hK
  have hM := hK.1
  have hC := hK.1.1
  show K 0 [some (vR 30 0), some (vI z), none, none] [] τ
  refine r_iconst hC dX6_toldNow_0 rfl ?_
  refine r_istore_n hC dX6_toldNow_1 rfl ?_
  refine r_iconst hC dX6_toldNow_2 rfl ?_
  refine r_istore_n hC dX6_toldNow_3 rfl ?_
  refine r_iload_n hC dX6_toldNow_4 rfl ?_
  refine r_bipush hC dX6_toldNow_5 rfl ?_
  refine r_icmp_ge (tgt := 41) hC dX6_toldNow_7 rfl (fun h1 => by omega) (fun h1 => ?_)
  refine r_aload_n hC dX6_toldNow_10 rfl ?_
  refine r_iload_n hC dX6_toldNow_11 rfl ?_
  refine m_inv1 hM dX6_toldNow_12 vl_RX6_210 rfl rfl rfl (Nat.le_of_ble_eq_true rfl) (Nat.le_of_ble_eq_true rfl) ?_
  refine m_isTold0 hR ?_
  refine r_if_eq (tgt := 35) hC dX6_toldNow_15 rfl (fun h3 => ?_) (fun h3 => by omega)
  refine r_iincE hC (1) dX6_toldNow_35 rfl rfl rfl (inR_lit rfl) ?_
  show K _ [_, _, _, _] _ _
  refine r_goto (tgt := 4) hC dX6_toldNow_38 rfl ?_
  refine r_iload_n hC dX6_toldNow_4 rfl ?_
  refine r_bipush hC dX6_toldNow_5 rfl ?_
  refine r_icmp_ge (tgt := 41) hC dX6_toldNow_7 rfl (fun h4 => by omega) (fun h4 => ?_)
  refine r_aload_n hC dX6_toldNow_10 rfl ?_
  refine r_iload_n hC dX6_toldNow_11 rfl ?_
  refine m_inv1 hM dX6_toldNow_12 vl_RX6_210 rfl rfl rfl (Nat.le_of_ble_eq_true rfl) (Nat.le_of_ble_eq_true rfl) ?_
  refine m_isTold0 hR ?_
  refine r_if_eq (tgt := 35) hC dX6_toldNow_15 rfl (fun h6 => ?_) (fun h6 => by omega)
  refine r_iincE hC (2) dX6_toldNow_35 rfl rfl rfl (inR_lit rfl) ?_
  refine r_goto (tgt := 4) hC dX6_toldNow_38 rfl ?_
  refine r_iload_n hC dX6_toldNow_4 rfl ?_
  refine r_bipush hC dX6_toldNow_5 rfl ?_
  refine r_icmp_ge (tgt := 41) hC dX6_toldNow_7 rfl (fun h7 => by omega) (fun h7 => ?_)
  refine r_aload_n hC dX6_toldNow_10 rfl ?_
  refine r_iload_n hC dX6_toldNow_11 rfl ?_
  refine m_inv1 hM dX6_toldNow_12 vl_RX6_210 rfl rfl rfl (Nat.le_of_ble_eq_true rfl) (Nat.le_of_ble_eq_true rfl) ?_
  refine m_isTold0 hR ?_
  refine r_if_eq (tgt := 35) hC dX6_toldNow_15 rfl (fun h9 => ?_) (fun h9 => by omega)
  refine r_iincE hC (3) dX6_toldNow_35 rfl rfl rfl (inR_lit rfl) ?_
  refine r_goto (tgt := 4) hC dX6_toldNow_38 rfl ?_
  refine r_iload_n hC dX6_toldNow_4 rfl ?_
  refine r_bipush hC dX6_toldNow_5 rfl ?_
  refine r_icmp_ge (tgt := 41) hC dX6_toldNow_7 rfl (fun h10 => by omega) (fun h10 => ?_)
  refine r_aload_n hC dX6_toldNow_10 rfl ?_
  refine r_iload_n hC dX6_toldNow_11 rfl ?_
  refine m_inv1 hM dX6_toldNow_12 vl_RX6_210 rfl rfl rfl (Nat.le_of_ble_eq_true rfl) (Nat.le_of_ble_eq_true rfl) ?_
  refine m_isTold0 hR ?_
  refine r_if_eq (tgt := 35) hC dX6_toldNow_15 rfl (fun h12 => ?_) (fun h12 => by omega)
  refine r_iincE hC (4) dX6_toldNow_35 rfl rfl rfl (inR_lit rfl) ?_
  show K _ [_, _, _, _] _ _
  refine r_goto (tgt := 4) hC dX6_toldNow_38 rfl ?_
  refine r_iload_n hC dX6_toldNow_4 rfl ?_
  refine r_bipush hC dX6_toldNow_5 rfl ?_
  refine r_icmp_ge (tgt := 41) hC dX6_toldNow_7 rfl (fun h13 => by omega) (fun h13 => ?_)
  refine r_aload_n hC dX6_toldNow_10 rfl ?_
  refine r_iload_n hC dX6_toldNow_11 rfl ?_
  refine m_inv1 hM dX6_toldNow_12 vl_RX6_210 rfl rfl rfl (Nat.le_of_ble_eq_true rfl) (Nat.le_of_ble_eq_true rfl) ?_
  refine m_isTold0 hR ?_
  refine r_if_eq (tgt := 35) hC dX6_toldNow_15 rfl (fun h15 => ?_) (fun h15 => by omega)
  refine r_iincE hC (5) dX6_toldNow_35 rfl rfl rfl (inR_lit rfl) ?_
  refine r_goto (tgt := 4) hC dX6_toldNow_38 rfl ?_
  refine r_iload_n hC dX6_toldNow_4 rfl ?_
  refine r_bipush hC dX6_toldNow_5 rfl ?_
  refine r_icmp_ge (tgt := 41) hC dX6_toldNow_7 rfl (fun h16 => by omega) (fun h16 => ?_)
  refine r_aload_n hC dX6_toldNow_10 rfl ?_
  refine r_iload_n hC dX6_toldNow_11 rfl ?_
  refine m_inv1 hM dX6_toldNow_12 vl_RX6_210 rfl rfl rfl (Nat.le_of_ble_eq_true rfl) (Nat.le_of_ble_eq_true rfl) ?_
  refine m_isTold0 hR ?_
  refine r_if_eq (tgt := 35) hC dX6_toldNow_15 rfl (fun h18 => ?_) (fun h18 => by omega)
  refine r_iincE hC (6) dX6_toldNow_35 rfl rfl rfl (inR_lit rfl) ?_
  refine r_goto (tgt := 4) hC dX6_toldNow_38 rfl ?_
  refine r_iload_n hC dX6_toldNow_4 rfl ?_
  refine r_bipush hC dX6_toldNow_5 rfl ?_
  refine r_icmp_ge (tgt := 41) hC dX6_toldNow_7 rfl (fun h19 => by omega) (fun h19 => ?_)
  refine r_aload_n hC dX6_toldNow_10 rfl ?_
  refine r_iload_n hC dX6_toldNow_11 rfl ?_
  refine m_inv1 hM dX6_toldNow_12 vl_RX6_210 rfl rfl rfl (Nat.le_of_ble_eq_true rfl) (Nat.le_of_ble_eq_true rfl) ?_
  refine m_isTold0 hR ?_
  refine r_if_eq (tgt := 35) hC dX6_toldNow_15 rfl (fun h21 => ?_) (fun h21 => by omega)
  refine r_iincE hC (7) dX6_toldNow_35 rfl rfl rfl (inR_lit rfl) ?_
  show K _ [_, _, _, _] _ _
  refine r_goto (tgt := 4) hC dX6_toldNow_38 rfl ?_
  refine r_iload_n hC dX6_toldNow_4 rfl ?_
  refine r_bipush hC dX6_toldNow_5 rfl ?_
  refine r_icmp_ge (tgt := 41) hC dX6_toldNow_7 rfl (fun h22 => by omega) (fun h22 => ?_)
  refine r_aload_n hC dX6_toldNow_10 rfl ?_
  refine r_iload_n hC dX6_toldNow_11 rfl ?_
  refine m_inv1 hM dX6_toldNow_12 vl_RX6_210 rfl rfl rfl (Nat.le_of_ble_eq_true rfl) (Nat.le_of_ble_eq_true rfl) ?_
  refine m_isTold0 hR ?_
  refine r_if_eq (tgt := 35) hC dX6_toldNow_15 rfl (fun h24 => ?_) (fun h24 => by omega)
  refine r_iincE hC (8) dX6_toldNow_35 rfl rfl rfl (inR_lit rfl) ?_
  refine r_goto (tgt := 4) hC dX6_toldNow_38 rfl ?_
  refine r_iload_n hC dX6_toldNow_4 rfl ?_
  refine r_bipush hC dX6_toldNow_5 rfl ?_
  refine r_icmp_ge (tgt := 41) hC dX6_toldNow_7 rfl (fun h25 => ?_) (fun h25 => by omega)
  refine r_iload_n hC dX6_toldNow_41 rfl ?_
  refine t_iret hK rfl dX6_toldNow_42 ?_
  exact k
theorem m_linksNow0 {d : Nat} {Post : Option Vl → Mm → Prop} {τ : Mm}  (hR : FrR τ) (k : Post (some (vI (0))) τ) : WP (d + 1) 259 [vR 30 0] τ Post := by
  intro K hK
  have hK : StpF cX6_linksNow RX6 (some .int) (WP (d + 0)) Post K := hK
  have hM := hK.1
  have hC := hK.1.1
  show K 0 [some (vR 30 0), none, none] [] τ
  refine r_iconst hC dX6_linksNow_0 rfl ?_
  refine r_istore_n hC dX6_linksNow_1 rfl ?_
  refine r_iconst hC dX6_linksNow_2 rfl ?_
  refine r_istore_n hC dX6_linksNow_3 rfl ?_
  refine r_iload_n hC dX6_linksNow_4 rfl ?_
  refine r_iconst hC dX6_linksNow_5 rfl ?_
  refine r_icmp_ge (tgt := 32) hC dX6_linksNow_6 rfl (fun h1 => by omega) (fun h1 => ?_)
  refine r_iload_n hC dX6_linksNow_9 rfl ?_
  refine r_aload_n hC dX6_linksNow_10 rfl ?_
  refine m_getR hM dX6_linksNow_11 fl_RX6_52 rfl rfl (vld_of (n := 1) rfl (by omega) (by omega)) ?_
  refine r_iload_n hC dX6_linksNow_14 rfl ?_
  refine m_iald hM dX6_linksNow_15 rfl (by omega) (by omega) ?_
  have e1 := hR.2.2.2 (0) (by decide) (by decide)
  refine r_if_lt (tgt := 23) hC dX6_linksNow_16 rfl (fun h2 => ?_) (fun h2 => by omega)
  refine r_iconst hC dX6_linksNow_23 rfl ?_
  refine r_iaddE hC (0) dX6_linksNow_24 rfl (inR_lit rfl) ?_
  refine r_istore_n hC dX6_linksNow_25 rfl ?_
  show K _ [_, _, _] _ _
  refine r_iincE hC (1) dX6_linksNow_26 rfl rfl rfl (inR_lit rfl) ?_
  refine r_goto (tgt := 4) hC dX6_linksNow_29 rfl ?_
  refine r_iload_n hC dX6_linksNow_4 rfl ?_
  refine r_iconst hC dX6_linksNow_5 rfl ?_
  refine r_icmp_ge (tgt := 32) hC dX6_linksNow_6 rfl (fun h3 => by omega) (fun h3 => ?_)
  refine r_iload_n hC dX6_linksNow_9 rfl ?_
  refine r_aload_n hC dX6_linksNow_10 rfl ?_
  refine m_getR hM dX6_linksNow_11 fl_RX6_52 rfl rfl (vld_of (n := 1) rfl (by omega) (by omega)) ?_
  refine r_iload_n hC dX6_linksNow_14 rfl ?_
  refine m_iald hM dX6_linksNow_15 rfl (by omega) (by omega) ?_
  have e1 := hR.2.2.2 (1) (by decide) (by decide)
  refine r_if_lt (tgt := 23) hC dX6_linksNow_16 rfl (fun h4 => ?_) (fun h4 => by omega)
  refine r_iconst hC dX6_linksNow_23 rfl ?_
  refine r_iaddE hC (0) dX6_linksNow_24 rfl (inR_lit rfl) ?_
  refine r_istore_n hC dX6_linksNow_25 rfl ?_
  refine r_iincE hC (2) dX6_linksNow_26 rfl rfl rfl (inR_lit rfl) ?_
  show K _ [_, _, _] _ _
  refine r_goto (tgt := 4) hC dX6_linksNow_29 rfl ?_
  refine r_iload_n hC dX6_linksNow_4 rfl ?_
  refine r_iconst hC dX6_linksNow_5 rfl ?_
  refine r_icmp_ge (tgt := 32) hC dX6_linksNow_6 rfl (fun h5 => by omega) (fun h5 => ?_)
  refine r_iload_n hC dX6_linksNow_9 rfl ?_
  refine r_aload_n hC dX6_linksNow_10 rfl ?_
  refine m_getR hM dX6_linksNow_11 fl_RX6_52 rfl rfl (vld_of (n := 1) rfl (by omega) (by omega)) ?_
  refine r_iload_n hC dX6_linksNow_14 rfl ?_
  refine m_iald hM dX6_linksNow_15 rfl (by omega) (by omega) ?_
  have e1 := hR.2.2.2 (2) (by decide) (by decide)
  refine r_if_lt (tgt := 23) hC dX6_linksNow_16 rfl (fun h6 => ?_) (fun h6 => by omega)
  refine r_iconst hC dX6_linksNow_23 rfl ?_
  refine r_iaddE hC (0) dX6_linksNow_24 rfl (inR_lit rfl) ?_
  refine r_istore_n hC dX6_linksNow_25 rfl ?_
  refine r_iincE hC (3) dX6_linksNow_26 rfl rfl rfl (inR_lit rfl) ?_
  refine r_goto (tgt := 4) hC dX6_linksNow_29 rfl ?_
  refine r_iload_n hC dX6_linksNow_4 rfl ?_
  refine r_iconst hC dX6_linksNow_5 rfl ?_
  refine r_icmp_ge (tgt := 32) hC dX6_linksNow_6 rfl (fun h7 => by omega) (fun h7 => ?_)
  refine r_iload_n hC dX6_linksNow_9 rfl ?_
  refine r_aload_n hC dX6_linksNow_10 rfl ?_
  refine m_getR hM dX6_linksNow_11 fl_RX6_52 rfl rfl (vld_of (n := 1) rfl (by omega) (by omega)) ?_
  refine r_iload_n hC dX6_linksNow_14 rfl ?_
  refine m_iald hM dX6_linksNow_15 rfl (by omega) (by omega) ?_
  have e1 := hR.2.2.2 (3) (by decide) (by decide)
  refine r_if_lt (tgt := 23) hC dX6_linksNow_16 rfl (fun h8 => ?_) (fun h8 => by omega)
  refine r_iconst hC dX6_linksNow_23 rfl ?_
  refine r_iaddE hC (0) dX6_linksNow_24 rfl (inR_lit rfl) ?_
  refine r_istore_n hC dX6_linksNow_25 rfl ?_
  show K _ [_, _, _] _ _
  refine r_iincE hC (4) dX6_linksNow_26 rfl rfl rfl (inR_lit rfl) ?_
  refine r_goto (tgt := 4) hC dX6_linksNow_29 rfl ?_
  refine r_iload_n hC dX6_linksNow_4 rfl ?_
  refine r_iconst hC dX6_linksNow_5 rfl ?_
  refine r_icmp_ge (tgt := 32) hC dX6_linksNow_6 rfl (fun h9 => ?_) (fun h9 => by omega)
  refine r_iload_n hC dX6_linksNow_32 rfl ?_
  refine t_iret hK rfl dX6_linksNow_33 ?_
  exact k
theorem d0_about {d : Nat} {Post : Option Vl → Mm → Prop} {τ : Mm} {w : Int} (hR : FrR τ) (k : ∀ r : Int, ((0 ≤ w ∧ w ≤ 6) ∧ r = 0) ∨ (¬ (0 ≤ w ∧ w ≤ 6) ∧ r = -1) → Post (some (vI r)) τ) : WP (d + 4) 260 [vR 30 0, vI w] τ Post := by
  intro K hK
  have hK : StpF cX6_about RX6 (some .int) (WP (d + 3)) Post K := hK
  have hM := hK.1
  have hC := hK.1.1
  show K 0 [some (vR 30 0), some (vI w)] [] τ
  refine r_iload_n hC dX6_about_0 rfl ?_
  rcases (by omega : (w < 0 ∨ 6 < w) ∨ w = 0 ∨ w = 1 ∨ w = 2 ∨ w = 3 ∨ w = 4 ∨ w = 5 ∨ w = 6) with h1 | h1 | h1 | h1 | h1 | h1 | h1 | h1
  · refine r_tableOut (tgt := 84) hC dX6_about_1 h1 rfl ?_
    refine r_iconst hC dX6_about_84 rfl ?_
    refine t_iret hK rfl dX6_about_85 ?_
    exact k _ (by omega)
  · refine r_tableIn (tgt := 44) (off := 43) hC dX6_about_1 (by omega) (by omega) (by rw [h1]; rfl) rfl ?_
    refine r_aload_n hC dX6_about_44 rfl ?_
    refine m_inv0 hM dX6_about_45 vl_RX6_182 rfl rfl rfl (Nat.le_of_ble_eq_true rfl) (Nat.le_of_ble_eq_true rfl) ?_
    refine m_openLanes0 hR ?_
    refine t_iret hK rfl dX6_about_48 ?_
    exact k _ (by omega)
  · refine r_tableIn (tgt := 49) (off := 48) hC dX6_about_1 (by omega) (by omega) (by rw [h1]; rfl) rfl ?_
    refine r_aload_n hC dX6_about_49 rfl ?_
    refine r_iconst hC dX6_about_50 rfl ?_
    refine m_inv1 hM dX6_about_51 vl_RX6_307 rfl rfl rfl (Nat.le_of_ble_eq_true rfl) (Nat.le_of_ble_eq_true rfl) ?_
    refine m_sumOf0 hR (by omega) ?_
    refine t_iret hK rfl dX6_about_54 ?_
    exact k _ (by omega)
  · refine r_tableIn (tgt := 55) (off := 54) hC dX6_about_1 (by omega) (by omega) (by rw [h1]; rfl) rfl ?_
    refine r_aload_n hC dX6_about_55 rfl ?_
    refine r_bipush hC dX6_about_56 rfl ?_
    refine m_inv1 hM dX6_about_58 vl_RX6_307 rfl rfl rfl (Nat.le_of_ble_eq_true rfl) (Nat.le_of_ble_eq_true rfl) ?_
    refine m_sumOf0 hR (by omega) ?_
    refine t_iret hK rfl dX6_about_61 ?_
    exact k _ (by omega)
  · refine r_tableIn (tgt := 62) (off := 61) hC dX6_about_1 (by omega) (by omega) (by rw [h1]; rfl) rfl ?_
    refine r_aload_n hC dX6_about_62 rfl ?_
    refine r_iconst hC dX6_about_63 rfl ?_
    refine m_inv1 hM dX6_about_64 vl_RX6_310 rfl rfl rfl (Nat.le_of_ble_eq_true rfl) (Nat.le_of_ble_eq_true rfl) ?_
    refine m_toldNow0 hR ?_
    refine t_iret hK rfl dX6_about_67 ?_
    exact k _ (by omega)
  · refine r_tableIn (tgt := 68) (off := 67) hC dX6_about_1 (by omega) (by omega) (by rw [h1]; rfl) rfl ?_
    refine r_aload_n hC dX6_about_68 rfl ?_
    refine m_inv0 hM dX6_about_69 vl_RX6_314 rfl rfl rfl (Nat.le_of_ble_eq_true rfl) (Nat.le_of_ble_eq_true rfl) ?_
    refine m_boxesNow0 hR ?_
    refine t_iret hK rfl dX6_about_72 ?_
    exact k _ (by omega)
  · refine r_tableIn (tgt := 73) (off := 72) hC dX6_about_1 (by omega) (by omega) (by rw [h1]; rfl) rfl ?_
    refine r_aload_n hC dX6_about_73 rfl ?_
    refine r_iconst hC dX6_about_74 rfl ?_
    refine m_inv1 hM dX6_about_75 vl_RX6_310 rfl rfl rfl (Nat.le_of_ble_eq_true rfl) (Nat.le_of_ble_eq_true rfl) ?_
    refine m_toldNow0 hR ?_
    refine t_iret hK rfl dX6_about_78 ?_
    exact k _ (by omega)
  · refine r_tableIn (tgt := 79) (off := 78) hC dX6_about_1 (by omega) (by omega) (by rw [h1]; rfl) rfl ?_
    refine r_aload_n hC dX6_about_79 rfl ?_
    refine m_inv0 hM dX6_about_80 vl_RX6_317 rfl rfl rfl (Nat.le_of_ble_eq_true rfl) (Nat.le_of_ble_eq_true rfl) ?_
    refine m_linksNow0 hR ?_
    refine t_iret hK rfl dX6_about_83 ?_
    exact k _ (by omega)
theorem d0_table {d : Nat} {Post : Option Vl → Mm → Prop} {τ : Mm} {c e : Int} (hR : FrR τ) (k : ∀ (r : Int) (τ2 : Mm), (((0 ≤ c ∧ c ≤ 15) ∧ (0 ≤ e ∧ e ≤ 3)) ∧ r = 1) ∨ (¬ ((0 ≤ c ∧ c ≤ 15) ∧ (0 ≤ e ∧ e ≤ 3)) ∧ r = 0) → Post (some (vI r)) τ2) : WP (d + 3) 143 [vR 30 0, vI c, vI e] τ Post := by
  intro K hK
  have hK : StpF cX6_table RX6 (some .boolean) (WP (d + 2)) Post K := hK
  have hM := hK.1
  have hC := hK.1.1
  show K 0 [some (vR 30 0), some (vI c), some (vI e)] [] τ
  refine r_iload_n hC dX6_table_0 rfl ?_
  refine r_iconst hC dX6_table_1 rfl ?_
  refine r_bipush hC dX6_table_2 rfl ?_
  refine m_ins3 hM dX6_table_4 tl_RX6_76 rfl (Nat.le_of_ble_eq_true rfl) (Nat.le_of_ble_eq_true rfl) ?_
  refine m_isIn (fun rh1 h1 => ?_)
  refine r_if_eq (tgt := 28) hC dX6_table_7 rfl (fun h2 => ?_) (fun h2 => ?_)
  · refine r_iconst hC dX6_table_28 rfl ?_
    refine t_zret hK rfl dX6_table_29 (by omega) ?_
    exact k _ _ (by omega)
  · refine r_iload_n hC dX6_table_10 rfl ?_
    refine r_iconst hC dX6_table_11 rfl ?_
    refine r_iconst hC dX6_table_12 rfl ?_
    refine m_ins3 hM dX6_table_13 tl_RX6_76 rfl (Nat.le_of_ble_eq_true rfl) (Nat.le_of_ble_eq_true rfl) ?_
    refine m_isIn (fun rh3 h3 => ?_)
    refine r_if_eq (tgt := 28) hC dX6_table_16 rfl (fun h4 => ?_) (fun h4 => ?_)
    · refine r_iconst hC dX6_table_28 rfl ?_
      refine t_zret hK rfl dX6_table_29 (by omega) ?_
      exact k _ _ (by omega)
    · refine r_aload_n hC dX6_table_19 rfl ?_
      refine r_bipush hC dX6_table_20 rfl ?_
      refine m_inv1 hM dX6_table_22 vl_RX6_84 rfl rfl rfl (Nat.le_of_ble_eq_true rfl) (Nat.le_of_ble_eq_true rfl) ?_
      refine m_isUsed0 hR ?_
      refine r_if_eq (tgt := 30) hC dX6_table_25 rfl (fun h6 => ?_) (fun h6 => by omega)
      refine r_aload_n hC dX6_table_30 rfl ?_
      refine m_getR hM dX6_table_31 fl_RX6_22 rfl rfl (vld_of (n := 1) rfl (by omega) (by omega)) ?_
      refine r_iload_n hC dX6_table_34 rfl ?_
      refine r_iload_n hC dX6_table_35 rfl ?_
      refine m_iast hM dX6_table_36 rfl (by omega) (by omega) ?_
      refine r_iconst hC dX6_table_37 rfl ?_
      refine t_zret hK rfl dX6_table_38 (by omega) ?_
      exact k _ _ (by omega)
theorem d0_letter {d : Nat} {Post : Option Vl → Mm → Prop} {τ : Mm} {c e : Int} (hR : FrR τ) (k : ∀ (r : Int) (τ2 : Mm), (((0 ≤ c ∧ c ≤ 7) ∧ (0 ≤ e ∧ e ≤ 255)) ∧ r = 1) ∨ (¬ ((0 ≤ c ∧ c ≤ 7) ∧ (0 ≤ e ∧ e ≤ 255)) ∧ r = 0) → Post (some (vI r)) τ2) : WP (d + 3) 144 [vR 30 0, vI c, vI e] τ Post := by
  intro K hK
  have hK : StpF cX6_letter RX6 (some .boolean) (WP (d + 2)) Post K := hK
  have hM := hK.1
  have hC := hK.1.1
  show K 0 [some (vR 30 0), some (vI c), some (vI e)] [] τ
  refine r_iload_n hC dX6_letter_0 rfl ?_
  refine r_iconst hC dX6_letter_1 rfl ?_
  refine r_bipush hC dX6_letter_2 rfl ?_
  refine m_ins3 hM dX6_letter_4 tl_RX6_76 rfl (Nat.le_of_ble_eq_true rfl) (Nat.le_of_ble_eq_true rfl) ?_
  refine m_isIn (fun rh1 h1 => ?_)
  refine r_if_eq (tgt := 29) hC dX6_letter_7 rfl (fun h2 => ?_) (fun h2 => ?_)
  · refine r_iconst hC dX6_letter_29 rfl ?_
    refine t_zret hK rfl dX6_letter_30 (by omega) ?_
    exact k _ _ (by omega)
  · refine r_iload_n hC dX6_letter_10 rfl ?_
    refine r_iconst hC dX6_letter_11 rfl ?_
    refine r_sipush hC dX6_letter_12 rfl ?_
    refine m_ins3 hM dX6_letter_15 tl_RX6_76 rfl (Nat.le_of_ble_eq_true rfl) (Nat.le_of_ble_eq_true rfl) ?_
    refine m_isIn (fun rh3 h3 => ?_)
    refine r_if_eq (tgt := 29) hC dX6_letter_18 rfl (fun h4 => ?_) (fun h4 => ?_)
    · refine r_iconst hC dX6_letter_29 rfl ?_
      refine t_zret hK rfl dX6_letter_30 (by omega) ?_
      exact k _ _ (by omega)
    · refine r_aload_n hC dX6_letter_21 rfl ?_
      refine r_iconst hC dX6_letter_22 rfl ?_
      refine m_inv1 hM dX6_letter_23 vl_RX6_84 rfl rfl rfl (Nat.le_of_ble_eq_true rfl) (Nat.le_of_ble_eq_true rfl) ?_
      refine m_isUsed0 hR ?_
      refine r_if_eq (tgt := 31) hC dX6_letter_26 rfl (fun h6 => ?_) (fun h6 => by omega)
      refine r_aload_n hC dX6_letter_31 rfl ?_
      refine m_getR hM dX6_letter_32 fl_RX6_25 rfl rfl (vld_of (n := 1) rfl (by omega) (by omega)) ?_
      refine r_iload_n hC dX6_letter_35 rfl ?_
      refine r_iload_n hC dX6_letter_36 rfl ?_
      refine m_iast hM dX6_letter_37 rfl (by omega) (by omega) ?_
      refine r_iconst hC dX6_letter_38 rfl ?_
      refine t_zret hK rfl dX6_letter_39 (by omega) ?_
      exact k _ _ (by omega)
theorem m_product0 {d : Nat} {Post : Option Vl → Mm → Prop} {τ : Mm} {x y : Int} (hR : FrR τ) (hx : 0 ≤ x ∧ x < 4) (hy : 0 ≤ y ∧ y < 4) (k : Post (some (vI 0)) τ) : WP (d + 1) 145 [vR 30 0, vI x, vI y] τ Post := by
  intro K hK
  have hK : StpF cX6_product RX6 (some .int) (WP (d + 0)) Post K := hK
  have hM := hK.1
  have hC := hK.1.1
  show K 0 [some (vR 30 0), some (vI x), some (vI y)] [] τ
  refine r_aload_n hC dX6_product_0 rfl ?_
  refine m_getR hM dX6_product_1 fl_RX6_22 rfl rfl (vld_of (n := 1) rfl (by omega) (by omega)) ?_
  refine r_iconst hC dX6_product_4 rfl ?_
  refine r_iload_n hC dX6_product_5 rfl ?_
  refine r_imulS hC dX6_product_6 (by unfold inR; omega) ?_
  refine r_iload_n hC dX6_product_7 rfl ?_
  refine r_iaddS hC dX6_product_8 (by unfold inR; omega) ?_
  refine m_iald hM dX6_product_9 rfl (by omega) (by omega) ?_
  refine t_iret hK rfl dX6_product_10 ?_
  exact post_of (hR.2.1 (4 * x + y) (by omega) (by omega)) k
theorem m_associates0 {d : Nat} {Post : Option Vl → Mm → Prop} {τ : Mm} {t : Int} (hR : FrR τ) (h0 : 0 ≤ t) (h1 : t < 64) (k : Post (some (vI 1)) τ) : WP (d + 2) 146 [vR 30 0, vI t] τ Post := by
  intro K hK
  have hK : StpF cX6_associates RX6 (some .boolean) (WP (d + 1)) Post K := hK
  have hM := hK.1
  have hC := hK.1.1
  show K 0 [some (vR 30 0), some (vI t), none, none, none] [] τ
  refine r_iload_n hC dX6_associates_0 rfl ?_
  refine r_bipush hC dX6_associates_1 rfl ?_
  refine r_idiv hC dX6_associates_3 (by omega) ?_
  refine r_istore_n hC dX6_associates_4 rfl ?_
  refine r_iload_n hC dX6_associates_5 rfl ?_
  refine r_iconst hC dX6_associates_6 rfl ?_
  refine r_idiv hC dX6_associates_7 (by omega) ?_
  refine r_iconst hC dX6_associates_8 rfl ?_
  refine r_irem hC dX6_associates_9 (by omega) ?_
  refine r_istore_n hC dX6_associates_10 rfl ?_
  refine r_iload_n hC dX6_associates_11 rfl ?_
  refine r_iconst hC dX6_associates_12 rfl ?_
  refine r_irem hC dX6_associates_13 (by omega) ?_
  refine r_istore hC dX6_associates_14 rfl ?_
  show K _ [_, _, _, _, _] _ _
  have d1 := Int.tdiv_eq_ediv_of_nonneg (a := t) (b := 16) h0
  have d2 := Int.tdiv_eq_ediv_of_nonneg (a := t) (b := 4) h0
  have d3 := Int.tmod_eq_emod_of_nonneg (a := t.tdiv 4) (b := 4) (by omega)
  have d4 := Int.tmod_eq_emod_of_nonneg (a := t) (b := 4) h0
  refine r_aload_n hC dX6_associates_16 rfl ?_
  refine r_aload_n hC dX6_associates_17 rfl ?_
  refine r_iload_n hC dX6_associates_18 rfl ?_
  refine r_iload_n hC dX6_associates_19 rfl ?_
  refine m_inv2 hM dX6_associates_20 vl_RX6_88 rfl rfl rfl (Nat.le_of_ble_eq_true rfl) (Nat.le_of_ble_eq_true rfl) ?_
  refine m_product0 hR (by omega) (by omega) ?_
  refine r_iload hC dX6_associates_23 rfl ?_
  refine m_inv2 hM dX6_associates_25 vl_RX6_88 rfl rfl rfl (Nat.le_of_ble_eq_true rfl) (Nat.le_of_ble_eq_true rfl) ?_
  refine m_product0 hR (by omega) (by omega) ?_
  refine r_aload_n hC dX6_associates_28 rfl ?_
  refine r_iload_n hC dX6_associates_29 rfl ?_
  refine r_aload_n hC dX6_associates_30 rfl ?_
  refine r_iload_n hC dX6_associates_31 rfl ?_
  refine r_iload hC dX6_associates_32 rfl ?_
  refine m_inv2 hM dX6_associates_34 vl_RX6_88 rfl rfl rfl (Nat.le_of_ble_eq_true rfl) (Nat.le_of_ble_eq_true rfl) ?_
  refine m_product0 hR (by omega) (by omega) ?_
  refine m_inv2 hM dX6_associates_37 vl_RX6_88 rfl rfl rfl (Nat.le_of_ble_eq_true rfl) (Nat.le_of_ble_eq_true rfl) ?_
  refine m_product0 hR (by omega) (by omega) ?_
  refine r_icmp_ne (tgt := 47) hC dX6_associates_40 rfl (fun h5 => by omega) (fun h5 => ?_)
  refine r_iconst hC dX6_associates_43 rfl ?_
  refine r_goto (tgt := 48) hC dX6_associates_44 rfl ?_
  refine t_zret hK rfl dX6_associates_48 (by omega) ?_
  exact k
theorem m_firstThree0 {d : Nat} {Post : Option Vl → Mm → Prop} {τ : Mm}  (hR : FrR τ) (k : Post (some (vI (-1))) τ) : WP (d + 3) 147 [vR 30 0] τ Post := by
  intro K hK
  have hK : StpF cX6_firstThree RX6 (some .int) (WP (d + 2)) Post K := hK
  have hM := hK.1
  have hC := hK.1.1
  show K 0 [some (vR 30 0), none] [] τ
  have L : ∀ (n : Nat) (t : Int), 0 ≤ t → t ≤ 64 → 64 - t < (n : Int) → K 2 [some (vR 30 0), some (vI t)] [] τ := by
    intro n
    induction n with
    | zero => intro t h0 h1 h2; omega
    | succ n ih =>
      intro t h0 h1 h2
      refine r_iload_n hC dX6_firstThree_2 rfl ?_
      refine r_bipush hC dX6_firstThree_3 rfl ?_
      refine r_icmp_ge (tgt := 24) hC dX6_firstThree_5 rfl (fun h1 => ?_) (fun h1 => ?_)
      · refine r_iconst hC dX6_firstThree_24 rfl ?_
        refine t_iret hK rfl dX6_firstThree_25 ?_
        exact k
      · refine r_aload_n hC dX6_firstThree_8 rfl ?_
        refine r_iload_n hC dX6_firstThree_9 rfl ?_
        refine m_inv1 hM dX6_firstThree_10 vl_RX6_91 rfl rfl rfl (Nat.le_of_ble_eq_true rfl) (Nat.le_of_ble_eq_true rfl) ?_
        refine m_associates0 hR (by omega) (by omega) ?_
        refine r_if_ne (tgt := 18) hC dX6_firstThree_13 rfl (fun h3 => ?_) (fun h3 => by omega)
        refine r_iincS hC dX6_firstThree_18 rfl rfl (by unfold inR; omega) ?_
        refine r_goto (tgt := 2) hC dX6_firstThree_21 rfl ?_
        exact ih (t + 1) (by omega) (by omega) (by omega)
  refine r_iconst hC dX6_firstThree_0 rfl ?_
  refine r_istore_n hC dX6_firstThree_1 rfl ?_
  exact L 65 0 (by omega) (by omega) (by omega)
theorem m_countAssociating0 {d : Nat} {Post : Option Vl → Mm → Prop} {τ : Mm}  (hR : FrR τ) (k : Post (some (vI (64))) τ) : WP (d + 3) 149 [vR 30 0] τ Post := by
  intro K hK
  have hK : StpF cX6_countAssociating RX6 (some .int) (WP (d + 2)) Post K := hK
  have hM := hK.1
  have hC := hK.1.1
  show K 0 [some (vR 30 0), none, none] [] τ
  have L : ∀ (n : Nat) (t : Int), 0 ≤ t → t ≤ 64 → 64 - t < (n : Int) → K 4 [some (vR 30 0), some (vI t), some (vI t)] [] τ := by
    intro n
    induction n with
    | zero => intro t h0 h1 h2; omega
    | succ n ih =>
      intro t h0 h1 h2
      refine r_iload_n hC dX6_countAssociating_4 rfl ?_
      refine r_bipush hC dX6_countAssociating_5 rfl ?_
      refine r_icmp_ge (tgt := 32) hC dX6_countAssociating_7 rfl (fun h1 => ?_) (fun h1 => ?_)
      · refine r_iload_n hC dX6_countAssociating_32 rfl ?_
        refine t_iret hK rfl dX6_countAssociating_33 ?_
        exact post_of (by omega) k
      · refine r_iload_n hC dX6_countAssociating_10 rfl ?_
        refine r_aload_n hC dX6_countAssociating_11 rfl ?_
        refine r_iload_n hC dX6_countAssociating_12 rfl ?_
        refine m_inv1 hM dX6_countAssociating_13 vl_RX6_91 rfl rfl rfl (Nat.le_of_ble_eq_true rfl) (Nat.le_of_ble_eq_true rfl) ?_
        refine m_associates0 hR (by omega) (by omega) ?_
        refine r_if_eq (tgt := 23) hC dX6_countAssociating_16 rfl (fun h3 => by omega) (fun h3 => ?_)
        refine r_iconst hC dX6_countAssociating_19 rfl ?_
        refine r_goto (tgt := 24) hC dX6_countAssociating_20 rfl ?_
        refine r_iaddS hC dX6_countAssociating_24 (by unfold inR; omega) ?_
        refine r_istore_n hC dX6_countAssociating_25 rfl ?_
        refine r_iincS hC dX6_countAssociating_26 rfl rfl (by unfold inR; omega) ?_
        refine r_goto (tgt := 4) hC dX6_countAssociating_29 rfl ?_
        exact ih (t + 1) (by omega) (by omega) (by omega)
  refine r_iconst hC dX6_countAssociating_0 rfl ?_
  refine r_istore_n hC dX6_countAssociating_1 rfl ?_
  refine r_iconst hC dX6_countAssociating_2 rfl ?_
  refine r_istore_n hC dX6_countAssociating_3 rfl ?_
  exact L 65 0 (by omega) (by omega) (by omega)
theorem d0_triple {d : Nat} {Post : Option Vl → Mm → Prop} {τ : Mm} {w : Int} (hR : FrR τ) (k : ∀ r : Int, (w = 3 ∧ r = 64) ∨ (w ≠ 3 ∧ r = -1) → Post (some (vI r)) τ) : WP (d + 4) 148 [vR 30 0, vI w] τ Post := by
  intro K hK
  have hK : StpF cX6_triple RX6 (some .int) (WP (d + 3)) Post K := hK
  have hM := hK.1
  have hC := hK.1.1
  show K 0 [some (vR 30 0), some (vI w), none] [] τ
  refine r_iload_n hC dX6_triple_0 rfl ?_
  refine r_iconst hC dX6_triple_1 rfl ?_
  refine r_icmp_ne (tgt := 10) hC dX6_triple_2 rfl (fun h1 => ?_) (fun h1 => ?_)
  · refine r_aload_n hC dX6_triple_10 rfl ?_
    refine m_inv0 hM dX6_triple_11 vl_RX6_98 rfl rfl rfl (Nat.le_of_ble_eq_true rfl) (Nat.le_of_ble_eq_true rfl) ?_
    refine m_firstThree0 hR ?_
    refine r_istore_n hC dX6_triple_14 rfl ?_
    refine r_iload_n hC dX6_triple_15 rfl ?_
    refine r_if_lt (tgt := 28) hC dX6_triple_16 rfl (fun h3 => ?_) (fun h3 => by omega)
    refine r_iconst hC dX6_triple_28 rfl ?_
    refine t_iret hK rfl dX6_triple_29 ?_
    exact k _ (by omega)
  · refine r_aload_n hC dX6_triple_5 rfl ?_
    refine m_inv0 hM dX6_triple_6 vl_RX6_94 rfl rfl rfl (Nat.le_of_ble_eq_true rfl) (Nat.le_of_ble_eq_true rfl) ?_
    refine m_countAssociating0 hR ?_
    refine t_iret hK rfl dX6_triple_9 ?_
    exact k _ (by omega)
theorem m_isSuch0 {d : Nat} {Post : Option Vl → Mm → Prop} {τ : Mm} {e w : Int} (hR : FrR τ) (he : 0 ≤ e ∧ e < 4) (hw : 0 ≤ w ∧ w ≤ 1) (k : ∀ r : Int, ((w = 1 ∧ e = 0) ∧ r = 1) ∨ (¬ (w = 1 ∧ e = 0) ∧ r = 0) → Post (some (vI r)) τ) : WP (d + 2) 150 [vR 30 0, vI e, vI w] τ Post := by
  intro K hK
  have hK : StpF cX6_isSuch RX6 (some .boolean) (WP (d + 1)) Post K := hK
  have hM := hK.1
  have hC := hK.1.1
  show K 0 [some (vR 30 0), some (vI e), some (vI w), none, none] [] τ
  refine r_iconst hC dX6_isSuch_0 rfl ?_
  refine r_istore_n hC dX6_isSuch_1 rfl ?_
  refine r_iload_n hC dX6_isSuch_2 rfl ?_
  refine r_iconst hC dX6_isSuch_3 rfl ?_
  refine r_icmp_ge (tgt := 48) hC dX6_isSuch_4 rfl (fun h1 => by omega) (fun h1 => ?_)
  refine r_iload_n hC dX6_isSuch_7 rfl ?_
  refine r_if_ne (tgt := 15) hC dX6_isSuch_8 rfl (fun h2 => ?_) (fun h2 => ?_)
  · refine r_iload_n hC dX6_isSuch_15 rfl ?_
    refine r_istore hC dX6_isSuch_16 rfl ?_
    refine r_aload_n hC dX6_isSuch_18 rfl ?_
    refine r_iload_n hC dX6_isSuch_19 rfl ?_
    refine r_iload_n hC dX6_isSuch_20 rfl ?_
    refine m_inv2 hM dX6_isSuch_21 vl_RX6_88 rfl rfl rfl (Nat.le_of_ble_eq_true rfl) (Nat.le_of_ble_eq_true rfl) ?_
    refine m_product0 hR (by omega) (by omega) ?_
    refine r_iload hC dX6_isSuch_24 rfl ?_
    refine r_icmp_ne (tgt := 40) hC dX6_isSuch_26 rfl (fun h4 => ?_) (fun h4 => ?_)
    · refine r_iconst hC dX6_isSuch_40 rfl ?_
      refine t_zret hK rfl dX6_isSuch_41 (by omega) ?_
      first | exact k _ (by omega) | (exfalso; omega)
    · refine r_aload_n hC dX6_isSuch_29 rfl ?_
      refine r_iload_n hC dX6_isSuch_30 rfl ?_
      refine r_iload_n hC dX6_isSuch_31 rfl ?_
      refine m_inv2 hM dX6_isSuch_32 vl_RX6_88 rfl rfl rfl (Nat.le_of_ble_eq_true rfl) (Nat.le_of_ble_eq_true rfl) ?_
      refine m_product0 hR (by omega) (by omega) ?_
      refine r_iload hC dX6_isSuch_35 rfl ?_
      refine r_icmp_eq (tgt := 42) hC dX6_isSuch_37 rfl (fun h6 => ?_) (fun h6 => ?_)
      · refine r_iincE hC (1) dX6_isSuch_42 rfl rfl rfl (inR_lit rfl) ?_
        refine r_goto (tgt := 2) hC dX6_isSuch_45 rfl ?_
        refine r_iload_n hC dX6_isSuch_2 rfl ?_
        refine r_iconst hC dX6_isSuch_3 rfl ?_
        refine r_icmp_ge (tgt := 48) hC dX6_isSuch_4 rfl (fun h7 => by omega) (fun h7 => ?_)
        refine r_iload_n hC dX6_isSuch_7 rfl ?_
        refine r_if_ne (tgt := 15) hC dX6_isSuch_8 rfl (fun h8 => ?_) (fun h8 => ?_)
        · refine r_iload_n hC dX6_isSuch_15 rfl ?_
          refine r_istore hC dX6_isSuch_16 rfl ?_
          refine r_aload_n hC dX6_isSuch_18 rfl ?_
          refine r_iload_n hC dX6_isSuch_19 rfl ?_
          refine r_iload_n hC dX6_isSuch_20 rfl ?_
          refine m_inv2 hM dX6_isSuch_21 vl_RX6_88 rfl rfl rfl (Nat.le_of_ble_eq_true rfl) (Nat.le_of_ble_eq_true rfl) ?_
          refine m_product0 hR (by omega) (by omega) ?_
          refine r_iload hC dX6_isSuch_24 rfl ?_
          refine r_icmp_ne (tgt := 40) hC dX6_isSuch_26 rfl (fun h10 => ?_) (fun h10 => ?_)
          · refine r_iconst hC dX6_isSuch_40 rfl ?_
            refine t_zret hK rfl dX6_isSuch_41 (by omega) ?_
            first | exact k _ (by omega) | (exfalso; omega)
          · refine r_aload_n hC dX6_isSuch_29 rfl ?_
            refine r_iload_n hC dX6_isSuch_30 rfl ?_
            refine r_iload_n hC dX6_isSuch_31 rfl ?_
            refine m_inv2 hM dX6_isSuch_32 vl_RX6_88 rfl rfl rfl (Nat.le_of_ble_eq_true rfl) (Nat.le_of_ble_eq_true rfl) ?_
            refine m_product0 hR (by omega) (by omega) ?_
            refine r_iload hC dX6_isSuch_35 rfl ?_
            refine r_icmp_eq (tgt := 42) hC dX6_isSuch_37 rfl (fun h12 => ?_) (fun h12 => ?_)
            · refine r_iincE hC (2) dX6_isSuch_42 rfl rfl rfl (inR_lit rfl) ?_
              refine r_goto (tgt := 2) hC dX6_isSuch_45 rfl ?_
              refine r_iload_n hC dX6_isSuch_2 rfl ?_
              refine r_iconst hC dX6_isSuch_3 rfl ?_
              refine r_icmp_ge (tgt := 48) hC dX6_isSuch_4 rfl (fun h13 => by omega) (fun h13 => ?_)
              refine r_iload_n hC dX6_isSuch_7 rfl ?_
              refine r_if_ne (tgt := 15) hC dX6_isSuch_8 rfl (fun h14 => ?_) (fun h14 => ?_)
              · refine r_iload_n hC dX6_isSuch_15 rfl ?_
                refine r_istore hC dX6_isSuch_16 rfl ?_
                refine r_aload_n hC dX6_isSuch_18 rfl ?_
                refine r_iload_n hC dX6_isSuch_19 rfl ?_
                refine r_iload_n hC dX6_isSuch_20 rfl ?_
                refine m_inv2 hM dX6_isSuch_21 vl_RX6_88 rfl rfl rfl (Nat.le_of_ble_eq_true rfl) (Nat.le_of_ble_eq_true rfl) ?_
                refine m_product0 hR (by omega) (by omega) ?_
                refine r_iload hC dX6_isSuch_24 rfl ?_
                refine r_icmp_ne (tgt := 40) hC dX6_isSuch_26 rfl (fun h16 => ?_) (fun h16 => ?_)
                · refine r_iconst hC dX6_isSuch_40 rfl ?_
                  refine t_zret hK rfl dX6_isSuch_41 (by omega) ?_
                  first | exact k _ (by omega) | (exfalso; omega)
                · refine r_aload_n hC dX6_isSuch_29 rfl ?_
                  refine r_iload_n hC dX6_isSuch_30 rfl ?_
                  refine r_iload_n hC dX6_isSuch_31 rfl ?_
                  refine m_inv2 hM dX6_isSuch_32 vl_RX6_88 rfl rfl rfl (Nat.le_of_ble_eq_true rfl) (Nat.le_of_ble_eq_true rfl) ?_
                  refine m_product0 hR (by omega) (by omega) ?_
                  refine r_iload hC dX6_isSuch_35 rfl ?_
                  refine r_icmp_eq (tgt := 42) hC dX6_isSuch_37 rfl (fun h18 => ?_) (fun h18 => ?_)
                  · refine r_iincE hC (3) dX6_isSuch_42 rfl rfl rfl (inR_lit rfl) ?_
                    refine r_goto (tgt := 2) hC dX6_isSuch_45 rfl ?_
                    refine r_iload_n hC dX6_isSuch_2 rfl ?_
                    refine r_iconst hC dX6_isSuch_3 rfl ?_
                    refine r_icmp_ge (tgt := 48) hC dX6_isSuch_4 rfl (fun h19 => by omega) (fun h19 => ?_)
                    refine r_iload_n hC dX6_isSuch_7 rfl ?_
                    refine r_if_ne (tgt := 15) hC dX6_isSuch_8 rfl (fun h20 => ?_) (fun h20 => ?_)
                    · refine r_iload_n hC dX6_isSuch_15 rfl ?_
                      refine r_istore hC dX6_isSuch_16 rfl ?_
                      refine r_aload_n hC dX6_isSuch_18 rfl ?_
                      refine r_iload_n hC dX6_isSuch_19 rfl ?_
                      refine r_iload_n hC dX6_isSuch_20 rfl ?_
                      refine m_inv2 hM dX6_isSuch_21 vl_RX6_88 rfl rfl rfl (Nat.le_of_ble_eq_true rfl) (Nat.le_of_ble_eq_true rfl) ?_
                      refine m_product0 hR (by omega) (by omega) ?_
                      refine r_iload hC dX6_isSuch_24 rfl ?_
                      refine r_icmp_ne (tgt := 40) hC dX6_isSuch_26 rfl (fun h22 => ?_) (fun h22 => ?_)
                      · refine r_iconst hC dX6_isSuch_40 rfl ?_
                        refine t_zret hK rfl dX6_isSuch_41 (by omega) ?_
                        first | exact k _ (by omega) | (exfalso; omega)
                      · refine r_aload_n hC dX6_isSuch_29 rfl ?_
                        refine r_iload_n hC dX6_isSuch_30 rfl ?_
                        refine r_iload_n hC dX6_isSuch_31 rfl ?_
                        refine m_inv2 hM dX6_isSuch_32 vl_RX6_88 rfl rfl rfl (Nat.le_of_ble_eq_true rfl) (Nat.le_of_ble_eq_true rfl) ?_
                        refine m_product0 hR (by omega) (by omega) ?_
                        refine r_iload hC dX6_isSuch_35 rfl ?_
                        refine r_icmp_eq (tgt := 42) hC dX6_isSuch_37 rfl (fun h24 => ?_) (fun h24 => ?_)
                        · refine r_iincE hC (4) dX6_isSuch_42 rfl rfl rfl (inR_lit rfl) ?_
                          refine r_goto (tgt := 2) hC dX6_isSuch_45 rfl ?_
                          refine r_iload_n hC dX6_isSuch_2 rfl ?_
                          refine r_iconst hC dX6_isSuch_3 rfl ?_
                          refine r_icmp_ge (tgt := 48) hC dX6_isSuch_4 rfl (fun h25 => ?_) (fun h25 => by omega)
                          refine r_iconst hC dX6_isSuch_48 rfl ?_
                          refine t_zret hK rfl dX6_isSuch_49 (by omega) ?_
                          first | exact k _ (by omega) | (exfalso; omega)
                        · refine r_iconst hC dX6_isSuch_40 rfl ?_
                          refine t_zret hK rfl dX6_isSuch_41 (by omega) ?_
                          first | exact k _ (by omega) | (exfalso; omega)
                    · refine r_iload_n hC dX6_isSuch_11 rfl ?_
                      refine r_goto (tgt := 16) hC dX6_isSuch_12 rfl ?_
                      refine r_istore hC dX6_isSuch_16 rfl ?_
                      refine r_aload_n hC dX6_isSuch_18 rfl ?_
                      refine r_iload_n hC dX6_isSuch_19 rfl ?_
                      refine r_iload_n hC dX6_isSuch_20 rfl ?_
                      refine m_inv2 hM dX6_isSuch_21 vl_RX6_88 rfl rfl rfl (Nat.le_of_ble_eq_true rfl) (Nat.le_of_ble_eq_true rfl) ?_
                      refine m_product0 hR (by omega) (by omega) ?_
                      refine r_iload hC dX6_isSuch_24 rfl ?_
                      refine r_icmp_ne (tgt := 40) hC dX6_isSuch_26 rfl (fun h27 => ?_) (fun h27 => by omega)
                      refine r_iconst hC dX6_isSuch_40 rfl ?_
                      refine t_zret hK rfl dX6_isSuch_41 (by omega) ?_
                      first | exact k _ (by omega) | (exfalso; omega)
                  · refine r_iconst hC dX6_isSuch_40 rfl ?_
                    refine t_zret hK rfl dX6_isSuch_41 (by omega) ?_
                    first | exact k _ (by omega) | (exfalso; omega)
              · refine r_iload_n hC dX6_isSuch_11 rfl ?_
                refine r_goto (tgt := 16) hC dX6_isSuch_12 rfl ?_
                refine r_istore hC dX6_isSuch_16 rfl ?_
                refine r_aload_n hC dX6_isSuch_18 rfl ?_
                refine r_iload_n hC dX6_isSuch_19 rfl ?_
                refine r_iload_n hC dX6_isSuch_20 rfl ?_
                refine m_inv2 hM dX6_isSuch_21 vl_RX6_88 rfl rfl rfl (Nat.le_of_ble_eq_true rfl) (Nat.le_of_ble_eq_true rfl) ?_
                refine m_product0 hR (by omega) (by omega) ?_
                refine r_iload hC dX6_isSuch_24 rfl ?_
                refine r_icmp_ne (tgt := 40) hC dX6_isSuch_26 rfl (fun h29 => ?_) (fun h29 => by omega)
                refine r_iconst hC dX6_isSuch_40 rfl ?_
                refine t_zret hK rfl dX6_isSuch_41 (by omega) ?_
                first | exact k _ (by omega) | (exfalso; omega)
            · refine r_iconst hC dX6_isSuch_40 rfl ?_
              refine t_zret hK rfl dX6_isSuch_41 (by omega) ?_
              first | exact k _ (by omega) | (exfalso; omega)
        · refine r_iload_n hC dX6_isSuch_11 rfl ?_
          refine r_goto (tgt := 16) hC dX6_isSuch_12 rfl ?_
          refine r_istore hC dX6_isSuch_16 rfl ?_
          refine r_aload_n hC dX6_isSuch_18 rfl ?_
          refine r_iload_n hC dX6_isSuch_19 rfl ?_
          refine r_iload_n hC dX6_isSuch_20 rfl ?_
          refine m_inv2 hM dX6_isSuch_21 vl_RX6_88 rfl rfl rfl (Nat.le_of_ble_eq_true rfl) (Nat.le_of_ble_eq_true rfl) ?_
          refine m_product0 hR (by omega) (by omega) ?_
          refine r_iload hC dX6_isSuch_24 rfl ?_
          refine r_icmp_ne (tgt := 40) hC dX6_isSuch_26 rfl (fun h31 => ?_) (fun h31 => by omega)
          refine r_iconst hC dX6_isSuch_40 rfl ?_
          refine t_zret hK rfl dX6_isSuch_41 (by omega) ?_
          first | exact k _ (by omega) | (exfalso; omega)
      · refine r_iconst hC dX6_isSuch_40 rfl ?_
        refine t_zret hK rfl dX6_isSuch_41 (by omega) ?_
        first | exact k _ (by omega) | (exfalso; omega)
  · refine r_iload_n hC dX6_isSuch_11 rfl ?_
    refine r_goto (tgt := 16) hC dX6_isSuch_12 rfl ?_
    refine r_istore hC dX6_isSuch_16 rfl ?_
    refine r_aload_n hC dX6_isSuch_18 rfl ?_
    refine r_iload_n hC dX6_isSuch_19 rfl ?_
    refine r_iload_n hC dX6_isSuch_20 rfl ?_
    refine m_inv2 hM dX6_isSuch_21 vl_RX6_88 rfl rfl rfl (Nat.le_of_ble_eq_true rfl) (Nat.le_of_ble_eq_true rfl) ?_
    refine m_product0 hR (by omega) (by omega) ?_
    refine r_iload hC dX6_isSuch_24 rfl ?_
    refine r_icmp_ne (tgt := 40) hC dX6_isSuch_26 rfl (fun h33 => by omega) (fun h33 => ?_)
    refine r_aload_n hC dX6_isSuch_29 rfl ?_
    refine r_iload_n hC dX6_isSuch_30 rfl ?_
    refine r_iload_n hC dX6_isSuch_31 rfl ?_
    refine m_inv2 hM dX6_isSuch_32 vl_RX6_88 rfl rfl rfl (Nat.le_of_ble_eq_true rfl) (Nat.le_of_ble_eq_true rfl) ?_
    refine m_product0 hR (by omega) (by omega) ?_
    refine r_iload hC dX6_isSuch_35 rfl ?_
    refine r_icmp_eq (tgt := 42) hC dX6_isSuch_37 rfl (fun h35 => ?_) (fun h35 => by omega)
    refine r_iincE hC (1) dX6_isSuch_42 rfl rfl rfl (inR_lit rfl) ?_
    refine r_goto (tgt := 2) hC dX6_isSuch_45 rfl ?_
    refine r_iload_n hC dX6_isSuch_2 rfl ?_
    refine r_iconst hC dX6_isSuch_3 rfl ?_
    refine r_icmp_ge (tgt := 48) hC dX6_isSuch_4 rfl (fun h36 => by omega) (fun h36 => ?_)
    refine r_iload_n hC dX6_isSuch_7 rfl ?_
    refine r_if_ne (tgt := 15) hC dX6_isSuch_8 rfl (fun h37 => ?_) (fun h37 => ?_)
    · refine r_iload_n hC dX6_isSuch_15 rfl ?_
      refine r_istore hC dX6_isSuch_16 rfl ?_
      refine r_aload_n hC dX6_isSuch_18 rfl ?_
      refine r_iload_n hC dX6_isSuch_19 rfl ?_
      refine r_iload_n hC dX6_isSuch_20 rfl ?_
      refine m_inv2 hM dX6_isSuch_21 vl_RX6_88 rfl rfl rfl (Nat.le_of_ble_eq_true rfl) (Nat.le_of_ble_eq_true rfl) ?_
      refine m_product0 hR (by omega) (by omega) ?_
      refine r_iload hC dX6_isSuch_24 rfl ?_
      refine r_icmp_ne (tgt := 40) hC dX6_isSuch_26 rfl (fun h39 => ?_) (fun h39 => ?_)
      · refine r_iconst hC dX6_isSuch_40 rfl ?_
        refine t_zret hK rfl dX6_isSuch_41 (by omega) ?_
        first | exact k _ (by omega) | (exfalso; omega)
      · refine r_aload_n hC dX6_isSuch_29 rfl ?_
        refine r_iload_n hC dX6_isSuch_30 rfl ?_
        refine r_iload_n hC dX6_isSuch_31 rfl ?_
        refine m_inv2 hM dX6_isSuch_32 vl_RX6_88 rfl rfl rfl (Nat.le_of_ble_eq_true rfl) (Nat.le_of_ble_eq_true rfl) ?_
        refine m_product0 hR (by omega) (by omega) ?_
        refine r_iload hC dX6_isSuch_35 rfl ?_
        refine r_icmp_eq (tgt := 42) hC dX6_isSuch_37 rfl (fun h41 => ?_) (fun h41 => ?_)
        · refine r_iincE hC (2) dX6_isSuch_42 rfl rfl rfl (inR_lit rfl) ?_
          refine r_goto (tgt := 2) hC dX6_isSuch_45 rfl ?_
          refine r_iload_n hC dX6_isSuch_2 rfl ?_
          refine r_iconst hC dX6_isSuch_3 rfl ?_
          refine r_icmp_ge (tgt := 48) hC dX6_isSuch_4 rfl (fun h42 => by omega) (fun h42 => ?_)
          refine r_iload_n hC dX6_isSuch_7 rfl ?_
          refine r_if_ne (tgt := 15) hC dX6_isSuch_8 rfl (fun h43 => ?_) (fun h43 => ?_)
          · refine r_iload_n hC dX6_isSuch_15 rfl ?_
            refine r_istore hC dX6_isSuch_16 rfl ?_
            refine r_aload_n hC dX6_isSuch_18 rfl ?_
            refine r_iload_n hC dX6_isSuch_19 rfl ?_
            refine r_iload_n hC dX6_isSuch_20 rfl ?_
            refine m_inv2 hM dX6_isSuch_21 vl_RX6_88 rfl rfl rfl (Nat.le_of_ble_eq_true rfl) (Nat.le_of_ble_eq_true rfl) ?_
            refine m_product0 hR (by omega) (by omega) ?_
            refine r_iload hC dX6_isSuch_24 rfl ?_
            refine r_icmp_ne (tgt := 40) hC dX6_isSuch_26 rfl (fun h45 => ?_) (fun h45 => ?_)
            · refine r_iconst hC dX6_isSuch_40 rfl ?_
              refine t_zret hK rfl dX6_isSuch_41 (by omega) ?_
              first | exact k _ (by omega) | (exfalso; omega)
            · refine r_aload_n hC dX6_isSuch_29 rfl ?_
              refine r_iload_n hC dX6_isSuch_30 rfl ?_
              refine r_iload_n hC dX6_isSuch_31 rfl ?_
              refine m_inv2 hM dX6_isSuch_32 vl_RX6_88 rfl rfl rfl (Nat.le_of_ble_eq_true rfl) (Nat.le_of_ble_eq_true rfl) ?_
              refine m_product0 hR (by omega) (by omega) ?_
              refine r_iload hC dX6_isSuch_35 rfl ?_
              refine r_icmp_eq (tgt := 42) hC dX6_isSuch_37 rfl (fun h47 => ?_) (fun h47 => ?_)
              · refine r_iincE hC (3) dX6_isSuch_42 rfl rfl rfl (inR_lit rfl) ?_
                refine r_goto (tgt := 2) hC dX6_isSuch_45 rfl ?_
                refine r_iload_n hC dX6_isSuch_2 rfl ?_
                refine r_iconst hC dX6_isSuch_3 rfl ?_
                refine r_icmp_ge (tgt := 48) hC dX6_isSuch_4 rfl (fun h48 => by omega) (fun h48 => ?_)
                refine r_iload_n hC dX6_isSuch_7 rfl ?_
                refine r_if_ne (tgt := 15) hC dX6_isSuch_8 rfl (fun h49 => ?_) (fun h49 => ?_)
                · refine r_iload_n hC dX6_isSuch_15 rfl ?_
                  refine r_istore hC dX6_isSuch_16 rfl ?_
                  refine r_aload_n hC dX6_isSuch_18 rfl ?_
                  refine r_iload_n hC dX6_isSuch_19 rfl ?_
                  refine r_iload_n hC dX6_isSuch_20 rfl ?_
                  refine m_inv2 hM dX6_isSuch_21 vl_RX6_88 rfl rfl rfl (Nat.le_of_ble_eq_true rfl) (Nat.le_of_ble_eq_true rfl) ?_
                  refine m_product0 hR (by omega) (by omega) ?_
                  refine r_iload hC dX6_isSuch_24 rfl ?_
                  refine r_icmp_ne (tgt := 40) hC dX6_isSuch_26 rfl (fun h51 => ?_) (fun h51 => ?_)
                  · refine r_iconst hC dX6_isSuch_40 rfl ?_
                    refine t_zret hK rfl dX6_isSuch_41 (by omega) ?_
                    first | exact k _ (by omega) | (exfalso; omega)
                  · refine r_aload_n hC dX6_isSuch_29 rfl ?_
                    refine r_iload_n hC dX6_isSuch_30 rfl ?_
                    refine r_iload_n hC dX6_isSuch_31 rfl ?_
                    refine m_inv2 hM dX6_isSuch_32 vl_RX6_88 rfl rfl rfl (Nat.le_of_ble_eq_true rfl) (Nat.le_of_ble_eq_true rfl) ?_
                    refine m_product0 hR (by omega) (by omega) ?_
                    refine r_iload hC dX6_isSuch_35 rfl ?_
                    refine r_icmp_eq (tgt := 42) hC dX6_isSuch_37 rfl (fun h53 => ?_) (fun h53 => ?_)
                    · refine r_iincE hC (4) dX6_isSuch_42 rfl rfl rfl (inR_lit rfl) ?_
                      refine r_goto (tgt := 2) hC dX6_isSuch_45 rfl ?_
                      refine r_iload_n hC dX6_isSuch_2 rfl ?_
                      refine r_iconst hC dX6_isSuch_3 rfl ?_
                      refine r_icmp_ge (tgt := 48) hC dX6_isSuch_4 rfl (fun h54 => ?_) (fun h54 => by omega)
                      refine r_iconst hC dX6_isSuch_48 rfl ?_
                      refine t_zret hK rfl dX6_isSuch_49 (by omega) ?_
                      first | exact k _ (by omega) | (exfalso; omega)
                    · refine r_iconst hC dX6_isSuch_40 rfl ?_
                      refine t_zret hK rfl dX6_isSuch_41 (by omega) ?_
                      first | exact k _ (by omega) | (exfalso; omega)
                · refine r_iload_n hC dX6_isSuch_11 rfl ?_
                  refine r_goto (tgt := 16) hC dX6_isSuch_12 rfl ?_
                  refine r_istore hC dX6_isSuch_16 rfl ?_
                  refine r_aload_n hC dX6_isSuch_18 rfl ?_
                  refine r_iload_n hC dX6_isSuch_19 rfl ?_
                  refine r_iload_n hC dX6_isSuch_20 rfl ?_
                  refine m_inv2 hM dX6_isSuch_21 vl_RX6_88 rfl rfl rfl (Nat.le_of_ble_eq_true rfl) (Nat.le_of_ble_eq_true rfl) ?_
                  refine m_product0 hR (by omega) (by omega) ?_
                  refine r_iload hC dX6_isSuch_24 rfl ?_
                  refine r_icmp_ne (tgt := 40) hC dX6_isSuch_26 rfl (fun h56 => ?_) (fun h56 => by omega)
                  refine r_iconst hC dX6_isSuch_40 rfl ?_
                  refine t_zret hK rfl dX6_isSuch_41 (by omega) ?_
                  first | exact k _ (by omega) | (exfalso; omega)
              · refine r_iconst hC dX6_isSuch_40 rfl ?_
                refine t_zret hK rfl dX6_isSuch_41 (by omega) ?_
                first | exact k _ (by omega) | (exfalso; omega)
          · refine r_iload_n hC dX6_isSuch_11 rfl ?_
            refine r_goto (tgt := 16) hC dX6_isSuch_12 rfl ?_
            refine r_istore hC dX6_isSuch_16 rfl ?_
            refine r_aload_n hC dX6_isSuch_18 rfl ?_
            refine r_iload_n hC dX6_isSuch_19 rfl ?_
            refine r_iload_n hC dX6_isSuch_20 rfl ?_
            refine m_inv2 hM dX6_isSuch_21 vl_RX6_88 rfl rfl rfl (Nat.le_of_ble_eq_true rfl) (Nat.le_of_ble_eq_true rfl) ?_
            refine m_product0 hR (by omega) (by omega) ?_
            refine r_iload hC dX6_isSuch_24 rfl ?_
            refine r_icmp_ne (tgt := 40) hC dX6_isSuch_26 rfl (fun h58 => ?_) (fun h58 => by omega)
            refine r_iconst hC dX6_isSuch_40 rfl ?_
            refine t_zret hK rfl dX6_isSuch_41 (by omega) ?_
            first | exact k _ (by omega) | (exfalso; omega)
        · refine r_iconst hC dX6_isSuch_40 rfl ?_
          refine t_zret hK rfl dX6_isSuch_41 (by omega) ?_
          first | exact k _ (by omega) | (exfalso; omega)
    · refine r_iload_n hC dX6_isSuch_11 rfl ?_
      refine r_goto (tgt := 16) hC dX6_isSuch_12 rfl ?_
      refine r_istore hC dX6_isSuch_16 rfl ?_
      refine r_aload_n hC dX6_isSuch_18 rfl ?_
      refine r_iload_n hC dX6_isSuch_19 rfl ?_
      refine r_iload_n hC dX6_isSuch_20 rfl ?_
      refine m_inv2 hM dX6_isSuch_21 vl_RX6_88 rfl rfl rfl (Nat.le_of_ble_eq_true rfl) (Nat.le_of_ble_eq_true rfl) ?_
      refine m_product0 hR (by omega) (by omega) ?_
      refine r_iload hC dX6_isSuch_24 rfl ?_
      refine r_icmp_ne (tgt := 40) hC dX6_isSuch_26 rfl (fun h60 => ?_) (fun h60 => by omega)
      refine r_iconst hC dX6_isSuch_40 rfl ?_
      refine t_zret hK rfl dX6_isSuch_41 (by omega) ?_
      first | exact k _ (by omega) | (exfalso; omega)
theorem d0_element {d : Nat} {Post : Option Vl → Mm → Prop} {τ : Mm} {w : Int} (hR : FrR τ) (k : ∀ r : Int, (w = 0 ∧ r = -1) ∨ (w = 1 ∧ r = 0) ∨ (w = 2 ∧ r = 1) ∨ (w = 3 ∧ r = 16) ∨ ((w < 0 ∨ 3 < w) ∧ r = -1) → Post (some (vI r)) τ) : WP (d + 3) 151 [vR 30 0, vI w] τ Post := by
  intro K hK
  have hK : StpF cX6_element RX6 (some .int) (WP (d + 2)) Post K := hK
  have hM := hK.1
  have hC := hK.1.1
  show K 0 [some (vR 30 0), some (vI w), none, none] [] τ
  refine r_iload_n hC dX6_element_0 rfl ?_
  refine r_iconst hC dX6_element_1 rfl ?_
  refine r_iconst hC dX6_element_2 rfl ?_
  refine m_ins3 hM dX6_element_3 tl_RX6_76 rfl (Nat.le_of_ble_eq_true rfl) (Nat.le_of_ble_eq_true rfl) ?_
  refine m_isIn (fun rh1 h1 => ?_)
  refine r_if_eq (tgt := 35) hC dX6_element_6 rfl (fun h2 => ?_) (fun h2 => ?_)
  · refine r_iconst hC dX6_element_35 rfl ?_
    refine r_istore_n hC dX6_element_36 rfl ?_
    refine r_iload_n hC dX6_element_37 rfl ?_
    refine r_iconst hC dX6_element_38 rfl ?_
    refine r_icmp_ne (tgt := 75) hC dX6_element_39 rfl (fun h3 => ?_) (fun h3 => ?_)
    · refine r_iload_n hC dX6_element_75 rfl ?_
      refine r_iconst hC dX6_element_76 rfl ?_
      refine r_icmp_eq (tgt := 82) hC dX6_element_77 rfl (fun h4 => ?_) (fun h4 => ?_)
      · refine r_iconst hC dX6_element_82 rfl ?_
        refine r_istore_n hC dX6_element_83 rfl ?_
        refine r_iload_n hC dX6_element_84 rfl ?_
        refine r_bipush hC dX6_element_85 rfl ?_
        refine r_icmp_ge (tgt := 127) hC dX6_element_87 rfl (fun h5 => by omega) (fun h5 => ?_)
        refine r_iload_n hC dX6_element_90 rfl ?_
        refine r_aload_n hC dX6_element_91 rfl ?_
        refine r_iload_n hC dX6_element_92 rfl ?_
        refine r_iconst hC dX6_element_93 rfl ?_
        refine r_idivE hC (0) dX6_element_94 (by omega) rfl ?_
        refine r_iload_n hC dX6_element_95 rfl ?_
        refine r_iconst hC dX6_element_96 rfl ?_
        refine r_iremE hC (0) dX6_element_97 (by omega) rfl ?_
        refine m_inv2 hM dX6_element_98 vl_RX6_88 rfl rfl rfl (Nat.le_of_ble_eq_true rfl) (Nat.le_of_ble_eq_true rfl) ?_
        refine m_product0 hR (by omega) (by omega) ?_
        refine r_aload_n hC dX6_element_101 rfl ?_
        refine r_iload_n hC dX6_element_102 rfl ?_
        refine r_iconst hC dX6_element_103 rfl ?_
        refine r_iremE hC (0) dX6_element_104 (by omega) rfl ?_
        refine r_iload_n hC dX6_element_105 rfl ?_
        refine r_iconst hC dX6_element_106 rfl ?_
        refine r_idivE hC (0) dX6_element_107 (by omega) rfl ?_
        refine m_inv2 hM dX6_element_108 vl_RX6_88 rfl rfl rfl (Nat.le_of_ble_eq_true rfl) (Nat.le_of_ble_eq_true rfl) ?_
        refine m_product0 hR (by omega) (by omega) ?_
        refine r_icmp_ne (tgt := 118) hC dX6_element_111 rfl (fun h8 => by omega) (fun h8 => ?_)
        refine r_iconst hC dX6_element_114 rfl ?_
        refine r_goto (tgt := 119) hC dX6_element_115 rfl ?_
        refine r_iaddE hC (1) dX6_element_119 rfl (inR_lit rfl) ?_
        refine r_istore_n hC dX6_element_120 rfl ?_
        refine r_iincE hC (1) dX6_element_121 rfl rfl rfl (inR_lit rfl) ?_
        show K _ [_, _, _, _] _ _
        refine r_goto (tgt := 84) hC dX6_element_124 rfl ?_
        refine r_iload_n hC dX6_element_84 rfl ?_
        refine r_bipush hC dX6_element_85 rfl ?_
        refine r_icmp_ge (tgt := 127) hC dX6_element_87 rfl (fun h9 => by omega) (fun h9 => ?_)
        refine r_iload_n hC dX6_element_90 rfl ?_
        refine r_aload_n hC dX6_element_91 rfl ?_
        refine r_iload_n hC dX6_element_92 rfl ?_
        refine r_iconst hC dX6_element_93 rfl ?_
        refine r_idivE hC (0) dX6_element_94 (by omega) rfl ?_
        refine r_iload_n hC dX6_element_95 rfl ?_
        refine r_iconst hC dX6_element_96 rfl ?_
        refine r_iremE hC (1) dX6_element_97 (by omega) rfl ?_
        refine m_inv2 hM dX6_element_98 vl_RX6_88 rfl rfl rfl (Nat.le_of_ble_eq_true rfl) (Nat.le_of_ble_eq_true rfl) ?_
        refine m_product0 hR (by omega) (by omega) ?_
        refine r_aload_n hC dX6_element_101 rfl ?_
        refine r_iload_n hC dX6_element_102 rfl ?_
        refine r_iconst hC dX6_element_103 rfl ?_
        refine r_iremE hC (1) dX6_element_104 (by omega) rfl ?_
        refine r_iload_n hC dX6_element_105 rfl ?_
        refine r_iconst hC dX6_element_106 rfl ?_
        refine r_idivE hC (0) dX6_element_107 (by omega) rfl ?_
        refine m_inv2 hM dX6_element_108 vl_RX6_88 rfl rfl rfl (Nat.le_of_ble_eq_true rfl) (Nat.le_of_ble_eq_true rfl) ?_
        refine m_product0 hR (by omega) (by omega) ?_
        refine r_icmp_ne (tgt := 118) hC dX6_element_111 rfl (fun h12 => by omega) (fun h12 => ?_)
        refine r_iconst hC dX6_element_114 rfl ?_
        refine r_goto (tgt := 119) hC dX6_element_115 rfl ?_
        refine r_iaddE hC (2) dX6_element_119 rfl (inR_lit rfl) ?_
        refine r_istore_n hC dX6_element_120 rfl ?_
        refine r_iincE hC (2) dX6_element_121 rfl rfl rfl (inR_lit rfl) ?_
        refine r_goto (tgt := 84) hC dX6_element_124 rfl ?_
        refine r_iload_n hC dX6_element_84 rfl ?_
        refine r_bipush hC dX6_element_85 rfl ?_
        refine r_icmp_ge (tgt := 127) hC dX6_element_87 rfl (fun h13 => by omega) (fun h13 => ?_)
        refine r_iload_n hC dX6_element_90 rfl ?_
        refine r_aload_n hC dX6_element_91 rfl ?_
        refine r_iload_n hC dX6_element_92 rfl ?_
        refine r_iconst hC dX6_element_93 rfl ?_
        refine r_idivE hC (0) dX6_element_94 (by omega) rfl ?_
        refine r_iload_n hC dX6_element_95 rfl ?_
        refine r_iconst hC dX6_element_96 rfl ?_
        refine r_iremE hC (2) dX6_element_97 (by omega) rfl ?_
        refine m_inv2 hM dX6_element_98 vl_RX6_88 rfl rfl rfl (Nat.le_of_ble_eq_true rfl) (Nat.le_of_ble_eq_true rfl) ?_
        refine m_product0 hR (by omega) (by omega) ?_
        refine r_aload_n hC dX6_element_101 rfl ?_
        refine r_iload_n hC dX6_element_102 rfl ?_
        refine r_iconst hC dX6_element_103 rfl ?_
        refine r_iremE hC (2) dX6_element_104 (by omega) rfl ?_
        refine r_iload_n hC dX6_element_105 rfl ?_
        refine r_iconst hC dX6_element_106 rfl ?_
        refine r_idivE hC (0) dX6_element_107 (by omega) rfl ?_
        refine m_inv2 hM dX6_element_108 vl_RX6_88 rfl rfl rfl (Nat.le_of_ble_eq_true rfl) (Nat.le_of_ble_eq_true rfl) ?_
        refine m_product0 hR (by omega) (by omega) ?_
        refine r_icmp_ne (tgt := 118) hC dX6_element_111 rfl (fun h16 => by omega) (fun h16 => ?_)
        refine r_iconst hC dX6_element_114 rfl ?_
        refine r_goto (tgt := 119) hC dX6_element_115 rfl ?_
        refine r_iaddE hC (3) dX6_element_119 rfl (inR_lit rfl) ?_
        refine r_istore_n hC dX6_element_120 rfl ?_
        show K _ [_, _, _, _] _ _
        refine r_iincE hC (3) dX6_element_121 rfl rfl rfl (inR_lit rfl) ?_
        refine r_goto (tgt := 84) hC dX6_element_124 rfl ?_
        refine r_iload_n hC dX6_element_84 rfl ?_
        refine r_bipush hC dX6_element_85 rfl ?_
        refine r_icmp_ge (tgt := 127) hC dX6_element_87 rfl (fun h17 => by omega) (fun h17 => ?_)
        refine r_iload_n hC dX6_element_90 rfl ?_
        refine r_aload_n hC dX6_element_91 rfl ?_
        refine r_iload_n hC dX6_element_92 rfl ?_
        refine r_iconst hC dX6_element_93 rfl ?_
        refine r_idivE hC (0) dX6_element_94 (by omega) rfl ?_
        refine r_iload_n hC dX6_element_95 rfl ?_
        refine r_iconst hC dX6_element_96 rfl ?_
        refine r_iremE hC (3) dX6_element_97 (by omega) rfl ?_
        refine m_inv2 hM dX6_element_98 vl_RX6_88 rfl rfl rfl (Nat.le_of_ble_eq_true rfl) (Nat.le_of_ble_eq_true rfl) ?_
        refine m_product0 hR (by omega) (by omega) ?_
        refine r_aload_n hC dX6_element_101 rfl ?_
        refine r_iload_n hC dX6_element_102 rfl ?_
        refine r_iconst hC dX6_element_103 rfl ?_
        refine r_iremE hC (3) dX6_element_104 (by omega) rfl ?_
        refine r_iload_n hC dX6_element_105 rfl ?_
        refine r_iconst hC dX6_element_106 rfl ?_
        refine r_idivE hC (0) dX6_element_107 (by omega) rfl ?_
        refine m_inv2 hM dX6_element_108 vl_RX6_88 rfl rfl rfl (Nat.le_of_ble_eq_true rfl) (Nat.le_of_ble_eq_true rfl) ?_
        refine m_product0 hR (by omega) (by omega) ?_
        refine r_icmp_ne (tgt := 118) hC dX6_element_111 rfl (fun h20 => by omega) (fun h20 => ?_)
        refine r_iconst hC dX6_element_114 rfl ?_
        refine r_goto (tgt := 119) hC dX6_element_115 rfl ?_
        refine r_iaddE hC (4) dX6_element_119 rfl (inR_lit rfl) ?_
        refine r_istore_n hC dX6_element_120 rfl ?_
        refine r_iincE hC (4) dX6_element_121 rfl rfl rfl (inR_lit rfl) ?_
        show K _ [_, _, _, _] _ _
        refine r_goto (tgt := 84) hC dX6_element_124 rfl ?_
        refine r_iload_n hC dX6_element_84 rfl ?_
        refine r_bipush hC dX6_element_85 rfl ?_
        refine r_icmp_ge (tgt := 127) hC dX6_element_87 rfl (fun h21 => by omega) (fun h21 => ?_)
        refine r_iload_n hC dX6_element_90 rfl ?_
        refine r_aload_n hC dX6_element_91 rfl ?_
        refine r_iload_n hC dX6_element_92 rfl ?_
        refine r_iconst hC dX6_element_93 rfl ?_
        refine r_idivE hC (1) dX6_element_94 (by omega) rfl ?_
        refine r_iload_n hC dX6_element_95 rfl ?_
        refine r_iconst hC dX6_element_96 rfl ?_
        refine r_iremE hC (0) dX6_element_97 (by omega) rfl ?_
        refine m_inv2 hM dX6_element_98 vl_RX6_88 rfl rfl rfl (Nat.le_of_ble_eq_true rfl) (Nat.le_of_ble_eq_true rfl) ?_
        refine m_product0 hR (by omega) (by omega) ?_
        refine r_aload_n hC dX6_element_101 rfl ?_
        refine r_iload_n hC dX6_element_102 rfl ?_
        refine r_iconst hC dX6_element_103 rfl ?_
        refine r_iremE hC (0) dX6_element_104 (by omega) rfl ?_
        refine r_iload_n hC dX6_element_105 rfl ?_
        refine r_iconst hC dX6_element_106 rfl ?_
        refine r_idivE hC (1) dX6_element_107 (by omega) rfl ?_
        refine m_inv2 hM dX6_element_108 vl_RX6_88 rfl rfl rfl (Nat.le_of_ble_eq_true rfl) (Nat.le_of_ble_eq_true rfl) ?_
        refine m_product0 hR (by omega) (by omega) ?_
        refine r_icmp_ne (tgt := 118) hC dX6_element_111 rfl (fun h24 => by omega) (fun h24 => ?_)
        refine r_iconst hC dX6_element_114 rfl ?_
        refine r_goto (tgt := 119) hC dX6_element_115 rfl ?_
        refine r_iaddE hC (5) dX6_element_119 rfl (inR_lit rfl) ?_
        refine r_istore_n hC dX6_element_120 rfl ?_
        refine r_iincE hC (5) dX6_element_121 rfl rfl rfl (inR_lit rfl) ?_
        refine r_goto (tgt := 84) hC dX6_element_124 rfl ?_
        refine r_iload_n hC dX6_element_84 rfl ?_
        refine r_bipush hC dX6_element_85 rfl ?_
        refine r_icmp_ge (tgt := 127) hC dX6_element_87 rfl (fun h25 => by omega) (fun h25 => ?_)
        refine r_iload_n hC dX6_element_90 rfl ?_
        refine r_aload_n hC dX6_element_91 rfl ?_
        refine r_iload_n hC dX6_element_92 rfl ?_
        refine r_iconst hC dX6_element_93 rfl ?_
        refine r_idivE hC (1) dX6_element_94 (by omega) rfl ?_
        refine r_iload_n hC dX6_element_95 rfl ?_
        refine r_iconst hC dX6_element_96 rfl ?_
        refine r_iremE hC (1) dX6_element_97 (by omega) rfl ?_
        refine m_inv2 hM dX6_element_98 vl_RX6_88 rfl rfl rfl (Nat.le_of_ble_eq_true rfl) (Nat.le_of_ble_eq_true rfl) ?_
        refine m_product0 hR (by omega) (by omega) ?_
        refine r_aload_n hC dX6_element_101 rfl ?_
        refine r_iload_n hC dX6_element_102 rfl ?_
        refine r_iconst hC dX6_element_103 rfl ?_
        refine r_iremE hC (1) dX6_element_104 (by omega) rfl ?_
        refine r_iload_n hC dX6_element_105 rfl ?_
        refine r_iconst hC dX6_element_106 rfl ?_
        refine r_idivE hC (1) dX6_element_107 (by omega) rfl ?_
        refine m_inv2 hM dX6_element_108 vl_RX6_88 rfl rfl rfl (Nat.le_of_ble_eq_true rfl) (Nat.le_of_ble_eq_true rfl) ?_
        refine m_product0 hR (by omega) (by omega) ?_
        refine r_icmp_ne (tgt := 118) hC dX6_element_111 rfl (fun h28 => by omega) (fun h28 => ?_)
        refine r_iconst hC dX6_element_114 rfl ?_
        refine r_goto (tgt := 119) hC dX6_element_115 rfl ?_
        refine r_iaddE hC (6) dX6_element_119 rfl (inR_lit rfl) ?_
        refine r_istore_n hC dX6_element_120 rfl ?_
        show K _ [_, _, _, _] _ _
        refine r_iincE hC (6) dX6_element_121 rfl rfl rfl (inR_lit rfl) ?_
        refine r_goto (tgt := 84) hC dX6_element_124 rfl ?_
        refine r_iload_n hC dX6_element_84 rfl ?_
        refine r_bipush hC dX6_element_85 rfl ?_
        refine r_icmp_ge (tgt := 127) hC dX6_element_87 rfl (fun h29 => by omega) (fun h29 => ?_)
        refine r_iload_n hC dX6_element_90 rfl ?_
        refine r_aload_n hC dX6_element_91 rfl ?_
        refine r_iload_n hC dX6_element_92 rfl ?_
        refine r_iconst hC dX6_element_93 rfl ?_
        refine r_idivE hC (1) dX6_element_94 (by omega) rfl ?_
        refine r_iload_n hC dX6_element_95 rfl ?_
        refine r_iconst hC dX6_element_96 rfl ?_
        refine r_iremE hC (2) dX6_element_97 (by omega) rfl ?_
        refine m_inv2 hM dX6_element_98 vl_RX6_88 rfl rfl rfl (Nat.le_of_ble_eq_true rfl) (Nat.le_of_ble_eq_true rfl) ?_
        refine m_product0 hR (by omega) (by omega) ?_
        refine r_aload_n hC dX6_element_101 rfl ?_
        refine r_iload_n hC dX6_element_102 rfl ?_
        refine r_iconst hC dX6_element_103 rfl ?_
        refine r_iremE hC (2) dX6_element_104 (by omega) rfl ?_
        refine r_iload_n hC dX6_element_105 rfl ?_
        refine r_iconst hC dX6_element_106 rfl ?_
        refine r_idivE hC (1) dX6_element_107 (by omega) rfl ?_
        refine m_inv2 hM dX6_element_108 vl_RX6_88 rfl rfl rfl (Nat.le_of_ble_eq_true rfl) (Nat.le_of_ble_eq_true rfl) ?_
        refine m_product0 hR (by omega) (by omega) ?_
        refine r_icmp_ne (tgt := 118) hC dX6_element_111 rfl (fun h32 => by omega) (fun h32 => ?_)
        refine r_iconst hC dX6_element_114 rfl ?_
        refine r_goto (tgt := 119) hC dX6_element_115 rfl ?_
        refine r_iaddE hC (7) dX6_element_119 rfl (inR_lit rfl) ?_
        refine r_istore_n hC dX6_element_120 rfl ?_
        refine r_iincE hC (7) dX6_element_121 rfl rfl rfl (inR_lit rfl) ?_
        show K _ [_, _, _, _] _ _
        refine r_goto (tgt := 84) hC dX6_element_124 rfl ?_
        refine r_iload_n hC dX6_element_84 rfl ?_
        refine r_bipush hC dX6_element_85 rfl ?_
        refine r_icmp_ge (tgt := 127) hC dX6_element_87 rfl (fun h33 => by omega) (fun h33 => ?_)
        refine r_iload_n hC dX6_element_90 rfl ?_
        refine r_aload_n hC dX6_element_91 rfl ?_
        refine r_iload_n hC dX6_element_92 rfl ?_
        refine r_iconst hC dX6_element_93 rfl ?_
        refine r_idivE hC (1) dX6_element_94 (by omega) rfl ?_
        refine r_iload_n hC dX6_element_95 rfl ?_
        refine r_iconst hC dX6_element_96 rfl ?_
        refine r_iremE hC (3) dX6_element_97 (by omega) rfl ?_
        refine m_inv2 hM dX6_element_98 vl_RX6_88 rfl rfl rfl (Nat.le_of_ble_eq_true rfl) (Nat.le_of_ble_eq_true rfl) ?_
        refine m_product0 hR (by omega) (by omega) ?_
        refine r_aload_n hC dX6_element_101 rfl ?_
        refine r_iload_n hC dX6_element_102 rfl ?_
        refine r_iconst hC dX6_element_103 rfl ?_
        refine r_iremE hC (3) dX6_element_104 (by omega) rfl ?_
        refine r_iload_n hC dX6_element_105 rfl ?_
        refine r_iconst hC dX6_element_106 rfl ?_
        refine r_idivE hC (1) dX6_element_107 (by omega) rfl ?_
        refine m_inv2 hM dX6_element_108 vl_RX6_88 rfl rfl rfl (Nat.le_of_ble_eq_true rfl) (Nat.le_of_ble_eq_true rfl) ?_
        refine m_product0 hR (by omega) (by omega) ?_
        refine r_icmp_ne (tgt := 118) hC dX6_element_111 rfl (fun h36 => by omega) (fun h36 => ?_)
        refine r_iconst hC dX6_element_114 rfl ?_
        refine r_goto (tgt := 119) hC dX6_element_115 rfl ?_
        refine r_iaddE hC (8) dX6_element_119 rfl (inR_lit rfl) ?_
        refine r_istore_n hC dX6_element_120 rfl ?_
        refine r_iincE hC (8) dX6_element_121 rfl rfl rfl (inR_lit rfl) ?_
        refine r_goto (tgt := 84) hC dX6_element_124 rfl ?_
        refine r_iload_n hC dX6_element_84 rfl ?_
        refine r_bipush hC dX6_element_85 rfl ?_
        refine r_icmp_ge (tgt := 127) hC dX6_element_87 rfl (fun h37 => by omega) (fun h37 => ?_)
        refine r_iload_n hC dX6_element_90 rfl ?_
        refine r_aload_n hC dX6_element_91 rfl ?_
        refine r_iload_n hC dX6_element_92 rfl ?_
        refine r_iconst hC dX6_element_93 rfl ?_
        refine r_idivE hC (2) dX6_element_94 (by omega) rfl ?_
        refine r_iload_n hC dX6_element_95 rfl ?_
        refine r_iconst hC dX6_element_96 rfl ?_
        refine r_iremE hC (0) dX6_element_97 (by omega) rfl ?_
        refine m_inv2 hM dX6_element_98 vl_RX6_88 rfl rfl rfl (Nat.le_of_ble_eq_true rfl) (Nat.le_of_ble_eq_true rfl) ?_
        refine m_product0 hR (by omega) (by omega) ?_
        refine r_aload_n hC dX6_element_101 rfl ?_
        refine r_iload_n hC dX6_element_102 rfl ?_
        refine r_iconst hC dX6_element_103 rfl ?_
        refine r_iremE hC (0) dX6_element_104 (by omega) rfl ?_
        refine r_iload_n hC dX6_element_105 rfl ?_
        refine r_iconst hC dX6_element_106 rfl ?_
        refine r_idivE hC (2) dX6_element_107 (by omega) rfl ?_
        refine m_inv2 hM dX6_element_108 vl_RX6_88 rfl rfl rfl (Nat.le_of_ble_eq_true rfl) (Nat.le_of_ble_eq_true rfl) ?_
        refine m_product0 hR (by omega) (by omega) ?_
        refine r_icmp_ne (tgt := 118) hC dX6_element_111 rfl (fun h40 => by omega) (fun h40 => ?_)
        refine r_iconst hC dX6_element_114 rfl ?_
        refine r_goto (tgt := 119) hC dX6_element_115 rfl ?_
        refine r_iaddE hC (9) dX6_element_119 rfl (inR_lit rfl) ?_
        refine r_istore_n hC dX6_element_120 rfl ?_
        show K _ [_, _, _, _] _ _
        refine r_iincE hC (9) dX6_element_121 rfl rfl rfl (inR_lit rfl) ?_
        refine r_goto (tgt := 84) hC dX6_element_124 rfl ?_
        refine r_iload_n hC dX6_element_84 rfl ?_
        refine r_bipush hC dX6_element_85 rfl ?_
        refine r_icmp_ge (tgt := 127) hC dX6_element_87 rfl (fun h41 => by omega) (fun h41 => ?_)
        refine r_iload_n hC dX6_element_90 rfl ?_
        refine r_aload_n hC dX6_element_91 rfl ?_
        refine r_iload_n hC dX6_element_92 rfl ?_
        refine r_iconst hC dX6_element_93 rfl ?_
        refine r_idivE hC (2) dX6_element_94 (by omega) rfl ?_
        refine r_iload_n hC dX6_element_95 rfl ?_
        refine r_iconst hC dX6_element_96 rfl ?_
        refine r_iremE hC (1) dX6_element_97 (by omega) rfl ?_
        refine m_inv2 hM dX6_element_98 vl_RX6_88 rfl rfl rfl (Nat.le_of_ble_eq_true rfl) (Nat.le_of_ble_eq_true rfl) ?_
        refine m_product0 hR (by omega) (by omega) ?_
        refine r_aload_n hC dX6_element_101 rfl ?_
        refine r_iload_n hC dX6_element_102 rfl ?_
        refine r_iconst hC dX6_element_103 rfl ?_
        refine r_iremE hC (1) dX6_element_104 (by omega) rfl ?_
        refine r_iload_n hC dX6_element_105 rfl ?_
        refine r_iconst hC dX6_element_106 rfl ?_
        refine r_idivE hC (2) dX6_element_107 (by omega) rfl ?_
        refine m_inv2 hM dX6_element_108 vl_RX6_88 rfl rfl rfl (Nat.le_of_ble_eq_true rfl) (Nat.le_of_ble_eq_true rfl) ?_
        refine m_product0 hR (by omega) (by omega) ?_
        refine r_icmp_ne (tgt := 118) hC dX6_element_111 rfl (fun h44 => by omega) (fun h44 => ?_)
        refine r_iconst hC dX6_element_114 rfl ?_
        refine r_goto (tgt := 119) hC dX6_element_115 rfl ?_
        refine r_iaddE hC (10) dX6_element_119 rfl (inR_lit rfl) ?_
        refine r_istore_n hC dX6_element_120 rfl ?_
        refine r_iincE hC (10) dX6_element_121 rfl rfl rfl (inR_lit rfl) ?_
        show K _ [_, _, _, _] _ _
        refine r_goto (tgt := 84) hC dX6_element_124 rfl ?_
        refine r_iload_n hC dX6_element_84 rfl ?_
        refine r_bipush hC dX6_element_85 rfl ?_
        refine r_icmp_ge (tgt := 127) hC dX6_element_87 rfl (fun h45 => by omega) (fun h45 => ?_)
        refine r_iload_n hC dX6_element_90 rfl ?_
        refine r_aload_n hC dX6_element_91 rfl ?_
        refine r_iload_n hC dX6_element_92 rfl ?_
        refine r_iconst hC dX6_element_93 rfl ?_
        refine r_idivE hC (2) dX6_element_94 (by omega) rfl ?_
        refine r_iload_n hC dX6_element_95 rfl ?_
        refine r_iconst hC dX6_element_96 rfl ?_
        refine r_iremE hC (2) dX6_element_97 (by omega) rfl ?_
        refine m_inv2 hM dX6_element_98 vl_RX6_88 rfl rfl rfl (Nat.le_of_ble_eq_true rfl) (Nat.le_of_ble_eq_true rfl) ?_
        refine m_product0 hR (by omega) (by omega) ?_
        refine r_aload_n hC dX6_element_101 rfl ?_
        refine r_iload_n hC dX6_element_102 rfl ?_
        refine r_iconst hC dX6_element_103 rfl ?_
        refine r_iremE hC (2) dX6_element_104 (by omega) rfl ?_
        refine r_iload_n hC dX6_element_105 rfl ?_
        refine r_iconst hC dX6_element_106 rfl ?_
        refine r_idivE hC (2) dX6_element_107 (by omega) rfl ?_
        refine m_inv2 hM dX6_element_108 vl_RX6_88 rfl rfl rfl (Nat.le_of_ble_eq_true rfl) (Nat.le_of_ble_eq_true rfl) ?_
        refine m_product0 hR (by omega) (by omega) ?_
        refine r_icmp_ne (tgt := 118) hC dX6_element_111 rfl (fun h48 => by omega) (fun h48 => ?_)
        refine r_iconst hC dX6_element_114 rfl ?_
        refine r_goto (tgt := 119) hC dX6_element_115 rfl ?_
        refine r_iaddE hC (11) dX6_element_119 rfl (inR_lit rfl) ?_
        refine r_istore_n hC dX6_element_120 rfl ?_
        refine r_iincE hC (11) dX6_element_121 rfl rfl rfl (inR_lit rfl) ?_
        refine r_goto (tgt := 84) hC dX6_element_124 rfl ?_
        refine r_iload_n hC dX6_element_84 rfl ?_
        refine r_bipush hC dX6_element_85 rfl ?_
        refine r_icmp_ge (tgt := 127) hC dX6_element_87 rfl (fun h49 => by omega) (fun h49 => ?_)
        refine r_iload_n hC dX6_element_90 rfl ?_
        refine r_aload_n hC dX6_element_91 rfl ?_
        refine r_iload_n hC dX6_element_92 rfl ?_
        refine r_iconst hC dX6_element_93 rfl ?_
        refine r_idivE hC (2) dX6_element_94 (by omega) rfl ?_
        refine r_iload_n hC dX6_element_95 rfl ?_
        refine r_iconst hC dX6_element_96 rfl ?_
        refine r_iremE hC (3) dX6_element_97 (by omega) rfl ?_
        refine m_inv2 hM dX6_element_98 vl_RX6_88 rfl rfl rfl (Nat.le_of_ble_eq_true rfl) (Nat.le_of_ble_eq_true rfl) ?_
        refine m_product0 hR (by omega) (by omega) ?_
        refine r_aload_n hC dX6_element_101 rfl ?_
        refine r_iload_n hC dX6_element_102 rfl ?_
        refine r_iconst hC dX6_element_103 rfl ?_
        refine r_iremE hC (3) dX6_element_104 (by omega) rfl ?_
        refine r_iload_n hC dX6_element_105 rfl ?_
        refine r_iconst hC dX6_element_106 rfl ?_
        refine r_idivE hC (2) dX6_element_107 (by omega) rfl ?_
        refine m_inv2 hM dX6_element_108 vl_RX6_88 rfl rfl rfl (Nat.le_of_ble_eq_true rfl) (Nat.le_of_ble_eq_true rfl) ?_
        refine m_product0 hR (by omega) (by omega) ?_
        refine r_icmp_ne (tgt := 118) hC dX6_element_111 rfl (fun h52 => by omega) (fun h52 => ?_)
        refine r_iconst hC dX6_element_114 rfl ?_
        refine r_goto (tgt := 119) hC dX6_element_115 rfl ?_
        refine r_iaddE hC (12) dX6_element_119 rfl (inR_lit rfl) ?_
        refine r_istore_n hC dX6_element_120 rfl ?_
        show K _ [_, _, _, _] _ _
        refine r_iincE hC (12) dX6_element_121 rfl rfl rfl (inR_lit rfl) ?_
        refine r_goto (tgt := 84) hC dX6_element_124 rfl ?_
        refine r_iload_n hC dX6_element_84 rfl ?_
        refine r_bipush hC dX6_element_85 rfl ?_
        refine r_icmp_ge (tgt := 127) hC dX6_element_87 rfl (fun h53 => by omega) (fun h53 => ?_)
        refine r_iload_n hC dX6_element_90 rfl ?_
        refine r_aload_n hC dX6_element_91 rfl ?_
        refine r_iload_n hC dX6_element_92 rfl ?_
        refine r_iconst hC dX6_element_93 rfl ?_
        refine r_idivE hC (3) dX6_element_94 (by omega) rfl ?_
        refine r_iload_n hC dX6_element_95 rfl ?_
        refine r_iconst hC dX6_element_96 rfl ?_
        refine r_iremE hC (0) dX6_element_97 (by omega) rfl ?_
        refine m_inv2 hM dX6_element_98 vl_RX6_88 rfl rfl rfl (Nat.le_of_ble_eq_true rfl) (Nat.le_of_ble_eq_true rfl) ?_
        refine m_product0 hR (by omega) (by omega) ?_
        refine r_aload_n hC dX6_element_101 rfl ?_
        refine r_iload_n hC dX6_element_102 rfl ?_
        refine r_iconst hC dX6_element_103 rfl ?_
        refine r_iremE hC (0) dX6_element_104 (by omega) rfl ?_
        refine r_iload_n hC dX6_element_105 rfl ?_
        refine r_iconst hC dX6_element_106 rfl ?_
        refine r_idivE hC (3) dX6_element_107 (by omega) rfl ?_
        refine m_inv2 hM dX6_element_108 vl_RX6_88 rfl rfl rfl (Nat.le_of_ble_eq_true rfl) (Nat.le_of_ble_eq_true rfl) ?_
        refine m_product0 hR (by omega) (by omega) ?_
        refine r_icmp_ne (tgt := 118) hC dX6_element_111 rfl (fun h56 => by omega) (fun h56 => ?_)
        refine r_iconst hC dX6_element_114 rfl ?_
        refine r_goto (tgt := 119) hC dX6_element_115 rfl ?_
        refine r_iaddE hC (13) dX6_element_119 rfl (inR_lit rfl) ?_
        refine r_istore_n hC dX6_element_120 rfl ?_
        refine r_iincE hC (13) dX6_element_121 rfl rfl rfl (inR_lit rfl) ?_
        show K _ [_, _, _, _] _ _
        refine r_goto (tgt := 84) hC dX6_element_124 rfl ?_
        refine r_iload_n hC dX6_element_84 rfl ?_
        refine r_bipush hC dX6_element_85 rfl ?_
        refine r_icmp_ge (tgt := 127) hC dX6_element_87 rfl (fun h57 => by omega) (fun h57 => ?_)
        refine r_iload_n hC dX6_element_90 rfl ?_
        refine r_aload_n hC dX6_element_91 rfl ?_
        refine r_iload_n hC dX6_element_92 rfl ?_
        refine r_iconst hC dX6_element_93 rfl ?_
        refine r_idivE hC (3) dX6_element_94 (by omega) rfl ?_
        refine r_iload_n hC dX6_element_95 rfl ?_
        refine r_iconst hC dX6_element_96 rfl ?_
        refine r_iremE hC (1) dX6_element_97 (by omega) rfl ?_
        refine m_inv2 hM dX6_element_98 vl_RX6_88 rfl rfl rfl (Nat.le_of_ble_eq_true rfl) (Nat.le_of_ble_eq_true rfl) ?_
        refine m_product0 hR (by omega) (by omega) ?_
        refine r_aload_n hC dX6_element_101 rfl ?_
        refine r_iload_n hC dX6_element_102 rfl ?_
        refine r_iconst hC dX6_element_103 rfl ?_
        refine r_iremE hC (1) dX6_element_104 (by omega) rfl ?_
        refine r_iload_n hC dX6_element_105 rfl ?_
        refine r_iconst hC dX6_element_106 rfl ?_
        refine r_idivE hC (3) dX6_element_107 (by omega) rfl ?_
        refine m_inv2 hM dX6_element_108 vl_RX6_88 rfl rfl rfl (Nat.le_of_ble_eq_true rfl) (Nat.le_of_ble_eq_true rfl) ?_
        refine m_product0 hR (by omega) (by omega) ?_
        refine r_icmp_ne (tgt := 118) hC dX6_element_111 rfl (fun h60 => by omega) (fun h60 => ?_)
        refine r_iconst hC dX6_element_114 rfl ?_
        refine r_goto (tgt := 119) hC dX6_element_115 rfl ?_
        refine r_iaddE hC (14) dX6_element_119 rfl (inR_lit rfl) ?_
        refine r_istore_n hC dX6_element_120 rfl ?_
        refine r_iincE hC (14) dX6_element_121 rfl rfl rfl (inR_lit rfl) ?_
        refine r_goto (tgt := 84) hC dX6_element_124 rfl ?_
        refine r_iload_n hC dX6_element_84 rfl ?_
        refine r_bipush hC dX6_element_85 rfl ?_
        refine r_icmp_ge (tgt := 127) hC dX6_element_87 rfl (fun h61 => by omega) (fun h61 => ?_)
        refine r_iload_n hC dX6_element_90 rfl ?_
        refine r_aload_n hC dX6_element_91 rfl ?_
        refine r_iload_n hC dX6_element_92 rfl ?_
        refine r_iconst hC dX6_element_93 rfl ?_
        refine r_idivE hC (3) dX6_element_94 (by omega) rfl ?_
        refine r_iload_n hC dX6_element_95 rfl ?_
        refine r_iconst hC dX6_element_96 rfl ?_
        refine r_iremE hC (2) dX6_element_97 (by omega) rfl ?_
        refine m_inv2 hM dX6_element_98 vl_RX6_88 rfl rfl rfl (Nat.le_of_ble_eq_true rfl) (Nat.le_of_ble_eq_true rfl) ?_
        refine m_product0 hR (by omega) (by omega) ?_
        refine r_aload_n hC dX6_element_101 rfl ?_
        refine r_iload_n hC dX6_element_102 rfl ?_
        refine r_iconst hC dX6_element_103 rfl ?_
        refine r_iremE hC (2) dX6_element_104 (by omega) rfl ?_
        refine r_iload_n hC dX6_element_105 rfl ?_
        refine r_iconst hC dX6_element_106 rfl ?_
        refine r_idivE hC (3) dX6_element_107 (by omega) rfl ?_
        refine m_inv2 hM dX6_element_108 vl_RX6_88 rfl rfl rfl (Nat.le_of_ble_eq_true rfl) (Nat.le_of_ble_eq_true rfl) ?_
        refine m_product0 hR (by omega) (by omega) ?_
        refine r_icmp_ne (tgt := 118) hC dX6_element_111 rfl (fun h64 => by omega) (fun h64 => ?_)
        refine r_iconst hC dX6_element_114 rfl ?_
        refine r_goto (tgt := 119) hC dX6_element_115 rfl ?_
        refine r_iaddE hC (15) dX6_element_119 rfl (inR_lit rfl) ?_
        refine r_istore_n hC dX6_element_120 rfl ?_
        show K _ [_, _, _, _] _ _
        refine r_iincE hC (15) dX6_element_121 rfl rfl rfl (inR_lit rfl) ?_
        refine r_goto (tgt := 84) hC dX6_element_124 rfl ?_
        refine r_iload_n hC dX6_element_84 rfl ?_
        refine r_bipush hC dX6_element_85 rfl ?_
        refine r_icmp_ge (tgt := 127) hC dX6_element_87 rfl (fun h65 => by omega) (fun h65 => ?_)
        refine r_iload_n hC dX6_element_90 rfl ?_
        refine r_aload_n hC dX6_element_91 rfl ?_
        refine r_iload_n hC dX6_element_92 rfl ?_
        refine r_iconst hC dX6_element_93 rfl ?_
        refine r_idivE hC (3) dX6_element_94 (by omega) rfl ?_
        refine r_iload_n hC dX6_element_95 rfl ?_
        refine r_iconst hC dX6_element_96 rfl ?_
        refine r_iremE hC (3) dX6_element_97 (by omega) rfl ?_
        refine m_inv2 hM dX6_element_98 vl_RX6_88 rfl rfl rfl (Nat.le_of_ble_eq_true rfl) (Nat.le_of_ble_eq_true rfl) ?_
        refine m_product0 hR (by omega) (by omega) ?_
        refine r_aload_n hC dX6_element_101 rfl ?_
        refine r_iload_n hC dX6_element_102 rfl ?_
        refine r_iconst hC dX6_element_103 rfl ?_
        refine r_iremE hC (3) dX6_element_104 (by omega) rfl ?_
        refine r_iload_n hC dX6_element_105 rfl ?_
        refine r_iconst hC dX6_element_106 rfl ?_
        refine r_idivE hC (3) dX6_element_107 (by omega) rfl ?_
        refine m_inv2 hM dX6_element_108 vl_RX6_88 rfl rfl rfl (Nat.le_of_ble_eq_true rfl) (Nat.le_of_ble_eq_true rfl) ?_
        refine m_product0 hR (by omega) (by omega) ?_
        refine r_icmp_ne (tgt := 118) hC dX6_element_111 rfl (fun h68 => by omega) (fun h68 => ?_)
        refine r_iconst hC dX6_element_114 rfl ?_
        refine r_goto (tgt := 119) hC dX6_element_115 rfl ?_
        refine r_iaddE hC (16) dX6_element_119 rfl (inR_lit rfl) ?_
        refine r_istore_n hC dX6_element_120 rfl ?_
        refine r_iincE hC (16) dX6_element_121 rfl rfl rfl (inR_lit rfl) ?_
        show K _ [_, _, _, _] _ _
        refine r_goto (tgt := 84) hC dX6_element_124 rfl ?_
        refine r_iload_n hC dX6_element_84 rfl ?_
        refine r_bipush hC dX6_element_85 rfl ?_
        refine r_icmp_ge (tgt := 127) hC dX6_element_87 rfl (fun h69 => ?_) (fun h69 => by omega)
        refine r_iload_n hC dX6_element_127 rfl ?_
        refine t_iret hK rfl dX6_element_128 ?_
        first | exact k _ (by omega) | (exfalso; omega)
      · refine r_iconst hC dX6_element_80 rfl ?_
        refine t_iret hK rfl dX6_element_81 ?_
        first | exact k _ (by omega) | (exfalso; omega)
    · refine r_iconst hC dX6_element_42 rfl ?_
      refine r_istore_n hC dX6_element_43 rfl ?_
      refine r_iload_n hC dX6_element_44 rfl ?_
      refine r_iconst hC dX6_element_45 rfl ?_
      refine r_icmp_ge (tgt := 73) hC dX6_element_46 rfl (fun h70 => by omega) (fun h70 => ?_)
      refine r_iload_n hC dX6_element_49 rfl ?_
      refine r_aload_n hC dX6_element_50 rfl ?_
      refine r_iload_n hC dX6_element_51 rfl ?_
      refine r_iload_n hC dX6_element_52 rfl ?_
      refine m_inv2 hM dX6_element_53 vl_RX6_88 rfl rfl rfl (Nat.le_of_ble_eq_true rfl) (Nat.le_of_ble_eq_true rfl) ?_
      refine m_product0 hR (by omega) (by omega) ?_
      refine r_iload_n hC dX6_element_56 rfl ?_
      refine r_icmp_ne (tgt := 64) hC dX6_element_57 rfl (fun h72 => by omega) (fun h72 => ?_)
      refine r_iconst hC dX6_element_60 rfl ?_
      refine r_goto (tgt := 65) hC dX6_element_61 rfl ?_
      refine r_iaddE hC (1) dX6_element_65 rfl (inR_lit rfl) ?_
      refine r_istore_n hC dX6_element_66 rfl ?_
      refine r_iincE hC (1) dX6_element_67 rfl rfl rfl (inR_lit rfl) ?_
      show K _ [_, _, _, _] _ _
      refine r_goto (tgt := 44) hC dX6_element_70 rfl ?_
      refine r_iload_n hC dX6_element_44 rfl ?_
      refine r_iconst hC dX6_element_45 rfl ?_
      refine r_icmp_ge (tgt := 73) hC dX6_element_46 rfl (fun h73 => by omega) (fun h73 => ?_)
      refine r_iload_n hC dX6_element_49 rfl ?_
      refine r_aload_n hC dX6_element_50 rfl ?_
      refine r_iload_n hC dX6_element_51 rfl ?_
      refine r_iload_n hC dX6_element_52 rfl ?_
      refine m_inv2 hM dX6_element_53 vl_RX6_88 rfl rfl rfl (Nat.le_of_ble_eq_true rfl) (Nat.le_of_ble_eq_true rfl) ?_
      refine m_product0 hR (by omega) (by omega) ?_
      refine r_iload_n hC dX6_element_56 rfl ?_
      refine r_icmp_ne (tgt := 64) hC dX6_element_57 rfl (fun h75 => ?_) (fun h75 => by omega)
      refine r_iconst hC dX6_element_64 rfl ?_
      refine r_iaddE hC (1) dX6_element_65 rfl (inR_lit rfl) ?_
      refine r_istore_n hC dX6_element_66 rfl ?_
      refine r_iincE hC (2) dX6_element_67 rfl rfl rfl (inR_lit rfl) ?_
      refine r_goto (tgt := 44) hC dX6_element_70 rfl ?_
      refine r_iload_n hC dX6_element_44 rfl ?_
      refine r_iconst hC dX6_element_45 rfl ?_
      refine r_icmp_ge (tgt := 73) hC dX6_element_46 rfl (fun h76 => by omega) (fun h76 => ?_)
      refine r_iload_n hC dX6_element_49 rfl ?_
      refine r_aload_n hC dX6_element_50 rfl ?_
      refine r_iload_n hC dX6_element_51 rfl ?_
      refine r_iload_n hC dX6_element_52 rfl ?_
      refine m_inv2 hM dX6_element_53 vl_RX6_88 rfl rfl rfl (Nat.le_of_ble_eq_true rfl) (Nat.le_of_ble_eq_true rfl) ?_
      refine m_product0 hR (by omega) (by omega) ?_
      refine r_iload_n hC dX6_element_56 rfl ?_
      refine r_icmp_ne (tgt := 64) hC dX6_element_57 rfl (fun h78 => ?_) (fun h78 => by omega)
      refine r_iconst hC dX6_element_64 rfl ?_
      refine r_iaddE hC (1) dX6_element_65 rfl (inR_lit rfl) ?_
      refine r_istore_n hC dX6_element_66 rfl ?_
      show K _ [_, _, _, _] _ _
      refine r_iincE hC (3) dX6_element_67 rfl rfl rfl (inR_lit rfl) ?_
      refine r_goto (tgt := 44) hC dX6_element_70 rfl ?_
      refine r_iload_n hC dX6_element_44 rfl ?_
      refine r_iconst hC dX6_element_45 rfl ?_
      refine r_icmp_ge (tgt := 73) hC dX6_element_46 rfl (fun h79 => by omega) (fun h79 => ?_)
      refine r_iload_n hC dX6_element_49 rfl ?_
      refine r_aload_n hC dX6_element_50 rfl ?_
      refine r_iload_n hC dX6_element_51 rfl ?_
      refine r_iload_n hC dX6_element_52 rfl ?_
      refine m_inv2 hM dX6_element_53 vl_RX6_88 rfl rfl rfl (Nat.le_of_ble_eq_true rfl) (Nat.le_of_ble_eq_true rfl) ?_
      refine m_product0 hR (by omega) (by omega) ?_
      refine r_iload_n hC dX6_element_56 rfl ?_
      refine r_icmp_ne (tgt := 64) hC dX6_element_57 rfl (fun h81 => ?_) (fun h81 => by omega)
      refine r_iconst hC dX6_element_64 rfl ?_
      refine r_iaddE hC (1) dX6_element_65 rfl (inR_lit rfl) ?_
      refine r_istore_n hC dX6_element_66 rfl ?_
      refine r_iincE hC (4) dX6_element_67 rfl rfl rfl (inR_lit rfl) ?_
      show K _ [_, _, _, _] _ _
      refine r_goto (tgt := 44) hC dX6_element_70 rfl ?_
      refine r_iload_n hC dX6_element_44 rfl ?_
      refine r_iconst hC dX6_element_45 rfl ?_
      refine r_icmp_ge (tgt := 73) hC dX6_element_46 rfl (fun h82 => ?_) (fun h82 => by omega)
      refine r_iload_n hC dX6_element_73 rfl ?_
      refine t_iret hK rfl dX6_element_74 ?_
      first | exact k _ (by omega) | (exfalso; omega)
  · refine r_iconst hC dX6_element_9 rfl ?_
    refine r_istore_n hC dX6_element_10 rfl ?_
    refine r_iload_n hC dX6_element_11 rfl ?_
    refine r_iconst hC dX6_element_12 rfl ?_
    refine r_icmp_ge (tgt := 33) hC dX6_element_13 rfl (fun h83 => by omega) (fun h83 => ?_)
    refine r_aload_n hC dX6_element_16 rfl ?_
    refine r_iload_n hC dX6_element_17 rfl ?_
    refine r_iload_n hC dX6_element_18 rfl ?_
    refine m_inv2 hM dX6_element_19 vl_RX6_101 rfl rfl rfl (Nat.le_of_ble_eq_true rfl) (Nat.le_of_ble_eq_true rfl) ?_
    refine m_isSuch0 hR (by omega) (by omega) (fun rh84 h84 => ?_)
    refine r_if_eq (tgt := 27) hC dX6_element_22 rfl (fun h85 => ?_) (fun h85 => ?_)
    · refine r_iincE hC (1) dX6_element_27 rfl rfl rfl (inR_lit rfl) ?_
      refine r_goto (tgt := 11) hC dX6_element_30 rfl ?_
      refine r_iload_n hC dX6_element_11 rfl ?_
      refine r_iconst hC dX6_element_12 rfl ?_
      refine r_icmp_ge (tgt := 33) hC dX6_element_13 rfl (fun h86 => by omega) (fun h86 => ?_)
      refine r_aload_n hC dX6_element_16 rfl ?_
      refine r_iload_n hC dX6_element_17 rfl ?_
      refine r_iload_n hC dX6_element_18 rfl ?_
      refine m_inv2 hM dX6_element_19 vl_RX6_101 rfl rfl rfl (Nat.le_of_ble_eq_true rfl) (Nat.le_of_ble_eq_true rfl) ?_
      refine m_isSuch0 hR (by omega) (by omega) (fun rh87 h87 => ?_)
      refine r_if_eq (tgt := 27) hC dX6_element_22 rfl (fun h88 => ?_) (fun h88 => ?_)
      · refine r_iincE hC (2) dX6_element_27 rfl rfl rfl (inR_lit rfl) ?_
        refine r_goto (tgt := 11) hC dX6_element_30 rfl ?_
        refine r_iload_n hC dX6_element_11 rfl ?_
        refine r_iconst hC dX6_element_12 rfl ?_
        refine r_icmp_ge (tgt := 33) hC dX6_element_13 rfl (fun h89 => by omega) (fun h89 => ?_)
        refine r_aload_n hC dX6_element_16 rfl ?_
        refine r_iload_n hC dX6_element_17 rfl ?_
        refine r_iload_n hC dX6_element_18 rfl ?_
        refine m_inv2 hM dX6_element_19 vl_RX6_101 rfl rfl rfl (Nat.le_of_ble_eq_true rfl) (Nat.le_of_ble_eq_true rfl) ?_
        refine m_isSuch0 hR (by omega) (by omega) (fun rh90 h90 => ?_)
        refine r_if_eq (tgt := 27) hC dX6_element_22 rfl (fun h91 => ?_) (fun h91 => ?_)
        · refine r_iincE hC (3) dX6_element_27 rfl rfl rfl (inR_lit rfl) ?_
          refine r_goto (tgt := 11) hC dX6_element_30 rfl ?_
          refine r_iload_n hC dX6_element_11 rfl ?_
          refine r_iconst hC dX6_element_12 rfl ?_
          refine r_icmp_ge (tgt := 33) hC dX6_element_13 rfl (fun h92 => by omega) (fun h92 => ?_)
          refine r_aload_n hC dX6_element_16 rfl ?_
          refine r_iload_n hC dX6_element_17 rfl ?_
          refine r_iload_n hC dX6_element_18 rfl ?_
          refine m_inv2 hM dX6_element_19 vl_RX6_101 rfl rfl rfl (Nat.le_of_ble_eq_true rfl) (Nat.le_of_ble_eq_true rfl) ?_
          refine m_isSuch0 hR (by omega) (by omega) (fun rh93 h93 => ?_)
          refine r_if_eq (tgt := 27) hC dX6_element_22 rfl (fun h94 => ?_) (fun h94 => ?_)
          · refine r_iincE hC (4) dX6_element_27 rfl rfl rfl (inR_lit rfl) ?_
            refine r_goto (tgt := 11) hC dX6_element_30 rfl ?_
            refine r_iload_n hC dX6_element_11 rfl ?_
            refine r_iconst hC dX6_element_12 rfl ?_
            refine r_icmp_ge (tgt := 33) hC dX6_element_13 rfl (fun h95 => ?_) (fun h95 => by omega)
            refine r_iconst hC dX6_element_33 rfl ?_
            refine t_iret hK rfl dX6_element_34 ?_
            first | exact k _ (by omega) | (exfalso; omega)
          · refine r_iload_n hC dX6_element_25 rfl ?_
            refine t_iret hK rfl dX6_element_26 ?_
            first | exact k _ (by omega) | (exfalso; omega)
        · refine r_iload_n hC dX6_element_25 rfl ?_
          refine t_iret hK rfl dX6_element_26 ?_
          first | exact k _ (by omega) | (exfalso; omega)
      · refine r_iload_n hC dX6_element_25 rfl ?_
        refine t_iret hK rfl dX6_element_26 ?_
        first | exact k _ (by omega) | (exfalso; omega)
    · refine r_iload_n hC dX6_element_25 rfl ?_
      refine t_iret hK rfl dX6_element_26 ?_
      first | exact k _ (by omega) | (exfalso; omega)
theorem m_set {d : Nat} {Post : Option Vl → Mm → Prop} {τ : Mm} {l f v : Int} (hl : 0 ≤ l ∧ l < 8) (hf : 0 ≤ f ∧ f < 22) (k : ∀ τ2 : Mm, τ2 = mu τ 31 0 (22 * l + f) v → Post none τ2) : WP (d + 1) 139 [vR 30 0, vI l, vI f, vI v] τ Post := by
  intro K hK
  have hK : StpF cX6_set RX6 (none) (WP (d + 0)) Post K := hK
  have hM := hK.1
  have hC := hK.1.1
  show K 0 [some (vR 30 0), some (vI l), some (vI f), some (vI v)] [] τ
  refine r_aload_n hC dX6_set_0 rfl ?_
  refine m_getR hM dX6_set_1 fl_RX6_7 rfl rfl (vld_of (n := 1) rfl (by omega) (by omega)) ?_
  refine r_bipush hC dX6_set_4 rfl ?_
  refine r_iload_n hC dX6_set_6 rfl ?_
  refine r_imulS hC dX6_set_7 (by unfold inR; omega) ?_
  refine r_iload_n hC dX6_set_8 rfl ?_
  refine r_iaddS hC dX6_set_9 (by unfold inR; omega) ?_
  refine r_iload_n hC dX6_set_10 rfl ?_
  refine m_iast hM dX6_set_11 rfl (by omega) (by omega) ?_
  refine t_vret hK rfl dX6_set_12 ?_
  exact k _ rfl
theorem m_endWatches0 {d : Nat} {Post : Option Vl → Mm → Prop} {τ : Mm} {l : Int} (hl : 0 ≤ l) (hW : ∀ j : Int, 0 ≤ j → j < 8 → τ 39 0 j = -1) (k : Post none τ) : WP (d + 1) 182 [vR 30 0, vI l] τ Post := by
  intro K hK
  have hK : StpF cX6_endWatches RX6 (none) (WP (d + 0)) Post K := hK
  have hM := hK.1
  have hC := hK.1.1
  show K 0 [some (vR 30 0), some (vI l), none] [] τ
  refine r_iconst hC dX6_endWatches_0 rfl ?_
  refine r_istore_n hC dX6_endWatches_1 rfl ?_
  refine r_iload_n hC dX6_endWatches_2 rfl ?_
  refine r_bipush hC dX6_endWatches_3 rfl ?_
  refine r_icmp_ge (tgt := 31) hC dX6_endWatches_5 rfl (fun h1 => by omega) (fun h1 => ?_)
  refine r_aload_n hC dX6_endWatches_8 rfl ?_
  refine m_getR hM dX6_endWatches_9 fl_RX6_34 rfl rfl (vld_of (n := 1) rfl (by omega) (by omega)) ?_
  refine r_iload_n hC dX6_endWatches_12 rfl ?_
  refine m_iald hM dX6_endWatches_13 rfl (by omega) (by omega) ?_
  refine r_iload_n hC dX6_endWatches_14 rfl ?_
  have e1 := hW (0) (by decide) (by decide)
  refine r_icmp_ne (tgt := 25) hC dX6_endWatches_15 rfl (fun h2 => ?_) (fun h2 => by omega)
  refine r_iincE hC (1) dX6_endWatches_25 rfl rfl rfl (inR_lit rfl) ?_
  refine r_goto (tgt := 2) hC dX6_endWatches_28 rfl ?_
  refine r_iload_n hC dX6_endWatches_2 rfl ?_
  refine r_bipush hC dX6_endWatches_3 rfl ?_
  refine r_icmp_ge (tgt := 31) hC dX6_endWatches_5 rfl (fun h3 => by omega) (fun h3 => ?_)
  refine r_aload_n hC dX6_endWatches_8 rfl ?_
  refine m_getR hM dX6_endWatches_9 fl_RX6_34 rfl rfl (vld_of (n := 1) rfl (by omega) (by omega)) ?_
  refine r_iload_n hC dX6_endWatches_12 rfl ?_
  refine m_iald hM dX6_endWatches_13 rfl (by omega) (by omega) ?_
  refine r_iload_n hC dX6_endWatches_14 rfl ?_
  have e1 := hW (1) (by decide) (by decide)
  refine r_icmp_ne (tgt := 25) hC dX6_endWatches_15 rfl (fun h4 => ?_) (fun h4 => by omega)
  refine r_iincE hC (2) dX6_endWatches_25 rfl rfl rfl (inR_lit rfl) ?_
  show K _ [_, _, _] _ _
  refine r_goto (tgt := 2) hC dX6_endWatches_28 rfl ?_
  refine r_iload_n hC dX6_endWatches_2 rfl ?_
  refine r_bipush hC dX6_endWatches_3 rfl ?_
  refine r_icmp_ge (tgt := 31) hC dX6_endWatches_5 rfl (fun h5 => by omega) (fun h5 => ?_)
  refine r_aload_n hC dX6_endWatches_8 rfl ?_
  refine m_getR hM dX6_endWatches_9 fl_RX6_34 rfl rfl (vld_of (n := 1) rfl (by omega) (by omega)) ?_
  refine r_iload_n hC dX6_endWatches_12 rfl ?_
  refine m_iald hM dX6_endWatches_13 rfl (by omega) (by omega) ?_
  refine r_iload_n hC dX6_endWatches_14 rfl ?_
  have e1 := hW (2) (by decide) (by decide)
  refine r_icmp_ne (tgt := 25) hC dX6_endWatches_15 rfl (fun h6 => ?_) (fun h6 => by omega)
  refine r_iincE hC (3) dX6_endWatches_25 rfl rfl rfl (inR_lit rfl) ?_
  refine r_goto (tgt := 2) hC dX6_endWatches_28 rfl ?_
  refine r_iload_n hC dX6_endWatches_2 rfl ?_
  refine r_bipush hC dX6_endWatches_3 rfl ?_
  refine r_icmp_ge (tgt := 31) hC dX6_endWatches_5 rfl (fun h7 => by omega) (fun h7 => ?_)
  refine r_aload_n hC dX6_endWatches_8 rfl ?_
  refine m_getR hM dX6_endWatches_9 fl_RX6_34 rfl rfl (vld_of (n := 1) rfl (by omega) (by omega)) ?_
  refine r_iload_n hC dX6_endWatches_12 rfl ?_
  refine m_iald hM dX6_endWatches_13 rfl (by omega) (by omega) ?_
  refine r_iload_n hC dX6_endWatches_14 rfl ?_
  have e1 := hW (3) (by decide) (by decide)
  refine r_icmp_ne (tgt := 25) hC dX6_endWatches_15 rfl (fun h8 => ?_) (fun h8 => by omega)
  refine r_iincE hC (4) dX6_endWatches_25 rfl rfl rfl (inR_lit rfl) ?_
  refine r_goto (tgt := 2) hC dX6_endWatches_28 rfl ?_
  refine r_iload_n hC dX6_endWatches_2 rfl ?_
  refine r_bipush hC dX6_endWatches_3 rfl ?_
  refine r_icmp_ge (tgt := 31) hC dX6_endWatches_5 rfl (fun h9 => by omega) (fun h9 => ?_)
  refine r_aload_n hC dX6_endWatches_8 rfl ?_
  refine m_getR hM dX6_endWatches_9 fl_RX6_34 rfl rfl (vld_of (n := 1) rfl (by omega) (by omega)) ?_
  refine r_iload_n hC dX6_endWatches_12 rfl ?_
  refine m_iald hM dX6_endWatches_13 rfl (by omega) (by omega) ?_
  refine r_iload_n hC dX6_endWatches_14 rfl ?_
  have e1 := hW (4) (by decide) (by decide)
  refine r_icmp_ne (tgt := 25) hC dX6_endWatches_15 rfl (fun h10 => ?_) (fun h10 => by omega)
  refine r_iincE hC (5) dX6_endWatches_25 rfl rfl rfl (inR_lit rfl) ?_
  show K _ [_, _, _] _ _
  refine r_goto (tgt := 2) hC dX6_endWatches_28 rfl ?_
  refine r_iload_n hC dX6_endWatches_2 rfl ?_
  refine r_bipush hC dX6_endWatches_3 rfl ?_
  refine r_icmp_ge (tgt := 31) hC dX6_endWatches_5 rfl (fun h11 => by omega) (fun h11 => ?_)
  refine r_aload_n hC dX6_endWatches_8 rfl ?_
  refine m_getR hM dX6_endWatches_9 fl_RX6_34 rfl rfl (vld_of (n := 1) rfl (by omega) (by omega)) ?_
  refine r_iload_n hC dX6_endWatches_12 rfl ?_
  refine m_iald hM dX6_endWatches_13 rfl (by omega) (by omega) ?_
  refine r_iload_n hC dX6_endWatches_14 rfl ?_
  have e1 := hW (5) (by decide) (by decide)
  refine r_icmp_ne (tgt := 25) hC dX6_endWatches_15 rfl (fun h12 => ?_) (fun h12 => by omega)
  refine r_iincE hC (6) dX6_endWatches_25 rfl rfl rfl (inR_lit rfl) ?_
  refine r_goto (tgt := 2) hC dX6_endWatches_28 rfl ?_
  refine r_iload_n hC dX6_endWatches_2 rfl ?_
  refine r_bipush hC dX6_endWatches_3 rfl ?_
  refine r_icmp_ge (tgt := 31) hC dX6_endWatches_5 rfl (fun h13 => by omega) (fun h13 => ?_)
  refine r_aload_n hC dX6_endWatches_8 rfl ?_
  refine m_getR hM dX6_endWatches_9 fl_RX6_34 rfl rfl (vld_of (n := 1) rfl (by omega) (by omega)) ?_
  refine r_iload_n hC dX6_endWatches_12 rfl ?_
  refine m_iald hM dX6_endWatches_13 rfl (by omega) (by omega) ?_
  refine r_iload_n hC dX6_endWatches_14 rfl ?_
  have e1 := hW (6) (by decide) (by decide)
  refine r_icmp_ne (tgt := 25) hC dX6_endWatches_15 rfl (fun h14 => ?_) (fun h14 => by omega)
  refine r_iincE hC (7) dX6_endWatches_25 rfl rfl rfl (inR_lit rfl) ?_
  refine r_goto (tgt := 2) hC dX6_endWatches_28 rfl ?_
  refine r_iload_n hC dX6_endWatches_2 rfl ?_
  refine r_bipush hC dX6_endWatches_3 rfl ?_
  refine r_icmp_ge (tgt := 31) hC dX6_endWatches_5 rfl (fun h15 => by omega) (fun h15 => ?_)
  refine r_aload_n hC dX6_endWatches_8 rfl ?_
  refine m_getR hM dX6_endWatches_9 fl_RX6_34 rfl rfl (vld_of (n := 1) rfl (by omega) (by omega)) ?_
  refine r_iload_n hC dX6_endWatches_12 rfl ?_
  refine m_iald hM dX6_endWatches_13 rfl (by omega) (by omega) ?_
  refine r_iload_n hC dX6_endWatches_14 rfl ?_
  have e1 := hW (7) (by decide) (by decide)
  refine r_icmp_ne (tgt := 25) hC dX6_endWatches_15 rfl (fun h16 => ?_) (fun h16 => by omega)
  refine r_iincE hC (8) dX6_endWatches_25 rfl rfl rfl (inR_lit rfl) ?_
  show K _ [_, _, _] _ _
  refine r_goto (tgt := 2) hC dX6_endWatches_28 rfl ?_
  refine r_iload_n hC dX6_endWatches_2 rfl ?_
  refine r_bipush hC dX6_endWatches_3 rfl ?_
  refine r_icmp_ge (tgt := 31) hC dX6_endWatches_5 rfl (fun h17 => ?_) (fun h17 => by omega)
  refine t_vret hK rfl dX6_endWatches_31 ?_
  exact k
theorem m_endLinks0 {d : Nat} {Post : Option Vl → Mm → Prop} {τ : Mm} {l : Int} (hl : 0 ≤ l ∧ l ≤ 3) (hL : ∀ j : Int, 0 ≤ j → j < 4 → τ 45 0 j = -1) (k : Post none (mu τ 45 0 l (-1))) : WP (d + 1) 198 [vR 30 0, vI l] τ Post := by
  intro K hK
  have hK : StpF cX6_endLinks RX6 (none) (WP (d + 0)) Post K := hK
  have hM := hK.1
  have hC := hK.1.1
  show K 0 [some (vR 30 0), some (vI l), none] [] τ
  refine r_aload_n hC dX6_endLinks_0 rfl ?_
  refine m_getR hM dX6_endLinks_1 fl_RX6_52 rfl rfl (vld_of (n := 1) rfl (by omega) (by omega)) ?_
  refine r_iload_n hC dX6_endLinks_4 rfl ?_
  refine r_iconst hC dX6_endLinks_5 rfl ?_
  refine m_iast hM dX6_endLinks_6 rfl (by omega) (by omega) ?_
  refine r_iconst hC dX6_endLinks_7 rfl ?_
  refine r_istore_n hC dX6_endLinks_8 rfl ?_
  refine r_iload_n hC dX6_endLinks_9 rfl ?_
  refine r_iconst hC dX6_endLinks_10 rfl ?_
  refine r_icmp_ge (tgt := 37) hC dX6_endLinks_11 rfl (fun h1 => by omega) (fun h1 => ?_)
  refine r_aload_n hC dX6_endLinks_14 rfl ?_
  refine m_getR hM dX6_endLinks_15 fl_RX6_52 rfl rfl (vld_of (n := 1) rfl (by omega) (by omega)) ?_
  refine r_iload_n hC dX6_endLinks_18 rfl ?_
  refine m_iald hM dX6_endLinks_19 rfl (by omega) (by omega) ?_
  refine r_iload_n hC dX6_endLinks_20 rfl ?_
  have e1 : mu τ 45 0 l (-1) 45 0 (0) = -1 := by unfold mu; split; rfl; exact hL (0) (by decide) (by decide)
  refine r_icmp_ne (tgt := 31) hC dX6_endLinks_21 rfl (fun h2 => ?_) (fun h2 => by omega)
  refine r_iincE hC (1) dX6_endLinks_31 rfl rfl rfl (inR_lit rfl) ?_
  refine r_goto (tgt := 9) hC dX6_endLinks_34 rfl ?_
  refine r_iload_n hC dX6_endLinks_9 rfl ?_
  refine r_iconst hC dX6_endLinks_10 rfl ?_
  refine r_icmp_ge (tgt := 37) hC dX6_endLinks_11 rfl (fun h3 => by omega) (fun h3 => ?_)
  refine r_aload_n hC dX6_endLinks_14 rfl ?_
  refine m_getR hM dX6_endLinks_15 fl_RX6_52 rfl rfl (vld_of (n := 1) rfl (by omega) (by omega)) ?_
  refine r_iload_n hC dX6_endLinks_18 rfl ?_
  refine m_iald hM dX6_endLinks_19 rfl (by omega) (by omega) ?_
  refine r_iload_n hC dX6_endLinks_20 rfl ?_
  have e1 : mu τ 45 0 l (-1) 45 0 (1) = -1 := by unfold mu; split; rfl; exact hL (1) (by decide) (by decide)
  refine r_icmp_ne (tgt := 31) hC dX6_endLinks_21 rfl (fun h4 => ?_) (fun h4 => by omega)
  refine r_iincE hC (2) dX6_endLinks_31 rfl rfl rfl (inR_lit rfl) ?_
  show K _ [_, _, _] _ _
  refine r_goto (tgt := 9) hC dX6_endLinks_34 rfl ?_
  refine r_iload_n hC dX6_endLinks_9 rfl ?_
  refine r_iconst hC dX6_endLinks_10 rfl ?_
  refine r_icmp_ge (tgt := 37) hC dX6_endLinks_11 rfl (fun h5 => by omega) (fun h5 => ?_)
  refine r_aload_n hC dX6_endLinks_14 rfl ?_
  refine m_getR hM dX6_endLinks_15 fl_RX6_52 rfl rfl (vld_of (n := 1) rfl (by omega) (by omega)) ?_
  refine r_iload_n hC dX6_endLinks_18 rfl ?_
  refine m_iald hM dX6_endLinks_19 rfl (by omega) (by omega) ?_
  refine r_iload_n hC dX6_endLinks_20 rfl ?_
  have e1 : mu τ 45 0 l (-1) 45 0 (2) = -1 := by unfold mu; split; rfl; exact hL (2) (by decide) (by decide)
  refine r_icmp_ne (tgt := 31) hC dX6_endLinks_21 rfl (fun h6 => ?_) (fun h6 => by omega)
  refine r_iincE hC (3) dX6_endLinks_31 rfl rfl rfl (inR_lit rfl) ?_
  refine r_goto (tgt := 9) hC dX6_endLinks_34 rfl ?_
  refine r_iload_n hC dX6_endLinks_9 rfl ?_
  refine r_iconst hC dX6_endLinks_10 rfl ?_
  refine r_icmp_ge (tgt := 37) hC dX6_endLinks_11 rfl (fun h7 => by omega) (fun h7 => ?_)
  refine r_aload_n hC dX6_endLinks_14 rfl ?_
  refine m_getR hM dX6_endLinks_15 fl_RX6_52 rfl rfl (vld_of (n := 1) rfl (by omega) (by omega)) ?_
  refine r_iload_n hC dX6_endLinks_18 rfl ?_
  refine m_iald hM dX6_endLinks_19 rfl (by omega) (by omega) ?_
  refine r_iload_n hC dX6_endLinks_20 rfl ?_
  have e1 : mu τ 45 0 l (-1) 45 0 (3) = -1 := by unfold mu; split; rfl; exact hL (3) (by decide) (by decide)
  refine r_icmp_ne (tgt := 31) hC dX6_endLinks_21 rfl (fun h8 => ?_) (fun h8 => by omega)
  refine r_iincE hC (4) dX6_endLinks_31 rfl rfl rfl (inR_lit rfl) ?_
  refine r_goto (tgt := 9) hC dX6_endLinks_34 rfl ?_
  refine r_iload_n hC dX6_endLinks_9 rfl ?_
  refine r_iconst hC dX6_endLinks_10 rfl ?_
  refine r_icmp_ge (tgt := 37) hC dX6_endLinks_11 rfl (fun h9 => ?_) (fun h9 => by omega)
  refine t_vret hK rfl dX6_endLinks_37 ?_
  exact k
theorem m_openLanes1 {d : Nat} {Post : Option Vl → Mm → Prop} {τ : Mm}  {l : Int} (hl : 0 ≤ l ∧ l ≤ 3) (hO : ∀ i : Int, 0 ≤ i → i < 4 → (i = l ∧ τ 31 0 (22 * i + 0) = 1) ∨ (i ≠ l ∧ τ 31 0 (22 * i + 0) = 0)) (k : Post (some (vI 1)) τ) : WP (d + 2) 175 [vR 30 0] τ Post := by
  intro K hK
  have hK : StpF cX6_openLanes RX6 (some .int) (WP (d + 1)) Post K := hK
  have hM := hK.1
  have hC := hK.1.1
  show K 0 [some (vR 30 0), none, none] [] τ
  refine r_iconst hC dX6_openLanes_0 rfl ?_
  refine r_istore_n hC dX6_openLanes_1 rfl ?_
  refine r_iconst hC dX6_openLanes_2 rfl ?_
  refine r_istore_n hC dX6_openLanes_3 rfl ?_
  refine r_iload_n hC dX6_openLanes_4 rfl ?_
  refine r_iconst hC dX6_openLanes_5 rfl ?_
  refine r_icmp_ge (tgt := 24) hC dX6_openLanes_6 rfl (fun h1 => by omega) (fun h1 => ?_)
  have e0 := hO (0) (by decide) (by decide)
  refine r_iload_n hC dX6_openLanes_9 rfl ?_
  refine r_aload_n hC dX6_openLanes_10 rfl ?_
  refine r_iload_n hC dX6_openLanes_11 rfl ?_
  refine r_iconst hC dX6_openLanes_12 rfl ?_
  refine m_inv2 hM dX6_openLanes_13 vl_RX6_80 rfl rfl rfl (Nat.le_of_ble_eq_true rfl) (Nat.le_of_ble_eq_true rfl) ?_
  refine m_of (by omega) (by omega) ?_
  refine r_iaddS hC dX6_openLanes_16 (by unfold inR; omega) ?_
  refine r_istore_n hC dX6_openLanes_17 rfl ?_
  show K _ [_, _, _] _ _
  refine r_iincE hC (1) dX6_openLanes_18 rfl rfl rfl (inR_lit rfl) ?_
  refine r_goto (tgt := 4) hC dX6_openLanes_21 rfl ?_
  refine r_iload_n hC dX6_openLanes_4 rfl ?_
  refine r_iconst hC dX6_openLanes_5 rfl ?_
  refine r_icmp_ge (tgt := 24) hC dX6_openLanes_6 rfl (fun h3 => by omega) (fun h3 => ?_)
  have e1 := hO (1) (by decide) (by decide)
  refine r_iload_n hC dX6_openLanes_9 rfl ?_
  refine r_aload_n hC dX6_openLanes_10 rfl ?_
  refine r_iload_n hC dX6_openLanes_11 rfl ?_
  refine r_iconst hC dX6_openLanes_12 rfl ?_
  refine m_inv2 hM dX6_openLanes_13 vl_RX6_80 rfl rfl rfl (Nat.le_of_ble_eq_true rfl) (Nat.le_of_ble_eq_true rfl) ?_
  refine m_of (by omega) (by omega) ?_
  refine r_iaddS hC dX6_openLanes_16 (by unfold inR; omega) ?_
  refine r_istore_n hC dX6_openLanes_17 rfl ?_
  refine r_iincE hC (2) dX6_openLanes_18 rfl rfl rfl (inR_lit rfl) ?_
  show K _ [_, _, _] _ _
  refine r_goto (tgt := 4) hC dX6_openLanes_21 rfl ?_
  refine r_iload_n hC dX6_openLanes_4 rfl ?_
  refine r_iconst hC dX6_openLanes_5 rfl ?_
  refine r_icmp_ge (tgt := 24) hC dX6_openLanes_6 rfl (fun h5 => by omega) (fun h5 => ?_)
  have e2 := hO (2) (by decide) (by decide)
  refine r_iload_n hC dX6_openLanes_9 rfl ?_
  refine r_aload_n hC dX6_openLanes_10 rfl ?_
  refine r_iload_n hC dX6_openLanes_11 rfl ?_
  refine r_iconst hC dX6_openLanes_12 rfl ?_
  refine m_inv2 hM dX6_openLanes_13 vl_RX6_80 rfl rfl rfl (Nat.le_of_ble_eq_true rfl) (Nat.le_of_ble_eq_true rfl) ?_
  refine m_of (by omega) (by omega) ?_
  refine r_iaddS hC dX6_openLanes_16 (by unfold inR; omega) ?_
  refine r_istore_n hC dX6_openLanes_17 rfl ?_
  refine r_iincE hC (3) dX6_openLanes_18 rfl rfl rfl (inR_lit rfl) ?_
  refine r_goto (tgt := 4) hC dX6_openLanes_21 rfl ?_
  refine r_iload_n hC dX6_openLanes_4 rfl ?_
  refine r_iconst hC dX6_openLanes_5 rfl ?_
  refine r_icmp_ge (tgt := 24) hC dX6_openLanes_6 rfl (fun h7 => by omega) (fun h7 => ?_)
  have e3 := hO (3) (by decide) (by decide)
  refine r_iload_n hC dX6_openLanes_9 rfl ?_
  refine r_aload_n hC dX6_openLanes_10 rfl ?_
  refine r_iload_n hC dX6_openLanes_11 rfl ?_
  refine r_iconst hC dX6_openLanes_12 rfl ?_
  refine m_inv2 hM dX6_openLanes_13 vl_RX6_80 rfl rfl rfl (Nat.le_of_ble_eq_true rfl) (Nat.le_of_ble_eq_true rfl) ?_
  refine m_of (by omega) (by omega) ?_
  refine r_iaddS hC dX6_openLanes_16 (by unfold inR; omega) ?_
  refine r_istore_n hC dX6_openLanes_17 rfl ?_
  show K _ [_, _, _] _ _
  refine r_iincE hC (4) dX6_openLanes_18 rfl rfl rfl (inR_lit rfl) ?_
  refine r_goto (tgt := 4) hC dX6_openLanes_21 rfl ?_
  refine r_iload_n hC dX6_openLanes_4 rfl ?_
  refine r_iconst hC dX6_openLanes_5 rfl ?_
  refine r_icmp_ge (tgt := 24) hC dX6_openLanes_6 rfl (fun h9 => ?_) (fun h9 => by omega)
  refine r_iload_n hC dX6_openLanes_24 rfl ?_
  refine t_iret hK rfl dX6_openLanes_25 ?_
  exact post_of (by omega) k
theorem d0_open {d : Nat} {Post : Option Vl → Mm → Prop} {τ : Mm} {l o b z s : Int} (hR : FrR τ) (k : ∀ (r : Int) (τ2 : Mm), (((0 ≤ l ∧ l ≤ 3) ∧ (0 ≤ o ∧ o ≤ 9) ∧ (0 ≤ s ∧ s ≤ 10000) ∧ (b = 0 ∨ (b = 1 ∧ 1 ≤ z ∧ z ≤ 120) ∨ (b = 2 ∧ 1 ≤ z ∧ z ≤ 10000))) ∧ r = 1) ∨ (¬ ((0 ≤ l ∧ l ≤ 3) ∧ (0 ≤ o ∧ o ≤ 9) ∧ (0 ≤ s ∧ s ≤ 10000) ∧ (b = 0 ∨ (b = 1 ∧ 1 ≤ z ∧ z ≤ 120) ∨ (b = 2 ∧ 1 ≤ z ∧ z ≤ 10000))) ∧ r = -1) → Post (some (vI r)) τ2) : WP (d + 4) 174 [vR 30 0, vI l, vI o, vI b, vI z, vI s] τ Post := by
  intro K hK
  have hK : StpF cX6_open RX6 (some .int) (WP (d + 3)) Post K := hK
  have hM := hK.1
  have hC := hK.1.1
  show K 0 [some (vR 30 0), some (vI l), some (vI o), some (vI b), some (vI z), some (vI s), none] [] τ
  have L : ∀ (n : Nat) (i : Int) (τ1 : Mm), 0 ≤ i → i ≤ 22 → 22 - i < (n : Int) → (∀ j : Int, 0 ≤ j → j < 176 → τ1 31 0 j = 0) → (∀ (c : Nat) (x j : Int), c ≠ 31 → τ1 c x j = τ c x j) → ((0 ≤ l ∧ l ≤ 3) ∧ (0 ≤ o ∧ o ≤ 9) ∧ (0 ≤ s ∧ s ≤ 10000) ∧ (b = 0 ∨ (b = 1 ∧ 1 ≤ z ∧ z ≤ 120) ∨ (b = 2 ∧ 1 ≤ z ∧ z ≤ 10000))) → K 95 [some (vR 30 0), some (vI l), some (vI o), some (vI b), some (vI z), some (vI s), some (vI i)] [] τ1 := by
    intro n
    induction n with
    | zero => intro i τ1 h0 h1 h2 g2 g3 hv; omega
    | succ n ih =>
      intro i τ1 h0 h1 h2 g2 g3 hv
      refine r_iload hC dX6_open_95 rfl ?_
      refine r_bipush hC dX6_open_97 rfl ?_
      refine r_icmp_ge (tgt := 116) hC dX6_open_99 rfl (fun h1 => ?_) (fun h1 => ?_)
      · refine r_aload_n hC dX6_open_116 rfl ?_
        refine r_iload_n hC dX6_open_117 rfl ?_
        refine r_iconst hC dX6_open_118 rfl ?_
        refine r_iconst hC dX6_open_119 rfl ?_
        refine m_inv3 hM dX6_open_120 vl_RX6_173 rfl rfl rfl (Nat.le_of_ble_eq_true rfl) (Nat.le_of_ble_eq_true rfl) ?_
        refine m_set (by omega) (by omega) (fun ρ120 hs120 => ?_)
        refine r_aload_n hC dX6_open_123 rfl ?_
        refine r_iload_n hC dX6_open_124 rfl ?_
        refine r_iconst hC dX6_open_125 rfl ?_
        refine r_iload_n hC dX6_open_126 rfl ?_
        refine m_inv3 hM dX6_open_127 vl_RX6_173 rfl rfl rfl (Nat.le_of_ble_eq_true rfl) (Nat.le_of_ble_eq_true rfl) ?_
        refine m_set (by omega) (by omega) (fun ρ127 hs127 => ?_)
        refine r_aload_n hC dX6_open_130 rfl ?_
        refine r_iload_n hC dX6_open_131 rfl ?_
        refine r_iconst hC dX6_open_132 rfl ?_
        refine r_iload_n hC dX6_open_133 rfl ?_
        refine m_inv3 hM dX6_open_134 vl_RX6_173 rfl rfl rfl (Nat.le_of_ble_eq_true rfl) (Nat.le_of_ble_eq_true rfl) ?_
        refine m_set (by omega) (by omega) (fun ρ134 hs134 => ?_)
        refine r_aload_n hC dX6_open_137 rfl ?_
        refine r_iload_n hC dX6_open_138 rfl ?_
        refine r_iconst hC dX6_open_139 rfl ?_
        refine r_iload_n hC dX6_open_140 rfl ?_
        refine r_if_ne (tgt := 148) hC dX6_open_141 rfl (fun h5 => ?_) (fun h5 => ?_)
        · refine r_iload hC dX6_open_148 rfl ?_
          refine m_inv3 hM dX6_open_150 vl_RX6_173 rfl rfl rfl (Nat.le_of_ble_eq_true rfl) (Nat.le_of_ble_eq_true rfl) ?_
          refine m_set (by omega) (by omega) (fun ρ150 hs150 => ?_)
          refine r_aload_n hC dX6_open_153 rfl ?_
          refine r_iload_n hC dX6_open_154 rfl ?_
          refine r_iconst hC dX6_open_155 rfl ?_
          refine r_iload hC dX6_open_156 rfl ?_
          refine m_inv3 hM dX6_open_158 vl_RX6_173 rfl rfl rfl (Nat.le_of_ble_eq_true rfl) (Nat.le_of_ble_eq_true rfl) ?_
          refine m_set (by omega) (by omega) (fun ρ158 hs158 => ?_)
          refine r_aload_n hC dX6_open_161 rfl ?_
          refine r_iload_n hC dX6_open_162 rfl ?_
          refine r_bipush hC dX6_open_163 rfl ?_
          refine r_iconst hC dX6_open_165 rfl ?_
          refine m_inv3 hM dX6_open_166 vl_RX6_173 rfl rfl rfl (Nat.le_of_ble_eq_true rfl) (Nat.le_of_ble_eq_true rfl) ?_
          refine m_set (by omega) (by omega) (fun ρ166 hs166 => ?_)
          have hO : ∀ i : Int, 0 ≤ i → i < 4 → (i = l ∧ ρ166 31 0 (22 * i + 0) = 1) ∨ (i ≠ l ∧ ρ166 31 0 (22 * i + 0) = 0) := fun i a b => by
            rw [hs166, mu_ne (by rintro ⟨-, -, q⟩; omega), hs158, mu_ne (by rintro ⟨-, -, q⟩; omega), hs150, mu_ne (by rintro ⟨-, -, q⟩; omega), hs134, mu_ne (by rintro ⟨-, -, q⟩; omega), hs127, mu_ne (by rintro ⟨-, -, q⟩; omega), hs120]
            by_cases q : i = l
            · subst q; exact Or.inl ⟨rfl, mu_self _ _ _ _ _⟩
            · exact Or.inr ⟨q, (mu_ne (by rintro ⟨-, -, q2⟩; omega)).trans (g2 _ (by omega) (by omega))⟩
          have hN : ∀ (c : Nat) (x j : Int), c ≠ 31 → ρ166 c x j = τ c x j := fun c x j hc => by
            rw [hs166, mu_ne (fun q => hc q.1), hs158, mu_ne (fun q => hc q.1), hs150, mu_ne (fun q => hc q.1), hs134, mu_ne (fun q => hc q.1), hs127, mu_ne (fun q => hc q.1), hs120, mu_ne (fun q => hc q.1)]
            exact g3 c x j hc
          refine r_aload_n hC dX6_open_169 rfl ?_
          refine r_iload_n hC dX6_open_170 rfl ?_
          refine m_inv1 hM dX6_open_171 vl_RX6_176 rfl rfl rfl (Nat.le_of_ble_eq_true rfl) (Nat.le_of_ble_eq_true rfl) ?_
          refine m_endWatches0 (by omega) (fun j a b => (hN 39 0 j (by decide)).trans (hR.2.2.1 j a b)) ?_
          refine r_aload_n hC dX6_open_174 rfl ?_
          refine r_iload_n hC dX6_open_175 rfl ?_
          refine m_inv1 hM dX6_open_176 vl_RX6_179 rfl rfl rfl (Nat.le_of_ble_eq_true rfl) (Nat.le_of_ble_eq_true rfl) ?_
          refine m_endLinks0 (by omega) (fun j a b => (hN 45 0 j (by decide)).trans (hR.2.2.2 j a b)) ?_
          refine r_aload_n hC dX6_open_179 rfl ?_
          refine m_inv0 hM dX6_open_180 vl_RX6_182 rfl rfl rfl (Nat.le_of_ble_eq_true rfl) (Nat.le_of_ble_eq_true rfl) ?_
          refine m_openLanes1 (l := l) (by omega) (fun i a b => by rw [mu_ne (fun q => absurd q.1 (by decide))]; exact hO i a b) ?_
          refine t_iret hK rfl dX6_open_183 ?_
          exact k _ _ (by omega)
        · refine r_iconst hC dX6_open_144 rfl ?_
          refine r_goto (tgt := 150) hC dX6_open_145 rfl ?_
          refine m_inv3 hM dX6_open_150 vl_RX6_173 rfl rfl rfl (Nat.le_of_ble_eq_true rfl) (Nat.le_of_ble_eq_true rfl) ?_
          refine m_set (by omega) (by omega) (fun ρ150 hs150 => ?_)
          refine r_aload_n hC dX6_open_153 rfl ?_
          refine r_iload_n hC dX6_open_154 rfl ?_
          refine r_iconst hC dX6_open_155 rfl ?_
          refine r_iload hC dX6_open_156 rfl ?_
          refine m_inv3 hM dX6_open_158 vl_RX6_173 rfl rfl rfl (Nat.le_of_ble_eq_true rfl) (Nat.le_of_ble_eq_true rfl) ?_
          refine m_set (by omega) (by omega) (fun ρ158 hs158 => ?_)
          refine r_aload_n hC dX6_open_161 rfl ?_
          refine r_iload_n hC dX6_open_162 rfl ?_
          refine r_bipush hC dX6_open_163 rfl ?_
          refine r_iconst hC dX6_open_165 rfl ?_
          refine m_inv3 hM dX6_open_166 vl_RX6_173 rfl rfl rfl (Nat.le_of_ble_eq_true rfl) (Nat.le_of_ble_eq_true rfl) ?_
          refine m_set (by omega) (by omega) (fun ρ166 hs166 => ?_)
          have hO : ∀ i : Int, 0 ≤ i → i < 4 → (i = l ∧ ρ166 31 0 (22 * i + 0) = 1) ∨ (i ≠ l ∧ ρ166 31 0 (22 * i + 0) = 0) := fun i a b => by
            rw [hs166, mu_ne (by rintro ⟨-, -, q⟩; omega), hs158, mu_ne (by rintro ⟨-, -, q⟩; omega), hs150, mu_ne (by rintro ⟨-, -, q⟩; omega), hs134, mu_ne (by rintro ⟨-, -, q⟩; omega), hs127, mu_ne (by rintro ⟨-, -, q⟩; omega), hs120]
            by_cases q : i = l
            · subst q; exact Or.inl ⟨rfl, mu_self _ _ _ _ _⟩
            · exact Or.inr ⟨q, (mu_ne (by rintro ⟨-, -, q2⟩; omega)).trans (g2 _ (by omega) (by omega))⟩
          have hN : ∀ (c : Nat) (x j : Int), c ≠ 31 → ρ166 c x j = τ c x j := fun c x j hc => by
            rw [hs166, mu_ne (fun q => hc q.1), hs158, mu_ne (fun q => hc q.1), hs150, mu_ne (fun q => hc q.1), hs134, mu_ne (fun q => hc q.1), hs127, mu_ne (fun q => hc q.1), hs120, mu_ne (fun q => hc q.1)]
            exact g3 c x j hc
          refine r_aload_n hC dX6_open_169 rfl ?_
          refine r_iload_n hC dX6_open_170 rfl ?_
          refine m_inv1 hM dX6_open_171 vl_RX6_176 rfl rfl rfl (Nat.le_of_ble_eq_true rfl) (Nat.le_of_ble_eq_true rfl) ?_
          refine m_endWatches0 (by omega) (fun j a b => (hN 39 0 j (by decide)).trans (hR.2.2.1 j a b)) ?_
          refine r_aload_n hC dX6_open_174 rfl ?_
          refine r_iload_n hC dX6_open_175 rfl ?_
          refine m_inv1 hM dX6_open_176 vl_RX6_179 rfl rfl rfl (Nat.le_of_ble_eq_true rfl) (Nat.le_of_ble_eq_true rfl) ?_
          refine m_endLinks0 (by omega) (fun j a b => (hN 45 0 j (by decide)).trans (hR.2.2.2 j a b)) ?_
          refine r_aload_n hC dX6_open_179 rfl ?_
          refine m_inv0 hM dX6_open_180 vl_RX6_182 rfl rfl rfl (Nat.le_of_ble_eq_true rfl) (Nat.le_of_ble_eq_true rfl) ?_
          refine m_openLanes1 (l := l) (by omega) (fun i a b => by rw [mu_ne (fun q => absurd q.1 (by decide))]; exact hO i a b) ?_
          refine t_iret hK rfl dX6_open_183 ?_
          exact k _ _ (by omega)
      · refine r_aload_n hC dX6_open_102 rfl ?_
        refine r_iload_n hC dX6_open_103 rfl ?_
        refine r_iload hC dX6_open_104 rfl ?_
        refine r_iconst hC dX6_open_106 rfl ?_
        refine m_inv3 hM dX6_open_107 vl_RX6_173 rfl rfl rfl (Nat.le_of_ble_eq_true rfl) (Nat.le_of_ble_eq_true rfl) ?_
        refine m_set (by omega) (by omega) (fun ρ107 hs107 => ?_)
        refine r_iincS hC dX6_open_110 rfl rfl (by unfold inR; omega) ?_
        refine r_goto (tgt := 95) hC dX6_open_113 rfl ?_
        subst hs107
        exact ih (i + 1) _ (by omega) (by omega) (by omega) (fun j a b => by unfold mu; split; rfl; exact g2 j a b) (fun c x j hc => (mu_ne (fun q => hc q.1)).trans (g3 c x j hc)) hv
  refine r_iload_n hC dX6_open_0 rfl ?_
  refine r_iconst hC dX6_open_1 rfl ?_
  refine r_iconst hC dX6_open_2 rfl ?_
  refine m_ins3 hM dX6_open_3 tl_RX6_76 rfl (Nat.le_of_ble_eq_true rfl) (Nat.le_of_ble_eq_true rfl) ?_
  refine m_isIn (fun rh19 h19 => ?_)
  refine r_if_eq (tgt := 40) hC dX6_open_6 rfl (fun h20 => ?_) (fun h20 => ?_)
  · refine r_iconst hC dX6_open_40 rfl ?_
    refine t_iret hK rfl dX6_open_41 ?_
    exact k _ _ (by omega)
  · refine r_iload_n hC dX6_open_9 rfl ?_
    refine r_iconst hC dX6_open_10 rfl ?_
    refine r_bipush hC dX6_open_11 rfl ?_
    refine m_ins3 hM dX6_open_13 tl_RX6_76 rfl (Nat.le_of_ble_eq_true rfl) (Nat.le_of_ble_eq_true rfl) ?_
    refine m_isIn (fun rh21 h21 => ?_)
    refine r_if_eq (tgt := 40) hC dX6_open_16 rfl (fun h22 => ?_) (fun h22 => ?_)
    · refine r_iconst hC dX6_open_40 rfl ?_
      refine t_iret hK rfl dX6_open_41 ?_
      exact k _ _ (by omega)
    · refine r_iload_n hC dX6_open_19 rfl ?_
      refine r_iconst hC dX6_open_20 rfl ?_
      refine r_iconst hC dX6_open_21 rfl ?_
      refine m_ins3 hM dX6_open_22 tl_RX6_76 rfl (Nat.le_of_ble_eq_true rfl) (Nat.le_of_ble_eq_true rfl) ?_
      refine m_isIn (fun rh23 h23 => ?_)
      refine r_if_eq (tgt := 40) hC dX6_open_25 rfl (fun h24 => ?_) (fun h24 => ?_)
      · refine r_iconst hC dX6_open_40 rfl ?_
        refine t_iret hK rfl dX6_open_41 ?_
        exact k _ _ (by omega)
      · refine r_iload hC dX6_open_28 rfl ?_
        refine r_iconst hC dX6_open_30 rfl ?_
        refine r_sipush hC dX6_open_31 rfl ?_
        refine m_ins3 hM dX6_open_34 tl_RX6_76 rfl (Nat.le_of_ble_eq_true rfl) (Nat.le_of_ble_eq_true rfl) ?_
        refine m_isIn (fun rh25 h25 => ?_)
        refine r_if_ne (tgt := 42) hC dX6_open_37 rfl (fun h26 => ?_) (fun h26 => ?_)
        · refine r_iload_n hC dX6_open_42 rfl ?_
          refine r_iconst hC dX6_open_43 rfl ?_
          refine r_icmp_ne (tgt := 58) hC dX6_open_44 rfl (fun h27 => ?_) (fun h27 => ?_)
          · refine r_iload_n hC dX6_open_58 rfl ?_
            refine r_iconst hC dX6_open_59 rfl ?_
            refine r_icmp_ne (tgt := 77) hC dX6_open_60 rfl (fun h28 => ?_) (fun h28 => ?_)
            · refine r_iload_n hC dX6_open_77 rfl ?_
              refine r_bipush hC dX6_open_78 rfl ?_
              refine r_icmp_ne (tgt := 92) hC dX6_open_80 rfl (fun h29 => ?_) (fun h29 => ?_)
              · refine r_iconst hC dX6_open_92 rfl ?_
                refine r_istore hC dX6_open_93 rfl ?_
                exact L 23 0 τ (by omega) (by omega) (by omega) hR.1 (fun _ _ _ _ => rfl) (by omega)
              · refine r_aload_n hC dX6_open_83 rfl ?_
                refine m_inv0 hM dX6_open_84 vl_RX6_98 rfl rfl rfl (Nat.le_of_ble_eq_true rfl) (Nat.le_of_ble_eq_true rfl) ?_
                refine m_firstThree0 hR ?_
                refine r_if_lt (tgt := 92) hC dX6_open_87 rfl (fun h31 => ?_) (fun h31 => by omega)
                refine r_iconst hC dX6_open_92 rfl ?_
                refine r_istore hC dX6_open_93 rfl ?_
                exact L 23 0 τ (by omega) (by omega) (by omega) hR.1 (fun _ _ _ _ => rfl) (by omega)
            · refine r_iload hC dX6_open_63 rfl ?_
              refine r_iconst hC dX6_open_65 rfl ?_
              refine r_sipush hC dX6_open_66 rfl ?_
              refine m_ins3 hM dX6_open_69 tl_RX6_76 rfl (Nat.le_of_ble_eq_true rfl) (Nat.le_of_ble_eq_true rfl) ?_
              refine m_isIn (fun rh32 h32 => ?_)
              refine r_if_ne (tgt := 77) hC dX6_open_72 rfl (fun h33 => ?_) (fun h33 => ?_)
              · refine r_iload_n hC dX6_open_77 rfl ?_
                refine r_bipush hC dX6_open_78 rfl ?_
                refine r_icmp_ne (tgt := 92) hC dX6_open_80 rfl (fun h34 => ?_) (fun h34 => ?_)
                · refine r_iconst hC dX6_open_92 rfl ?_
                  refine r_istore hC dX6_open_93 rfl ?_
                  exact L 23 0 τ (by omega) (by omega) (by omega) hR.1 (fun _ _ _ _ => rfl) (by omega)
                · refine r_aload_n hC dX6_open_83 rfl ?_
                  refine m_inv0 hM dX6_open_84 vl_RX6_98 rfl rfl rfl (Nat.le_of_ble_eq_true rfl) (Nat.le_of_ble_eq_true rfl) ?_
                  refine m_firstThree0 hR ?_
                  refine r_if_lt (tgt := 92) hC dX6_open_87 rfl (fun h36 => ?_) (fun h36 => by omega)
                  refine r_iconst hC dX6_open_92 rfl ?_
                  refine r_istore hC dX6_open_93 rfl ?_
                  exact L 23 0 τ (by omega) (by omega) (by omega) hR.1 (fun _ _ _ _ => rfl) (by omega)
              · refine r_iconst hC dX6_open_75 rfl ?_
                refine t_iret hK rfl dX6_open_76 ?_
                exact k _ _ (by omega)
          · refine r_iload hC dX6_open_47 rfl ?_
            refine r_iconst hC dX6_open_49 rfl ?_
            refine r_bipush hC dX6_open_50 rfl ?_
            refine m_ins3 hM dX6_open_52 tl_RX6_76 rfl (Nat.le_of_ble_eq_true rfl) (Nat.le_of_ble_eq_true rfl) ?_
            refine m_isIn (fun rh37 h37 => ?_)
            refine r_if_eq (tgt := 75) hC dX6_open_55 rfl (fun h38 => ?_) (fun h38 => ?_)
            · refine r_iconst hC dX6_open_75 rfl ?_
              refine t_iret hK rfl dX6_open_76 ?_
              exact k _ _ (by omega)
            · refine r_iload_n hC dX6_open_58 rfl ?_
              refine r_iconst hC dX6_open_59 rfl ?_
              refine r_icmp_ne (tgt := 77) hC dX6_open_60 rfl (fun h39 => ?_) (fun h39 => ?_)
              · refine r_iload_n hC dX6_open_77 rfl ?_
                refine r_bipush hC dX6_open_78 rfl ?_
                refine r_icmp_ne (tgt := 92) hC dX6_open_80 rfl (fun h40 => ?_) (fun h40 => ?_)
                · refine r_iconst hC dX6_open_92 rfl ?_
                  refine r_istore hC dX6_open_93 rfl ?_
                  exact L 23 0 τ (by omega) (by omega) (by omega) hR.1 (fun _ _ _ _ => rfl) (by omega)
                · refine r_aload_n hC dX6_open_83 rfl ?_
                  refine m_inv0 hM dX6_open_84 vl_RX6_98 rfl rfl rfl (Nat.le_of_ble_eq_true rfl) (Nat.le_of_ble_eq_true rfl) ?_
                  refine m_firstThree0 hR ?_
                  refine r_if_lt (tgt := 92) hC dX6_open_87 rfl (fun h42 => ?_) (fun h42 => by omega)
                  refine r_iconst hC dX6_open_92 rfl ?_
                  refine r_istore hC dX6_open_93 rfl ?_
                  exact L 23 0 τ (by omega) (by omega) (by omega) hR.1 (fun _ _ _ _ => rfl) (by omega)
              · refine r_iload hC dX6_open_63 rfl ?_
                refine r_iconst hC dX6_open_65 rfl ?_
                refine r_sipush hC dX6_open_66 rfl ?_
                refine m_ins3 hM dX6_open_69 tl_RX6_76 rfl (Nat.le_of_ble_eq_true rfl) (Nat.le_of_ble_eq_true rfl) ?_
                refine m_isIn (fun rh43 h43 => ?_)
                refine r_if_ne (tgt := 77) hC dX6_open_72 rfl (fun h44 => ?_) (fun h44 => ?_)
                · refine r_iload_n hC dX6_open_77 rfl ?_
                  refine r_bipush hC dX6_open_78 rfl ?_
                  refine r_icmp_ne (tgt := 92) hC dX6_open_80 rfl (fun h45 => ?_) (fun h45 => ?_)
                  · refine r_iconst hC dX6_open_92 rfl ?_
                    refine r_istore hC dX6_open_93 rfl ?_
                    exact L 23 0 τ (by omega) (by omega) (by omega) hR.1 (fun _ _ _ _ => rfl) (by omega)
                  · refine r_aload_n hC dX6_open_83 rfl ?_
                    refine m_inv0 hM dX6_open_84 vl_RX6_98 rfl rfl rfl (Nat.le_of_ble_eq_true rfl) (Nat.le_of_ble_eq_true rfl) ?_
                    refine m_firstThree0 hR ?_
                    refine r_if_lt (tgt := 92) hC dX6_open_87 rfl (fun h47 => ?_) (fun h47 => by omega)
                    refine r_iconst hC dX6_open_92 rfl ?_
                    refine r_istore hC dX6_open_93 rfl ?_
                    exact L 23 0 τ (by omega) (by omega) (by omega) hR.1 (fun _ _ _ _ => rfl) (by omega)
                · refine r_iconst hC dX6_open_75 rfl ?_
                  refine t_iret hK rfl dX6_open_76 ?_
                  exact k _ _ (by omega)
        · refine r_iconst hC dX6_open_40 rfl ?_
          refine t_iret hK rfl dX6_open_41 ?_
          exact k _ _ (by omega)
